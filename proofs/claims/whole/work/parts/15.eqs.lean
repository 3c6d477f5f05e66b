/-! ===== Equations, but for set and its constructor (laid by wip/whole/m_eq.py) ===== -/
abbrev rmX0_putInto : Room := { frames := 2, cells := 0, slots := 0, locals := 49 }
set_option maxHeartbeats 4000000 in
set_option maxRecDepth 100000 in
theorem kX0_putInto (l : Launch) (G : xG) (B : Nat) (w : xM) (h r n : Nat) (f : xP) (h2 r2 n2 : Nat) (g : xP) (e : Nat) (iv : xF) (hp : xPoly G w h r n f) (hq : xPoly G w h2 r2 n2 g) (hne : h2 ≠ h) (hnr : r2 ≠ r) (he : e < n) (hfit : xlen g n2 ≤ n) : Met l yX0_putInto wsX0_putInto rmX0_putInto (va_Pc [.ref h, .ref h2, .int (nI e), .int (xI iv)] (xB G B w)) (va_Qv (fun u => u = xset G w h r n (xpi f g e iv)) (xE G B) (xA B)) 0 0 (xA B) := by
  refine xw_start (own := RX0) (mn := "putInto") (cc := cX0_putInto) (nL := 5) (rt := none) (by decide) rfl rfl rfl (Nat.le_of_ble_eq_true rfl) ?_
  intro p ev s m below meth cd ls C hl hw hS
  obtain ⟨hx, hb, -, -, -, hts, -, -, -, -⟩ := id C
  have hl : lv_has ls 5 [(0, .ref h), (1, .ref h2), (2, .int (nI e)), (3, .int (xI iv))] := hl
  have hn := hp.2.2.2
  refine lv_aload_n hx hb dX0_putInto_0 rfl (lv_at hl 0 rfl) ?_
  refine lv_iload_n hx hb dX0_putInto_1 rfl (lv_at hl 2 rfl) ?_
  refine xw_ci (xw_V (n := 1) (rest := []) C hw (kX3_coefficient l G B w h r n f (nI e) hp) gX0_putInto_X3_coefficient rfl rfl rfl (by decide +kernel) ⟨Nat.le_of_ble_eq_true rfl, Nat.le_of_ble_eq_true rfl⟩ (hp).1 rfl rfl hl.1 rfl (Nat.le_of_ble_eq_true rfl) dX0_putInto_2 ⟨Nat.le_of_ble_eq_true rfl, Nat.le_of_ble_eq_true rfl⟩ hS) hS (fun ru u H locs hp hw hS => ?_)
  obtain ⟨hr, hu⟩ := hp
  rw [hu] at hw
  refine xw_ti (y := (xI (f e))) (hr.trans (by rw [xcf_n _ (by omega)])) ?_
  refine lv_iload_n hx hb dX0_putInto_5 rfl (lv_at hl 3 rfl) ?_
  refine xw_ci (xw_S (n := 2) (rest := []) C hw (kX2_product l G B w (f e) iv) gX0_putInto_X2_product rfl rfl rfl (by decide +kernel) ⟨Nat.le_of_ble_eq_true rfl, Nat.le_of_ble_eq_true rfl⟩ rfl hl.1 rfl (Nat.le_of_ble_eq_true rfl) dX0_putInto_6 ⟨Nat.le_of_ble_eq_true rfl, Nat.le_of_ble_eq_true rfl⟩ hS) hS (fun ru u H locs hp hw hS => ?_)
  obtain ⟨hr, hu⟩ := hp
  rw [hu] at hw
  refine xw_ti (y := (xI (f e * iv))) (hr) ?_
  refine lv_istore (lv' := [(4, .int (xI (f e * iv))), (0, .ref h), (1, .ref h2), (2, .int (nI e)), (3, .int (xI iv))]) hx hb dX0_putInto_9 hl (by decide) rfl (fun ls hl => ?_)
  refine lv_aload_n hx hb dX0_putInto_11 rfl (lv_at hl 1 rfl) ?_
  refine lv_aload_n hx hb dX0_putInto_12 rfl (lv_at hl 2 rfl) ?_
  refine lv_sipush (v := 32003) hx hb dX0_putInto_13 (by decide) ?_
  refine lv_iload hx hb dX0_putInto_16 (lv_at hl 0 rfl) ?_
  refine lv_isub hx hb dX0_putInto_18 ?_
  refine xw_ti (y := (nI (32003 - (f e * iv).val))) (x_P_sub _) ?_
  refine lv_iconst (v := 0) hx hb dX0_putInto_19 (by decide) ?_
  refine xw_ti (y := (nI 0)) (nI_0.symm) ?_
  refine xw_cv (xw_V (n := 3) (rest := []) C hw (kX3_gather l G B w h r n f h2 r2 n2 g hp hq hne hnr (32003 - (f e * iv).val) 0 (by omega) (by omega)) gX0_putInto_X3_gather rfl rfl rfl (by decide +kernel) ⟨Nat.le_of_ble_eq_true rfl, Nat.le_of_ble_eq_true rfl⟩ (hp).1 rfl rfl hl.1 rfl (Nat.le_of_ble_eq_true rfl) dX0_putInto_20 ⟨Nat.le_of_ble_eq_true rfl, Nat.le_of_ble_eq_true rfl⟩ hS) hS (fun u H locs hpp hw hS => ?_)
  rw [hpp] at hw
  have h0 : xPoly G (xset G w h r n (xgat f (xO (32003 - (f e * iv).val)) g 0)) h r n (xgat f (xO (32003 - (f e * iv).val)) g 0) := xset_s hp.ne (xgat_sup hp.2.2.1 (xlen_sup hq.2.2.1) (by omega)) hn
  refine lv_aload_n hx hb dX0_putInto_23 rfl (lv_at hl 1 rfl) ?_
  refine lv_iload_n hx hb dX0_putInto_24 rfl (lv_at hl 3 rfl) ?_
  refine lv_iload hx hb dX0_putInto_25 (lv_at hl 0 rfl) ?_
  refine xw_cv (xw_V (n := 2) (rest := []) C hw (kX3_put l G B _ h r n _ e (f e * iv) h0 he) gX0_putInto_X3_put rfl rfl rfl (by decide +kernel) ⟨Nat.le_of_ble_eq_true rfl, Nat.le_of_ble_eq_true rfl⟩ (h0).1 rfl rfl hl.1 rfl (Nat.le_of_ble_eq_true rfl) dX0_putInto_27 ⟨Nat.le_of_ble_eq_true rfl, Nat.le_of_ble_eq_true rfl⟩ hS) hS (fun u H locs hpp hw hS => ?_)
  rw [hpp] at hw
  rw [xset_u hp.ne] at hw
  exact xw_vret C hw hS (Nat.le_of_ble_eq_true rfl) (Nat.le_of_ble_eq_true rfl) (rfl) dX0_putInto_30

abbrev rmX0_firstUntaken : Room := { frames := 1, cells := 0, slots := 0, locals := 21 }
theorem iX0_firstUntaken_X0 : ∀ w ∈ wsX00, w ∈ wsX0_firstUntaken := by decide +kernel
set_option maxHeartbeats 4000000 in
set_option maxRecDepth 100000 in
theorem kX0_firstUntaken (l : Launch) (G : xG) (B : Nat) (w : xM) (pa ra cp fr ad : Nat → Nat) (md : Nat) (ps : Nat → xP) (eo : Nat → Option Nat) (tb : Nat → Bool) (wr : xM) (hC : xCL G w pa ra cp fr ad md ps eo tb wr) (i : Nat) (hi : i < 21 + 2 * md) : Met l yX0_firstUntaken wsX0_firstUntaken rmX0_firstUntaken (va_Pc [.ref (ad 2), .ref (pa i)] (xB G B w)) (va_Qi (fun r u => r = xeo1 (xfu tb (ps i)) ∧ u = w) (xE G B) (xA B)) 0 0 (xA B) := by
  refine xw_start (own := RX0) (mn := "firstUntaken") (cc := cX0_firstUntaken) (nL := 3) (rt := (some .int)) (by decide) rfl rfl rfl (Nat.le_of_ble_eq_true rfl) ?_
  intro p ev s m below meth cd ls C hl hw hS
  obtain ⟨hx, hb, -, -, -, hts, -, -, -, -⟩ := id C
  have hl : lv_has ls 3 [(0, .ref (ad 2)), (1, .ref (pa i))] := hl
  refine lv_iconst (v := 0) hx hb dX0_firstUntaken_0 (by decide) ?_
  refine lv_istore_n (lv' := [(2, .int 0), (0, .ref (ad 2)), (1, .ref (pa i))]) hx hb dX0_firstUntaken_1 rfl hl (by decide) rfl (fun ls hl => ?_)
  have loop : ∀ (d t : Nat) (ls : Array Slot) (H : Heap) (locs : List Loc), t + d = 64 → xfuA tb (ps i) d t = xfu tb (ps i) → xW G B w H → va_S (xA B) s.heap H locs → lv_has ls 3 [(2, .int (nI t)), (0, .ref (ad 2)), (1, .ref (pa i))] → W p l ev rmX0_firstUntaken s m [.ref (ad 2), .ref (pa i)].toArray below meth cd H locs 0 0 (MQ below (va_Qi (fun r u => r = xeo1 (xfu tb (ps i)) ∧ u = w) (xE G B) (xA B)) [.ref (ad 2), .ref (pa i)].toArray s 0 0 (xA B)) (F0 m 2 ls []) := by
    intro d
    induction d with
    | zero =>
      intro t ls H locs ht he hw hS hl
      refine lv_iload_n hx hb dX0_firstUntaken_2 rfl (lv_at hl 0 rfl) ?_
      refine lv_aload_n hx hb dX0_firstUntaken_3 rfl (lv_at hl 1 rfl) ?_
      refine xw_get C hw hC.q (ci := 0) rfl iX0_firstUntaken_X0 7 (by decide) (by decide +kernel) rfl dX0_firstUntaken_4 ?_
      refine xw_alen C hw 2 rfl hC.tk (N := 64) rfl dX0_firstUntaken_7 ?_
      refine lv_icmp_ge (tgt := 36) hx hb dX0_firstUntaken_8 (by decide) (fun _ => ?_) (fun hc => absurd ((nI_leI (by omega) (by omega)).mpr (by omega)) hc)
      refine lv_iconst (v := (-1)) hx hb dX0_firstUntaken_36 (by decide) ?_
      exact xw_iret C hw hS (Nat.le_of_ble_eq_true rfl) (Nat.le_of_ble_eq_true rfl) (⟨by rw [← he]; rfl, rfl⟩) dX0_firstUntaken_37
    | succ d ih =>
      intro t ls H locs ht he hw hS hl
      rw [xfuA_s] at he
      refine lv_iload_n hx hb dX0_firstUntaken_2 rfl (lv_at hl 0 rfl) ?_
      refine lv_aload_n hx hb dX0_firstUntaken_3 rfl (lv_at hl 1 rfl) ?_
      refine xw_get C hw hC.q (ci := 0) rfl iX0_firstUntaken_X0 7 (by decide) (by decide +kernel) rfl dX0_firstUntaken_4 ?_
      refine xw_alen C hw 2 rfl hC.tk (N := 64) rfl dX0_firstUntaken_7 ?_
      refine lv_icmp_ge (tgt := 36) hx hb dX0_firstUntaken_8 (by decide) (fun hc => absurd hc (fun q => absurd ((nI_leI (by omega) (by omega)).mp q) (by omega))) (fun _ => ?_)
      refine lv_aload_n hx hb dX0_firstUntaken_11 rfl (lv_at hl 1 rfl) ?_
      refine xw_get C hw hC.q (ci := 0) rfl iX0_firstUntaken_X0 7 (by decide) (by decide +kernel) rfl dX0_firstUntaken_12 ?_
      refine lv_iload_n hx hb dX0_firstUntaken_15 rfl (lv_at hl 0 rfl) ?_
      refine xw_zaldN C hw hC.tk (show t < 64 by omega) (by decide) dX0_firstUntaken_16 ?_
      refine lv_if_ne (tgt := 30) hx hb dX0_firstUntaken_17 (by decide) (fun hc => ?_) (fun hc => ?_)
      · skip
        refine lv_iinc (v := (nI (t + 1))) (lv' := [(2, .int (nI (t + 1))), (0, .ref (ad 2)), (1, .ref (pa i))]) hx hb dX0_firstUntaken_30 hl (k := 0) rfl (x_inc t) (by decide) rfl (fun ls hl => ?_)
        refine lv_goto (tgt := 2) hx hb dX0_firstUntaken_33 (by decide) ?_
        exact ih (t + 1) ls _ _ (by omega) (by rw [if_neg (fun q => hc (xtk_z.mpr q.1))] at he; exact he) hw hS hl
      · skip
        refine lv_aload_n hx hb dX0_firstUntaken_20 rfl (lv_at hl 2 rfl) ?_
        refine lv_iload_n hx hb dX0_firstUntaken_21 rfl (lv_at hl 0 rfl) ?_
        refine xw_ci (xw_V (n := 1) (rest := []) C hw (kX3_coefficient l G B w (pa i) (ra i) (cp i) (ps i) (nI t) (hC.p i hi)) gX0_firstUntaken_X3_coefficient rfl rfl rfl (by decide +kernel) ⟨Nat.le_of_ble_eq_true rfl, Nat.le_of_ble_eq_true rfl⟩ (hC.p i (by omega)).1 rfl rfl hl.1 rfl (Nat.le_of_ble_eq_true rfl) dX0_firstUntaken_22 ⟨Nat.le_of_ble_eq_true rfl, Nat.le_of_ble_eq_true rfl⟩ hS) hS (fun ru u H locs hp hw hS => ?_)
        obtain ⟨hr, hu⟩ := hp
        rw [hu] at hw
        refine xw_ti (y := (xI (ps i t))) (hr.trans (by rw [xcf_n _ (by omega)])) ?_
        refine lv_if_eq (tgt := 30) hx hb dX0_firstUntaken_25 (by decide) (fun hc2 => ?_) (fun hc2 => ?_)
        · skip
          refine lv_iinc (v := (nI (t + 1))) (lv' := [(2, .int (nI (t + 1))), (0, .ref (ad 2)), (1, .ref (pa i))]) hx hb dX0_firstUntaken_30 hl (k := 0) rfl (x_inc t) (by decide) rfl (fun ls hl => ?_)
          refine lv_goto (tgt := 2) hx hb dX0_firstUntaken_33 (by decide) ?_
          exact ih (t + 1) ls _ _ (by omega) (by rw [if_neg (fun q => q.2 (xI_z.mp hc2))] at he; exact he) hw hS hl
        · skip
          refine lv_iload_n hx hb dX0_firstUntaken_28 rfl (lv_at hl 0 rfl) ?_
          exact xw_iret C hw hS (Nat.le_of_ble_eq_true rfl) (Nat.le_of_ble_eq_true rfl) (⟨by rw [← he, if_pos ⟨xtk_z.mp hc, fun q => hc2 (xI_z.mpr q)⟩]; rfl, rfl⟩) dX0_firstUntaken_29
  exact loop 64 0 ls _ _ rfl rfl hw hS hl

abbrev rmX0_areSolvable : Room := { frames := 2, cells := 0, slots := 0, locals := 43 }
theorem iX0_areSolvable_X0 : ∀ w ∈ wsX00, w ∈ wsX0_areSolvable := by decide +kernel
set_option maxHeartbeats 4000000 in
set_option maxRecDepth 100000 in
theorem kX0_areSolvable (l : Launch) (G : xG) (B : Nat) (w : xM) (pa ra cp fr ad : Nat → Nat) (md : Nat) (ps : Nat → xP) (eo : Nat → Option Nat) (tb : Nat → Bool) (wr : xM) (hC : xCL G w pa ra cp fr ad md ps eo tb wr) : Met l yX0_areSolvable wsX0_areSolvable rmX0_areSolvable (va_Pc [.ref (ad 2)] (xB G B w)) (va_Qi (fun z u => ((z = 1 ∧ xfu tb (ps 16) = none) ∨ (z = 0 ∧ xfu tb (ps 16) ≠ none)) ∧ u = w) (xE G B) (xA B)) 0 0 (xA B) := by
  refine xw_start (own := RX0) (mn := "areSolvable") (cc := cX0_areSolvable) (nL := 1) (rt := (some .boolean)) (by decide) rfl rfl rfl (Nat.le_of_ble_eq_true rfl) ?_
  intro p ev s m below meth cd ls C hl hw hS
  obtain ⟨hx, hb, -, -, -, hts, -, -, -, -⟩ := id C
  have hl : lv_has ls 1 [(0, .ref (ad 2))] := hl
  refine lv_aload_n hx hb dX0_areSolvable_0 rfl (lv_at hl 0 rfl) ?_
  refine lv_aload_n hx hb dX0_areSolvable_1 rfl (lv_at hl 0 rfl) ?_
  refine xw_get C hw hC.q (ci := 0) rfl iX0_areSolvable_X0 1 (by decide) (by decide +kernel) rfl dX0_areSolvable_2 ?_
  refine xw_ci (xw_V (n := 1) (rest := []) C hw (kX0_firstUntaken l G B w pa ra cp fr ad md ps eo tb wr hC 16 (by omega)) gX0_areSolvable_X0_firstUntaken rfl rfl rfl (by decide +kernel) ⟨Nat.le_of_ble_eq_true rfl, Nat.le_of_ble_eq_true rfl⟩ hC.q rfl rfl hl.1 rfl (Nat.le_of_ble_eq_true rfl) dX0_areSolvable_5 ⟨Nat.le_of_ble_eq_true rfl, Nat.le_of_ble_eq_true rfl⟩ hS) hS (fun ru u H locs hp hw hS => ?_)
  obtain ⟨hr, hu⟩ := hp
  rw [hu] at hw
  refine xw_ti (y := (xeo1 (xfu tb (ps 16)))) (hr) ?_
  have hlt : ∀ e, xfu tb (ps 16) = some e → e < 2 ^ 31 := fun e he => by have := (xfu_some he).1; omega
  refine lv_if_ge (tgt := 15) hx hb dX0_areSolvable_8 (by decide) (fun hc => ?_) (fun hc => ?_)
  · skip
    refine lv_iconst (v := 0) hx hb dX0_areSolvable_15 (by decide) ?_
    exact xw_zret C hw hS (Nat.le_of_ble_eq_true rfl) (Nat.le_of_ble_eq_true rfl) (Or.inl rfl) (⟨Or.inr ⟨rfl, (xeo1_ge hlt).mp hc⟩, rfl⟩) dX0_areSolvable_16
  · skip
    refine lv_iconst (v := 1) hx hb dX0_areSolvable_11 (by decide) ?_
    refine lv_goto (tgt := 16) hx hb dX0_areSolvable_12 (by decide) ?_
    exact xw_zret C hw hS (Nat.le_of_ble_eq_true rfl) (Nat.le_of_ble_eq_true rfl) (Or.inr rfl) (⟨Or.inl ⟨rfl, Classical.byContradiction fun q => hc ((xeo1_ge hlt).mpr q)⟩, rfl⟩) dX0_areSolvable_16

abbrev rmX0_freeUpTo : Room := { frames := 0, cells := 0, slots := 0, locals := 0 }
theorem iX0_freeUpTo_X0 : ∀ w ∈ wsX00, w ∈ wsX0_freeUpTo := by decide +kernel
set_option maxHeartbeats 4000000 in
set_option maxRecDepth 100000 in
theorem kX0_freeUpTo (l : Launch) (G : xG) (B : Nat) (w : xM) (pa ra cp fr ad : Nat → Nat) (md : Nat) (ps : Nat → xP) (eo : Nat → Option Nat) (tb : Nat → Bool) (wr : xM) (hC : xCL G w pa ra cp fr ad md ps eo tb wr) (dd : Nat) (hd : dd < 9) (hlt : ∀ k e, k < 9 → eo k = some e → e < 2 ^ 31) : Met l yX0_freeUpTo wsX0_freeUpTo rmX0_freeUpTo (va_Pc [.ref (ad 2), .int (nI dd)] (xB G B w)) (va_Qi (fun r u => r = nI (xnn eo (dd + 1)) ∧ u = w) (xE G B) (xA B)) 0 0 (xA B) := by
  refine xw_start (own := RX0) (mn := "freeUpTo") (cc := cX0_freeUpTo) (nL := 4) (rt := (some .int)) (by decide) rfl rfl rfl (Nat.le_of_ble_eq_true rfl) ?_
  intro p ev s m below meth cd ls C hl hw hS
  obtain ⟨hx, hb, -, -, -, hts, -, -, -, -⟩ := id C
  have hl : lv_has ls 4 [(0, .ref (ad 2)), (1, .int (nI dd))] := hl
  refine lv_iconst (v := 0) hx hb dX0_freeUpTo_0 (by decide) ?_
  refine xw_ti (y := (nI 0)) (nI_0.symm) ?_
  refine lv_istore_n (lv' := [(2, .int (nI 0)), (0, .ref (ad 2)), (1, .int (nI dd))]) hx hb dX0_freeUpTo_1 rfl hl (by decide) rfl (fun ls hl => ?_)
  refine lv_iconst (v := 0) hx hb dX0_freeUpTo_2 (by decide) ?_
  refine lv_istore_n (lv' := [(3, .int 0), (2, .int (nI 0)), (0, .ref (ad 2)), (1, .int (nI dd))]) hx hb dX0_freeUpTo_3 rfl hl (by decide) rfl (fun ls hl => ?_)
  have loop : ∀ (d t : Nat) (ls : Array Slot) (H : Heap) (locs : List Loc), t + d = dd + 1 → xW G B w H → va_S (xA B) s.heap H locs → lv_has ls 4 [(3, .int (nI t)), (2, .int (nI (xnn eo t))), (0, .ref (ad 2)), (1, .int (nI dd))] → W p l ev rmX0_freeUpTo s m [.ref (ad 2), .int (nI dd)].toArray below meth cd H locs 0 0 (MQ below (va_Qi (fun r u => r = nI (xnn eo (dd + 1)) ∧ u = w) (xE G B) (xA B)) [.ref (ad 2), .int (nI dd)].toArray s 0 0 (xA B)) (F0 m 4 ls []) := by
    intro d
    induction d with
    | zero =>
      intro t ls H locs ht hw hS hl
      refine lv_iload_n hx hb dX0_freeUpTo_4 rfl (lv_at hl 0 rfl) ?_
      refine lv_iload_n hx hb dX0_freeUpTo_5 rfl (lv_at hl 3 rfl) ?_
      refine lv_icmp_gt (tgt := 36) hx hb dX0_freeUpTo_6 (by decide) (fun _ => ?_) (fun hc => absurd ((nI_ltI (by omega) (by omega)).mpr (by omega)) hc)
      refine lv_iload_n hx hb dX0_freeUpTo_36 rfl (lv_at hl 1 rfl) ?_
      exact xw_iret C hw hS (Nat.le_of_ble_eq_true rfl) (Nat.le_of_ble_eq_true rfl) (⟨by rw [show dd + 1 = t by omega], rfl⟩) dX0_freeUpTo_37
    | succ d ih =>
      intro t ls H locs ht hw hS hl
      refine lv_iload_n hx hb dX0_freeUpTo_4 rfl (lv_at hl 0 rfl) ?_
      refine lv_iload_n hx hb dX0_freeUpTo_5 rfl (lv_at hl 3 rfl) ?_
      refine lv_icmp_gt (tgt := 36) hx hb dX0_freeUpTo_6 (by decide) (fun hc => absurd hc (fun q => absurd ((nI_ltI (by omega) (by omega)).mp q) (by omega))) (fun _ => ?_)
      refine lv_iload_n hx hb dX0_freeUpTo_9 rfl (lv_at hl 0 rfl) ?_
      refine lv_aload_n hx hb dX0_freeUpTo_10 rfl (lv_at hl 2 rfl) ?_
      refine xw_get C hw hC.q (ci := 0) rfl iX0_freeUpTo_X0 6 (by decide) (by decide +kernel) rfl dX0_freeUpTo_11 ?_
      refine xw_alen C hw 0 rfl hC.qo (N := 9) rfl dX0_freeUpTo_14 ?_
      refine lv_icmp_ge (tgt := 36) hx hb dX0_freeUpTo_15 (by decide) (fun hc => absurd hc (fun q => absurd ((nI_leI (by omega) (by omega)).mp q) (by omega))) (fun _ => ?_)
      refine lv_aload_n hx hb dX0_freeUpTo_18 rfl (lv_at hl 2 rfl) ?_
      refine xw_get C hw hC.q (ci := 0) rfl iX0_freeUpTo_X0 6 (by decide) (by decide +kernel) rfl dX0_freeUpTo_19 ?_
      refine lv_iload_n hx hb dX0_freeUpTo_22 rfl (lv_at hl 0 rfl) ?_
      refine xw_ialdN C hw hC.qo (show t < 9 by omega) (by decide) dX0_freeUpTo_23 ?_
      refine xw_ti (y := (xeo1 (eo t))) (rfl) ?_
      refine lv_if_ge (tgt := 30) hx hb dX0_freeUpTo_24 (by decide) (fun hc => ?_) (fun hc => ?_)
      · skip
        have hc := (xeo1_ge (fun e => hlt t e (by omega))).mp hc
        have hl : lv_has ls 4 [(3, .int (nI t)), (2, .int (nI (xnn eo (t + 1)))), (0, .ref (ad 2)), (1, .int (nI dd))] := by rw [← (show (nI (xnn eo t)) = (nI (xnn eo (t + 1))) from by rw [xnn_no hc])]; exact hl
        refine lv_iinc (v := (nI (t + 1))) (lv' := [(3, .int (nI (t + 1))), (2, .int (nI (xnn eo (t + 1)))), (0, .ref (ad 2)), (1, .int (nI dd))]) hx hb dX0_freeUpTo_30 hl (k := 0) rfl (x_inc t) (by decide) rfl (fun ls hl => ?_)
        refine lv_goto (tgt := 4) hx hb dX0_freeUpTo_33 (by decide) ?_
        exact ih (t + 1) ls _ _ (by omega) hw hS (lv_sub hl [0, 1, 2, 3] rfl)
      · skip
        have hc : eo t = none := Classical.byContradiction fun q => hc ((xeo1_ge (fun e => hlt t e (by omega))).mpr q)
        refine lv_iinc (v := (nI (xnn eo (t + 1)))) (lv' := [(2, .int (nI (xnn eo (t + 1)))), (3, .int (nI t)), (0, .ref (ad 2)), (1, .int (nI dd))]) hx hb dX0_freeUpTo_27 hl (k := 1) rfl (by rw [x_inc, xnn_yes hc]) (by decide) rfl (fun ls hl => ?_)
        refine lv_iinc (v := (nI (t + 1))) (lv' := [(3, .int (nI (t + 1))), (2, .int (nI (xnn eo (t + 1)))), (0, .ref (ad 2)), (1, .int (nI dd))]) hx hb dX0_freeUpTo_30 hl (k := 1) rfl (x_inc t) (by decide) rfl (fun ls hl => ?_)
        refine lv_goto (tgt := 4) hx hb dX0_freeUpTo_33 (by decide) ?_
        exact ih (t + 1) ls _ _ (by omega) hw hS (lv_sub hl [0, 1, 2, 3] rfl)
  exact loop (dd + 1) 0 ls _ _ (by omega) hw hS (by rw [nI_0]; exact hl)

abbrev rmX0_writeSolution : Room := { frames := 2, cells := 0, slots := 0, locals := 44 }
theorem iX0_writeSolution_X0 : ∀ w ∈ wsX00, w ∈ wsX0_writeSolution := by decide +kernel
set_option maxHeartbeats 4000000 in
set_option maxRecDepth 100000 in
theorem kX0_writeSolution (l : Launch) (G : xG) (B : Nat) (w : xM) (pa ra cp fr ad : Nat → Nat) (md : Nat) (ps : Nat → xP) (eo : Nat → Option Nat) (tb : Nat → Bool) (wr : xM) (hC : xCL G w pa ra cp fr ad md ps eo tb wr) (hlt : ∀ k e, k < 9 → eo k = some e → e < 2 ^ 31) : Met l yX0_writeSolution wsX0_writeSolution rmX0_writeSolution (va_Pc [.ref (ad 2), .ref (pa 2)] (xB G B w)) (va_Qv (fun u => xCL G u pa ra cp fr ad md (va_up ps 2 (xwsk (ps 16) eo 9)) eo tb wr) (xE G B) (xA B)) 0 0 (xA B) := by
  refine xw_start (own := RX0) (mn := "writeSolution") (cc := cX0_writeSolution) (nL := 3) (rt := none) (by decide) rfl rfl rfl (Nat.le_of_ble_eq_true rfl) ?_
  intro p ev s m below meth cd ls C hl hw hS
  obtain ⟨hx, hb, -, -, -, hts, -, -, -, -⟩ := id C
  have hl : lv_has ls 3 [(0, .ref (ad 2)), (1, .ref (pa 2))] := hl
  refine lv_aload_n hx hb dX0_writeSolution_0 rfl (lv_at hl 1 rfl) ?_
  refine xw_cv (xw_V (n := 0) (rest := []) C hw (kX3_clear l G B w (pa 2) (ra 2) 64 (ps 2) (hC.pw 2 (by omega) (by omega) rfl)) gX0_writeSolution_X3_clear rfl rfl rfl (by decide +kernel) ⟨Nat.le_of_ble_eq_true rfl, Nat.le_of_ble_eq_true rfl⟩ (hC.p 2 (by omega)).1 rfl rfl hl.1 rfl (Nat.le_of_ble_eq_true rfl) dX0_writeSolution_1 ⟨Nat.le_of_ble_eq_true rfl, Nat.le_of_ble_eq_true rfl⟩ hS) hS (fun u H locs hpp hw hS => ?_)
  rw [hpp] at hw
  have hC := hC.set (i := 2) (by omega) (hC.cap (by omega) (by omega)) (f := fun _ => 0) (xsup_z _)
  refine lv_iconst (v := 0) hx hb dX0_writeSolution_4 (by decide) ?_
  refine lv_istore_n (lv' := [(2, .int 0), (0, .ref (ad 2)), (1, .ref (pa 2))]) hx hb dX0_writeSolution_5 rfl hl (by decide) rfl (fun ls hl => ?_)
  have loop : ∀ (d j : Nat) (w1 : xM) (ls : Array Slot) (H : Heap) (locs : List Loc), j + d = 9 → xCL G w1 pa ra cp fr ad md (va_up ps 2 (xwsk (ps 16) eo j)) eo tb wr → xW G B w1 H → va_S (xA B) s.heap H locs → lv_has ls 3 [(2, .int (nI j)), (0, .ref (ad 2)), (1, .ref (pa 2))] → W p l ev rmX0_writeSolution s m [.ref (ad 2), .ref (pa 2)].toArray below meth cd H locs 0 0 (MQ below (va_Qv (fun u => xCL G u pa ra cp fr ad md (va_up ps 2 (xwsk (ps 16) eo 9)) eo tb wr) (xE G B) (xA B)) [.ref (ad 2), .ref (pa 2)].toArray s 0 0 (xA B)) (F0 m 6 ls []) := by
    intro d
    induction d with
    | zero =>
      intro j w1 ls H locs hj hC hw hS hl
      refine lv_iload_n hx hb dX0_writeSolution_6 rfl (lv_at hl 0 rfl) ?_
      refine lv_aload_n hx hb dX0_writeSolution_7 rfl (lv_at hl 1 rfl) ?_
      refine xw_get C hw hC.q (ci := 0) rfl iX0_writeSolution_X0 6 (by decide) (by decide +kernel) rfl dX0_writeSolution_8 ?_
      refine xw_alen C hw 0 rfl hC.qo (N := 9) rfl dX0_writeSolution_11 ?_
      refine lv_icmp_ge (tgt := 39) hx hb dX0_writeSolution_12 (by decide) (fun _ => ?_) (fun hc => absurd ((nI_leI (by omega) (by omega)).mpr (by omega)) hc)
      exact xw_vret C hw hS (Nat.le_of_ble_eq_true rfl) (Nat.le_of_ble_eq_true rfl) (by rw [show j = 9 by omega] at hC; exact hC) dX0_writeSolution_39
    | succ d ih =>
      intro j w1 ls H locs hj hC hw hS hl
      have h2 : xPoly G w1 (pa 2) (ra 2) 64 (xwsk (ps 16) eo j) := hC.pw 2 (by omega) (by omega) (va_up_self _ _ _)
      have h16 : xPoly G w1 (pa 16) (ra 16) 64 (ps 16) := hC.pw 16 (by omega) (by omega) (va_up_ne _ _ (by omega))
      refine lv_iload_n hx hb dX0_writeSolution_6 rfl (lv_at hl 0 rfl) ?_
      refine lv_aload_n hx hb dX0_writeSolution_7 rfl (lv_at hl 1 rfl) ?_
      refine xw_get C hw hC.q (ci := 0) rfl iX0_writeSolution_X0 6 (by decide) (by decide +kernel) rfl dX0_writeSolution_8 ?_
      refine xw_alen C hw 0 rfl hC.qo (N := 9) rfl dX0_writeSolution_11 ?_
      refine lv_icmp_ge (tgt := 39) hx hb dX0_writeSolution_12 (by decide) (fun hc => absurd hc (fun q => absurd ((nI_leI (by omega) (by omega)).mp q) (by omega))) (fun _ => ?_)
      refine lv_aload_n hx hb dX0_writeSolution_15 rfl (lv_at hl 2 rfl) ?_
      refine lv_iload_n hx hb dX0_writeSolution_16 rfl (lv_at hl 0 rfl) ?_
      refine lv_aload_n hx hb dX0_writeSolution_17 rfl (lv_at hl 1 rfl) ?_
      refine xw_get C hw hC.q (ci := 0) rfl iX0_writeSolution_X0 1 (by decide) (by decide +kernel) rfl dX0_writeSolution_18 ?_
      refine lv_aload_n hx hb dX0_writeSolution_21 rfl (lv_at hl 1 rfl) ?_
      refine xw_get C hw hC.q (ci := 0) rfl iX0_writeSolution_X0 6 (by decide) (by decide +kernel) rfl dX0_writeSolution_22 ?_
      refine lv_iload_n hx hb dX0_writeSolution_25 rfl (lv_at hl 0 rfl) ?_
      refine xw_ialdN C hw hC.qo (show j < 9 by omega) (by decide) dX0_writeSolution_26 ?_
      refine xw_ti (y := (xeo1 (eo j))) (rfl) ?_
      refine xw_ci (xw_V (n := 1) (rest := [.int (nI j), .ref (pa 2)]) C hw (kX3_coefficient l G B w1 (pa 16) (ra 16) 64 (ps 16) (xeo1 (eo j)) h16) gX0_writeSolution_X3_coefficient rfl rfl rfl (by decide +kernel) ⟨Nat.le_of_ble_eq_true rfl, Nat.le_of_ble_eq_true rfl⟩ h16.1 rfl rfl hl.1 rfl (Nat.le_of_ble_eq_true rfl) dX0_writeSolution_27 ⟨Nat.le_of_ble_eq_true rfl, Nat.le_of_ble_eq_true rfl⟩ hS) hS (fun ru u H locs hp hw hS => ?_)
      obtain ⟨hr, hu⟩ := hp
      rw [hu] at hw
      refine xw_ti (y := (xI (xom (ps 16) (eo j)))) (hr.trans (by rw [xcf_eo _ _ (fun e => hlt j e (by omega))])) ?_
      refine xw_cv (xw_V (n := 2) (rest := []) C hw (kX3_put l G B w1 (pa 2) (ra 2) 64 _ j (xom (ps 16) (eo j)) h2 (by omega)) gX0_writeSolution_X3_put rfl rfl rfl (by decide +kernel) ⟨Nat.le_of_ble_eq_true rfl, Nat.le_of_ble_eq_true rfl⟩ h2.1 rfl rfl hl.1 rfl (Nat.le_of_ble_eq_true rfl) dX0_writeSolution_30 ⟨Nat.le_of_ble_eq_true rfl, Nat.le_of_ble_eq_true rfl⟩ hS) hS (fun u H locs hpp hw hS => ?_)
      rw [hpp] at hw
      have hC := hC.set (i := 2) (by omega) (hC.cap (by omega) (by omega)) (xsup_up (v := xom (ps 16) (eo j)) h2.2.2.1 (show j < 64 by omega))
      rw [bx_uu, xwsk_s] at hC
      rw [xwsk_s] at hw
      refine lv_iinc (v := (nI (j + 1))) (lv' := [(2, .int (nI (j + 1))), (0, .ref (ad 2)), (1, .ref (pa 2))]) hx hb dX0_writeSolution_33 hl (k := 0) rfl (x_inc j) (by decide) rfl (fun ls hl => ?_)
      refine lv_goto (tgt := 6) hx hb dX0_writeSolution_36 (by decide) ?_
      exact ih (j + 1) _ ls _ _ (by omega) hC hw hS hl
  exact loop 9 0 _ ls _ _ rfl (by rw [xwsk_0]; exact hC) hw hS hl

abbrev rmX0_solveFor : Room := { frames := 3, cells := 0, slots := 0, locals := 73 }
theorem iX0_solveFor_X0 : ∀ w ∈ wsX00, w ∈ wsX0_solveFor := by decide +kernel
set_option maxHeartbeats 4000000 in
set_option maxRecDepth 100000 in
theorem kX0_solveFor (l : Launch) (G : xG) (B : Nat) (w : xM) (pa ra cp fr ad : Nat → Nat) (md : Nat) (ps : Nat → xP) (eo : Nat → Option Nat) (tb : Nat → Bool) (wr : xM) (hC : xCL G w pa ra cp fr ad md ps eo tb wr) (k e : Nat) (hk : k < 9) (he : e < 64) : Met l yX0_solveFor wsX0_solveFor rmX0_solveFor (va_Pc [.ref (ad 2), .int (nI k), .int (nI e)] (xB G B w)) (va_Qv (fun u => xCL G u pa ra cp fr ad md (xsol ps k e) eo tb wr) (xE G B) (xA B)) 0 0 (xA B) := by
  refine xw_start (own := RX0) (mn := "solveFor") (cc := cX0_solveFor) (nL := 5) (rt := none) (by decide) rfl rfl rfl (Nat.le_of_ble_eq_true rfl) ?_
  intro p ev s m below meth cd ls C hl hw hS
  obtain ⟨hx, hb, -, -, -, hts, -, -, -, -⟩ := id C
  have hl : lv_has ls 5 [(0, .ref (ad 2)), (1, .int (nI k)), (2, .int (nI e))] := hl
  obtain ⟨cf, hcf, hcf2⟩ := hC.cf
  refine lv_aload_n hx hb dX0_solveFor_0 rfl (lv_at hl 0 rfl) ?_
  refine xw_get C hw hC.q (ci := 0) rfl iX0_solveFor_X0 0 (by decide) (by decide +kernel) rfl dX0_solveFor_1 ?_
  refine lv_iload_n hx hb dX0_solveFor_4 rfl (lv_at hl 1 rfl) ?_
  refine xw_aaldN C hw 3 rfl hcf hk (by decide) (v := .ref (pa (7 + k))) (by rw [hcf2 _ hk]; rfl) dX0_solveFor_5 ?_
  refine lv_iload_n hx hb dX0_solveFor_6 rfl (lv_at hl 2 rfl) ?_
  refine xw_ci (xw_V (n := 1) (rest := []) C hw (kX3_coefficient l G B w (pa (7 + k)) (ra (7 + k)) (cp (7 + k)) (ps (7 + k)) (nI e) (hC.p (7 + k) (by omega))) gX0_solveFor_X3_coefficient rfl rfl rfl (by decide +kernel) ⟨Nat.le_of_ble_eq_true rfl, Nat.le_of_ble_eq_true rfl⟩ (hC.p (7 + k) (by omega)).1 rfl rfl hl.1 rfl (Nat.le_of_ble_eq_true rfl) dX0_solveFor_7 ⟨Nat.le_of_ble_eq_true rfl, Nat.le_of_ble_eq_true rfl⟩ hS) hS (fun ru u H locs hp hw hS => ?_)
  obtain ⟨hr, hu⟩ := hp
  rw [hu] at hw
  refine xw_ti (y := (xI (ps (7 + k) e))) (hr.trans (by rw [xcf_n _ (by omega)])) ?_
  refine xw_ci (xw_S (n := 1) (rest := []) C hw (kX2_inverse l G B w (ps (7 + k) e)) gX0_solveFor_X2_inverse rfl rfl rfl (by decide +kernel) ⟨Nat.le_of_ble_eq_true rfl, Nat.le_of_ble_eq_true rfl⟩ rfl hl.1 rfl (Nat.le_of_ble_eq_true rfl) dX0_solveFor_10 ⟨Nat.le_of_ble_eq_true rfl, Nat.le_of_ble_eq_true rfl⟩ hS) hS (fun ru u H locs hp hw hS => ?_)
  obtain ⟨hr, hu⟩ := hp
  rw [hu] at hw
  refine xw_ti (y := (xI (xinv (ps (7 + k) e)))) (hr) ?_
  refine lv_istore_n (lv' := [(3, .int (xI (xinv (ps (7 + k) e)))), (0, .ref (ad 2)), (1, .int (nI k)), (2, .int (nI e))]) hx hb dX0_solveFor_13 rfl hl (by decide) rfl (fun ls hl => ?_)
  refine lv_iload_n hx hb dX0_solveFor_14 rfl (lv_at hl 2 rfl) ?_
  refine lv_iconst (v := 1) hx hb dX0_solveFor_15 (by decide) ?_
  refine lv_iadd hx hb dX0_solveFor_16 ?_
  refine xw_ti (y := (nI (k + 1))) (nI_1 k) ?_
  refine lv_istore (lv' := [(4, .int (nI (k + 1))), (3, .int (xI (xinv (ps (7 + k) e)))), (0, .ref (ad 2)), (1, .int (nI k)), (2, .int (nI e))]) hx hb dX0_solveFor_17 hl (by decide) rfl (fun ls hl => ?_)
  have loop : ∀ (d o : Nat) (w1 : xM) (ls : Array Slot) (H : Heap) (locs : List Loc), o + d = 9 → k < o → xCL G w1 pa ra cp fr ad md (xsolk ps k e o) eo tb wr → xW G B w1 H → va_S (xA B) s.heap H locs → lv_has ls 5 [(4, .int (nI o)), (3, .int (xI (xinv (ps (7 + k) e)))), (0, .ref (ad 2)), (1, .int (nI k)), (2, .int (nI e))] → W p l ev rmX0_solveFor s m [.ref (ad 2), .int (nI k), .int (nI e)].toArray below meth cd H locs 0 0 (MQ below (va_Qv (fun u => xCL G u pa ra cp fr ad md (xsol ps k e) eo tb wr) (xE G B) (xA B)) [.ref (ad 2), .int (nI k), .int (nI e)].toArray s 0 0 (xA B)) (F0 m 19 ls []) := by
    intro d
    induction d with
    | zero =>
      intro o w1 ls H locs ho hko hC hw hS hl
      obtain ⟨cf, hcf, hcf2⟩ := hC.cf
      refine lv_iload hx hb dX0_solveFor_19 (lv_at hl 0 rfl) ?_
      refine lv_aload_n hx hb dX0_solveFor_21 rfl (lv_at hl 2 rfl) ?_
      refine xw_get C hw hC.q (ci := 0) rfl iX0_solveFor_X0 0 (by decide) (by decide +kernel) rfl dX0_solveFor_22 ?_
      refine xw_alen C hw 3 rfl hcf (N := 9) rfl dX0_solveFor_25 ?_
      refine lv_icmp_ge (tgt := 53) hx hb dX0_solveFor_26 (by decide) (fun _ => ?_) (fun hc => absurd ((nI_leI (by omega) (by omega)).mpr (by omega)) hc)
      refine lv_aload_n hx hb dX0_solveFor_53 rfl (lv_at hl 2 rfl) ?_
      refine xw_get C hw hC.q (ci := 0) rfl iX0_solveFor_X0 1 (by decide) (by decide +kernel) rfl dX0_solveFor_54 ?_
      refine lv_aload_n hx hb dX0_solveFor_57 rfl (lv_at hl 2 rfl) ?_
      refine xw_get C hw hC.q (ci := 0) rfl iX0_solveFor_X0 0 (by decide) (by decide +kernel) rfl dX0_solveFor_58 ?_
      refine lv_iload_n hx hb dX0_solveFor_61 rfl (lv_at hl 3 rfl) ?_
      refine xw_aaldN C hw 3 rfl hcf hk (by decide) (v := .ref (pa (7 + k))) (by rw [hcf2 _ hk]; rfl) dX0_solveFor_62 ?_
      refine lv_iload_n hx hb dX0_solveFor_63 rfl (lv_at hl 4 rfl) ?_
      refine lv_iload_n hx hb dX0_solveFor_64 rfl (lv_at hl 1 rfl) ?_
      have h9 : o = 9 := by omega
      subst h9
      have h1 : xPoly G w1 (pa 16) (ra 16) 64 (ps 16) := hC.pw 16 (by omega) (by omega) (xsolk_o (by omega))
      have h2 : xPoly G w1 (pa (7 + k)) (ra (7 + k)) 64 (ps (7 + k)) := hC.pw (7 + k) (by omega) (by omega) (xsolk_o (by omega))
      refine xw_cv (xw_S (n := 4) (rest := []) C hw (kX0_putInto l G B w1 (pa 16) (ra 16) 64 (ps 16) (pa (7 + k)) (ra (7 + k)) 64 (ps (7 + k)) e (xinv (ps (7 + k) e)) h1 h2 (hC.pn (by omega) (by omega) (by omega)) (hC.rn (by omega) (by omega) (by omega)) he (xlen_le _ _)) gX0_solveFor_X0_putInto rfl rfl rfl (by decide +kernel) ⟨Nat.le_of_ble_eq_true rfl, Nat.le_of_ble_eq_true rfl⟩ rfl hl.1 rfl (Nat.le_of_ble_eq_true rfl) dX0_solveFor_65 ⟨Nat.le_of_ble_eq_true rfl, Nat.le_of_ble_eq_true rfl⟩ hS) hS (fun u H locs hpp hw hS => ?_)
      rw [hpp] at hw
      have hC := hC.set (i := 16) (by omega) (hC.cap (by omega) (by omega)) (xpi_sup (iv := xinv (ps (7 + k) e)) h1.2.2.1 h2.2.2.1 he)
      exact xw_vret C hw hS (Nat.le_of_ble_eq_true rfl) (Nat.le_of_ble_eq_true rfl) (by rw [xsolk_end ps hk] at hC; exact hC) dX0_solveFor_68
    | succ d ih =>
      intro o w1 ls H locs ho hko hC hw hS hl
      obtain ⟨cf, hcf, hcf2⟩ := hC.cf
      refine lv_iload hx hb dX0_solveFor_19 (lv_at hl 0 rfl) ?_
      refine lv_aload_n hx hb dX0_solveFor_21 rfl (lv_at hl 2 rfl) ?_
      refine xw_get C hw hC.q (ci := 0) rfl iX0_solveFor_X0 0 (by decide) (by decide +kernel) rfl dX0_solveFor_22 ?_
      refine xw_alen C hw 3 rfl hcf (N := 9) rfl dX0_solveFor_25 ?_
      refine lv_icmp_ge (tgt := 53) hx hb dX0_solveFor_26 (by decide) (fun hc => absurd hc (fun q => absurd ((nI_leI (by omega) (by omega)).mp q) (by omega))) (fun _ => ?_)
      refine lv_aload_n hx hb dX0_solveFor_29 rfl (lv_at hl 2 rfl) ?_
      refine xw_get C hw hC.q (ci := 0) rfl iX0_solveFor_X0 0 (by decide) (by decide +kernel) rfl dX0_solveFor_30 ?_
      refine lv_iload hx hb dX0_solveFor_33 (lv_at hl 0 rfl) ?_
      refine xw_aaldN C hw 3 rfl hcf (show o < 9 by omega) (by decide) (v := .ref (pa (7 + o))) (by rw [hcf2 _ (show o < 9 by omega)]; rfl) dX0_solveFor_35 ?_
      refine lv_aload_n hx hb dX0_solveFor_36 rfl (lv_at hl 2 rfl) ?_
      refine xw_get C hw hC.q (ci := 0) rfl iX0_solveFor_X0 0 (by decide) (by decide +kernel) rfl dX0_solveFor_37 ?_
      refine lv_iload_n hx hb dX0_solveFor_40 rfl (lv_at hl 3 rfl) ?_
      refine xw_aaldN C hw 3 rfl hcf hk (by decide) (v := .ref (pa (7 + k))) (by rw [hcf2 _ hk]; rfl) dX0_solveFor_41 ?_
      refine lv_iload_n hx hb dX0_solveFor_42 rfl (lv_at hl 4 rfl) ?_
      refine lv_iload_n hx hb dX0_solveFor_43 rfl (lv_at hl 1 rfl) ?_
      have h1 : xPoly G w1 (pa (7 + o)) (ra (7 + o)) 64 (ps (7 + o)) := hC.pw (7 + o) (by omega) (by omega) (xsolk_o (by omega))
      have h2 : xPoly G w1 (pa (7 + k)) (ra (7 + k)) 64 (ps (7 + k)) := hC.pw (7 + k) (by omega) (by omega) (xsolk_o (by omega))
      refine xw_cv (xw_S (n := 4) (rest := []) C hw (kX0_putInto l G B w1 (pa (7 + o)) (ra (7 + o)) 64 (ps (7 + o)) (pa (7 + k)) (ra (7 + k)) 64 (ps (7 + k)) e (xinv (ps (7 + k) e)) h1 h2 (hC.pn (by omega) (by omega) (by omega)) (hC.rn (by omega) (by omega) (by omega)) he (xlen_le _ _)) gX0_solveFor_X0_putInto rfl rfl rfl (by decide +kernel) ⟨Nat.le_of_ble_eq_true rfl, Nat.le_of_ble_eq_true rfl⟩ rfl hl.1 rfl (Nat.le_of_ble_eq_true rfl) dX0_solveFor_44 ⟨Nat.le_of_ble_eq_true rfl, Nat.le_of_ble_eq_true rfl⟩ hS) hS (fun u H locs hpp hw hS => ?_)
      rw [hpp] at hw
      have hC := hC.set (i := 7 + o) (by omega) (hC.cap (by omega) (by omega)) (xpi_sup (iv := xinv (ps (7 + k) e)) h1.2.2.1 h2.2.2.1 he)
      rw [xsolk_s hko] at hC
      refine lv_iinc (v := (nI (o + 1))) (lv' := [(4, .int (nI (o + 1))), (3, .int (xI (xinv (ps (7 + k) e)))), (0, .ref (ad 2)), (1, .int (nI k)), (2, .int (nI e))]) hx hb dX0_solveFor_47 hl (k := 0) rfl (x_inc o) (by decide) rfl (fun ls hl => ?_)
      refine lv_goto (tgt := 19) hx hb dX0_solveFor_50 (by decide) ?_
      exact ih (o + 1) _ ls _ _ (by omega) (by omega) hC hw hS (lv_sub hl [0, 1, 2, 3, 4] rfl)
  exact loop (9 - (k + 1)) (k + 1) w ls _ _ (by omega) (by omega) (by rw [xsolk_0]; exact hC) hw hS hl

abbrev rmX0_eliminate : Room := { frames := 4, cells := 0, slots := 0, locals := 97 }
theorem iX0_eliminate_X0 : ∀ w ∈ wsX00, w ∈ wsX0_eliminate := by decide +kernel
set_option maxHeartbeats 4000000 in
set_option maxRecDepth 100000 in
theorem kX0_eliminate (l : Launch) (G : xG) (B : Nat) (w : xM) (pa ra cp fr ad : Nat → Nat) (md : Nat) (ps : Nat → xP) (eo : Nat → Option Nat) (tb : Nat → Bool) (wr : xM) (hC : xCL G w pa ra cp fr ad md ps eo tb wr) : Met l yX0_eliminate wsX0_eliminate rmX0_eliminate (va_Pc [.ref (ad 2)] (xB G B w)) (va_Qv (fun u => xCL G u pa ra cp fr ad md (xel 9 (ps, eo, xtbi tb 64)).1 (xel 9 (ps, eo, xtbi tb 64)).2.1 (xel 9 (ps, eo, xtbi tb 64)).2.2 wr) (xE G B) (xA B)) 0 0 (xA B) := by
  refine xw_start (own := RX0) (mn := "eliminate") (cc := cX0_eliminate) (nL := 3) (rt := none) (by decide) rfl rfl rfl (Nat.le_of_ble_eq_true rfl) ?_
  intro p ev s m below meth cd ls C hl hw hS
  obtain ⟨hx, hb, -, -, -, hts, -, -, -, -⟩ := id C
  have hl : lv_has ls 3 [(0, .ref (ad 2))] := hl
  refine lv_iconst (v := 0) hx hb dX0_eliminate_0 (by decide) ?_
  refine lv_istore_n (lv' := [(1, .int 0), (0, .ref (ad 2))]) hx hb dX0_eliminate_1 rfl hl (by decide) rfl (fun ls hl => ?_)
  have loop2 : ∀ (d k : Nat) (w1 : xM) (ls : Array Slot) (H : Heap) (locs : List Loc), k + d = 9 → xCL G w1 pa ra cp fr ad md (xel k (ps, eo, xtbi tb 64)).1 (xel k (ps, eo, xtbi tb 64)).2.1 (xel k (ps, eo, xtbi tb 64)).2.2 wr → xW G B w1 H → va_S (xA B) s.heap H locs → lv_has ls 3 [(1, .int (nI k)), (0, .ref (ad 2))] → W p l ev rmX0_eliminate s m [.ref (ad 2)].toArray below meth cd H locs 0 0 (MQ below (va_Qv (fun u => xCL G u pa ra cp fr ad md (xel 9 (ps, eo, xtbi tb 64)).1 (xel 9 (ps, eo, xtbi tb 64)).2.1 (xel 9 (ps, eo, xtbi tb 64)).2.2 wr) (xE G B) (xA B)) [.ref (ad 2)].toArray s 0 0 (xA B)) (F0 m 26 ls []) := by
    intro d
    induction d with
    | zero =>
      intro k w1 ls H locs hk hC hw hS hl
      obtain ⟨cf, hcf, hcf2⟩ := hC.cf
      refine lv_iload_n hx hb dX0_eliminate_26 rfl (lv_at hl 0 rfl) ?_
      refine lv_aload_n hx hb dX0_eliminate_27 rfl (lv_at hl 1 rfl) ?_
      refine xw_get C hw hC.q (ci := 0) rfl iX0_eliminate_X0 0 (by decide) (by decide +kernel) rfl dX0_eliminate_28 ?_
      refine xw_alen C hw 3 rfl hcf (N := 9) rfl dX0_eliminate_31 ?_
      refine lv_icmp_ge (tgt := 76) hx hb dX0_eliminate_32 (by decide) (fun _ => ?_) (fun hc => absurd ((nI_leI (by omega) (by omega)).mpr (by omega)) hc)
      exact xw_vret C hw hS (Nat.le_of_ble_eq_true rfl) (Nat.le_of_ble_eq_true rfl) (by rw [show k = 9 by omega] at hC; exact hC) dX0_eliminate_76
    | succ d ih =>
      intro k w1 ls H locs hk hC hw hS hl
      obtain ⟨z, hz⟩ : ∃ z, z = (xel k (ps, eo, xtbi tb 64)) := ⟨_, rfl⟩
      rw [← hz] at hC
      have hz1 : (xel (k + 1) (ps, eo, xtbi tb 64)) = xelS k z := by rw [hz]; rfl
      obtain ⟨cf, hcf, hcf2⟩ := hC.cf
      refine lv_iload_n hx hb dX0_eliminate_26 rfl (lv_at hl 0 rfl) ?_
      refine lv_aload_n hx hb dX0_eliminate_27 rfl (lv_at hl 1 rfl) ?_
      refine xw_get C hw hC.q (ci := 0) rfl iX0_eliminate_X0 0 (by decide) (by decide +kernel) rfl dX0_eliminate_28 ?_
      refine xw_alen C hw 3 rfl hcf (N := 9) rfl dX0_eliminate_31 ?_
      refine lv_icmp_ge (tgt := 76) hx hb dX0_eliminate_32 (by decide) (fun hc => absurd hc (fun q => absurd ((nI_leI (by omega) (by omega)).mp q) (by omega))) (fun _ => ?_)
      refine lv_aload_n hx hb dX0_eliminate_35 rfl (lv_at hl 1 rfl) ?_
      refine lv_aload_n hx hb dX0_eliminate_36 rfl (lv_at hl 1 rfl) ?_
      refine xw_get C hw hC.q (ci := 0) rfl iX0_eliminate_X0 0 (by decide) (by decide +kernel) rfl dX0_eliminate_37 ?_
      refine lv_iload_n hx hb dX0_eliminate_40 rfl (lv_at hl 0 rfl) ?_
      refine xw_aaldN C hw 3 rfl hcf (show k < 9 by omega) (by decide) (v := .ref (pa (7 + k))) (by rw [hcf2 _ (show k < 9 by omega)]; rfl) dX0_eliminate_41 ?_
      refine xw_ci (xw_V (n := 1) (rest := []) C hw (kX0_firstUntaken l G B w1 pa ra cp fr ad md z.1 z.2.1 z.2.2 wr hC (7 + k) (by omega)) gX0_eliminate_X0_firstUntaken rfl rfl rfl (by decide +kernel) ⟨Nat.le_of_ble_eq_true rfl, Nat.le_of_ble_eq_true rfl⟩ hC.q rfl rfl hl.1 rfl (Nat.le_of_ble_eq_true rfl) dX0_eliminate_42 ⟨Nat.le_of_ble_eq_true rfl, Nat.le_of_ble_eq_true rfl⟩ hS) hS (fun ru u H locs hp hw hS => ?_)
      obtain ⟨hr, hu⟩ := hp
      rw [hu] at hw
      refine xw_ti (y := (xeo1 (xfu z.2.2 (z.1 (7 + k))))) (hr) ?_
      refine lv_istore_n (lv' := [(2, .int (xeo1 (xfu z.2.2 (z.1 (7 + k))))), (1, .int (nI k)), (0, .ref (ad 2))]) hx hb dX0_eliminate_45 rfl hl (by decide) rfl (fun ls hl => ?_)
      refine lv_aload_n hx hb dX0_eliminate_46 rfl (lv_at hl 2 rfl) ?_
      refine xw_get C hw hC.q (ci := 0) rfl iX0_eliminate_X0 6 (by decide) (by decide +kernel) rfl dX0_eliminate_47 ?_
      refine lv_iload_n hx hb dX0_eliminate_50 rfl (lv_at hl 1 rfl) ?_
      refine lv_iload_n hx hb dX0_eliminate_51 rfl (lv_at hl 0 rfl) ?_
      refine xw_iastN C hw hS hC.qo (show k < 9 by omega) (by decide) dX0_eliminate_52 (fun H locs hw hS => ?_)
      have hw : xW G B (xu w1 (ad 4) (.inl (G.2 0, 9, .inl (xeo (va_up z.2.1 k (xfu z.2.2 (z.1 (7 + k)))))))) H := by rw [← xeo_up]; exact hw
      have hC := hC.setE (va_up z.2.1 k (xfu z.2.2 (z.1 (7 + k))))
      cases hfu : xfu z.2.2 (z.1 (7 + k)) with
      | none =>
        rw [hfu] at hl hC hw
        refine lv_iload_n hx hb dX0_eliminate_53 rfl (lv_at hl 0 rfl) ?_
        refine lv_if_lt (tgt := 70) hx hb dX0_eliminate_54 (by decide) (fun _ => ?_) (fun hc => absurd (by decide) hc)
        refine lv_iinc (v := (nI (k + 1))) (lv' := [(1, .int (nI (k + 1))), (2, .int (xeo1 (none))), (0, .ref (ad 2))]) hx hb dX0_eliminate_70 hl (k := 1) rfl (x_inc k) (by decide) rfl (fun ls hl => ?_)
        refine lv_goto (tgt := 26) hx hb dX0_eliminate_73 (by decide) ?_
        exact ih (k + 1) _ ls _ _ (by omega) (by rw [hz1, xelS_none hfu]; exact hC) hw hS (lv_sub hl [0, 2] rfl)
      | some e =>
        rw [hfu] at hl hC hw
        have he := (xfu_some hfu).1
        have hl : lv_has ls 3 [(2, .int (nI e)), (1, .int (nI k)), (0, .ref (ad 2))] := hl
        refine lv_iload_n hx hb dX0_eliminate_53 rfl (lv_at hl 0 rfl) ?_
        refine lv_if_lt (tgt := 70) hx hb dX0_eliminate_54 (by decide) (fun hc => absurd hc (nI_pos (by omega))) (fun _ => ?_)
        refine lv_aload_n hx hb dX0_eliminate_57 rfl (lv_at hl 2 rfl) ?_
        refine xw_get C hw hC.q (ci := 0) rfl iX0_eliminate_X0 7 (by decide) (by decide +kernel) rfl dX0_eliminate_58 ?_
        refine lv_iload_n hx hb dX0_eliminate_61 rfl (lv_at hl 0 rfl) ?_
        refine lv_iconst (v := 1) hx hb dX0_eliminate_62 (by decide) ?_
        refine xw_zastN C hw hS hC.tk rfl he (by decide) dX0_eliminate_63 (fun H locs hw hS => ?_)
        have hw : xW G B (xu (xu w1 (ad 4) (.inl (G.2 0, 9, .inl (xeo (va_up z.2.1 k (some e)))))) (ad 5) (.inl (G.2 2, 64, .inl (xtk (va_up z.2.2 e true))))) H := by rw [← xtk_up]; exact hw
        have hC := hC.setT (va_up z.2.2 e true)
        refine lv_aload_n hx hb dX0_eliminate_64 rfl (lv_at hl 2 rfl) ?_
        refine lv_iload_n hx hb dX0_eliminate_65 rfl (lv_at hl 1 rfl) ?_
        refine lv_iload_n hx hb dX0_eliminate_66 rfl (lv_at hl 0 rfl) ?_
        refine xw_cv (xw_V (n := 2) (rest := []) C hw (kX0_solveFor l G B _ pa ra cp fr ad md z.1 _ _ wr hC k e (by omega) he) gX0_eliminate_X0_solveFor rfl rfl rfl (by decide +kernel) ⟨Nat.le_of_ble_eq_true rfl, Nat.le_of_ble_eq_true rfl⟩ hC.q rfl rfl hl.1 rfl (Nat.le_of_ble_eq_true rfl) dX0_eliminate_67 ⟨Nat.le_of_ble_eq_true rfl, Nat.le_of_ble_eq_true rfl⟩ hS) hS (fun u9 H locs hC hw hS => ?_)
        refine lv_iinc (v := (nI (k + 1))) (lv' := [(1, .int (nI (k + 1))), (2, .int (nI e)), (0, .ref (ad 2))]) hx hb dX0_eliminate_70 hl (k := 1) rfl (x_inc k) (by decide) rfl (fun ls hl => ?_)
        refine lv_goto (tgt := 26) hx hb dX0_eliminate_73 (by decide) ?_
        exact ih (k + 1) _ ls _ _ (by omega) (by rw [hz1, xelS_some hfu]; exact hC) hw hS (lv_sub hl [0, 2] rfl)
  have loop : ∀ (d i : Nat) (w1 : xM) (ls : Array Slot) (H : Heap) (locs : List Loc), i + d = 64 → xCL G w1 pa ra cp fr ad md ps eo (xtbi tb i) wr → xW G B w1 H → va_S (xA B) s.heap H locs → lv_has ls 3 [(1, .int (nI i)), (0, .ref (ad 2))] → W p l ev rmX0_eliminate s m [.ref (ad 2)].toArray below meth cd H locs 0 0 (MQ below (va_Qv (fun u => xCL G u pa ra cp fr ad md (xel 9 (ps, eo, xtbi tb 64)).1 (xel 9 (ps, eo, xtbi tb 64)).2.1 (xel 9 (ps, eo, xtbi tb 64)).2.2 wr) (xE G B) (xA B)) [.ref (ad 2)].toArray s 0 0 (xA B)) (F0 m 2 ls []) := by
    intro d
    induction d with
    | zero =>
      intro i w1 ls H locs hi hC hw hS hl
      refine lv_iload_n hx hb dX0_eliminate_2 rfl (lv_at hl 0 rfl) ?_
      refine lv_aload_n hx hb dX0_eliminate_3 rfl (lv_at hl 1 rfl) ?_
      refine xw_get C hw hC.q (ci := 0) rfl iX0_eliminate_X0 7 (by decide) (by decide +kernel) rfl dX0_eliminate_4 ?_
      refine xw_alen C hw 2 rfl hC.tk (N := 64) rfl dX0_eliminate_7 ?_
      refine lv_icmp_ge (tgt := 24) hx hb dX0_eliminate_8 (by decide) (fun _ => ?_) (fun hc => absurd ((nI_leI (by omega) (by omega)).mpr (by omega)) hc)
      refine lv_iconst (v := 0) hx hb dX0_eliminate_24 (by decide) ?_
      refine xw_ti (y := (nI 0)) (nI_0.symm) ?_
      refine lv_istore_n (lv' := [(1, .int (nI 0)), (0, .ref (ad 2))]) hx hb dX0_eliminate_25 rfl hl (by decide) rfl (fun ls hl => ?_)
      exact loop2 9 0 w1 ls _ _ rfl (by rw [show i = 64 by omega] at hC; exact hC) hw hS hl
    | succ d ih =>
      intro i w1 ls H locs hi hC hw hS hl
      refine lv_iload_n hx hb dX0_eliminate_2 rfl (lv_at hl 0 rfl) ?_
      refine lv_aload_n hx hb dX0_eliminate_3 rfl (lv_at hl 1 rfl) ?_
      refine xw_get C hw hC.q (ci := 0) rfl iX0_eliminate_X0 7 (by decide) (by decide +kernel) rfl dX0_eliminate_4 ?_
      refine xw_alen C hw 2 rfl hC.tk (N := 64) rfl dX0_eliminate_7 ?_
      refine lv_icmp_ge (tgt := 24) hx hb dX0_eliminate_8 (by decide) (fun hc => absurd hc (fun q => absurd ((nI_leI (by omega) (by omega)).mp q) (by omega))) (fun _ => ?_)
      refine lv_aload_n hx hb dX0_eliminate_11 rfl (lv_at hl 1 rfl) ?_
      refine xw_get C hw hC.q (ci := 0) rfl iX0_eliminate_X0 7 (by decide) (by decide +kernel) rfl dX0_eliminate_12 ?_
      refine lv_iload_n hx hb dX0_eliminate_15 rfl (lv_at hl 0 rfl) ?_
      refine lv_iconst (v := 0) hx hb dX0_eliminate_16 (by decide) ?_
      refine xw_zastN C hw hS hC.tk rfl (show i < 64 by omega) (by decide) dX0_eliminate_17 (fun H locs hw hS => ?_)
      have hw : xW G B (xu w1 (ad 5) (.inl (G.2 2, 64, .inl (xtk (xtbi tb (i + 1)))))) H := by rw [← xtbi_s]; exact hw
      have hC := hC.setT (xtbi tb (i + 1))
      refine lv_iinc (v := (nI (i + 1))) (lv' := [(1, .int (nI (i + 1))), (0, .ref (ad 2))]) hx hb dX0_eliminate_18 hl (k := 0) rfl (x_inc i) (by decide) rfl (fun ls hl => ?_)
      refine lv_goto (tgt := 2) hx hb dX0_eliminate_21 (by decide) ?_
      exact ih (i + 1) _ ls _ _ (by omega) hC hw hS hl
  exact loop 64 0 w ls _ _ rfl (by rw [xtbi_0]; exact hC) hw hS (by rw [nI_0]; exact hl)
