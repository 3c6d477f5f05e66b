/-! ===== Polynomial, first half (laid by wip/whole/m_poly.py) ===== -/
abbrev rmX3_isZero : Room := { frames := 0, cells := 0, slots := 0, locals := 0 }
theorem iX3_isZero_X3 : ∀ w ∈ wsX30, w ∈ wsX3_isZero := by decide +kernel
set_option maxHeartbeats 4000000 in
set_option maxRecDepth 100000 in
theorem kX3_isZero (l : Launch) (G : xG) (B : Nat) (w : xM) (h r n : Nat) (f : xP) (hp : xPoly G w h r n f) : Met l yX3_isZero wsX3_isZero rmX3_isZero (va_Pc [.ref h] (xB G B w)) (va_Qi (fun z u => ((z = 1 ∧ xlen f n = 0) ∨ (z = 0 ∧ xlen f n ≠ 0)) ∧ u = w) (xE G B) (xA B)) 0 0 (xA B) := by
  refine xw_start (own := RX3) (mn := "isZero") (cc := cX3_isZero) (nL := 1) (rt := (some .boolean)) (by decide) rfl rfl rfl (Nat.le_of_ble_eq_true rfl) ?_
  intro p ev s m below meth cd ls C hl hw hS
  obtain ⟨hx, hb, -, -, -, hts, -, -, -, -⟩ := id C
  have hl : lv_has ls 1 [(0, .ref h)] := hl
  have hL := x_lenB f hp.2.2.2
  refine lv_aload_n hx hb dX3_isZero_0 rfl (lv_at hl 0 rfl) ?_
  refine xw_get C hw (hp).1 (ci := 2) rfl iX3_isZero_X3 1 (by decide) (by decide +kernel) rfl dX3_isZero_1 ?_
  refine lv_if_ge (tgt := 11) hx hb dX3_isZero_4 (by decide) (fun hc => ?_) (fun hc => ?_)
  · skip
    refine lv_iconst (v := 0) hx hb dX3_isZero_11 (by decide) ?_
    exact xw_zret C hw hS (Nat.le_of_ble_eq_true rfl) (Nat.le_of_ble_eq_true rfl) (Or.inl rfl) (⟨Or.inr ⟨rfl, fun q => by unfold xhi at hc; rw [q] at hc; exact absurd hc (by decide)⟩, rfl⟩) dX3_isZero_12
  · skip
    refine lv_iconst (v := 1) hx hb dX3_isZero_7 (by decide) ?_
    refine lv_goto (tgt := 12) hx hb dX3_isZero_8 (by decide) ?_
    exact xw_zret C hw hS (Nat.le_of_ble_eq_true rfl) (Nat.le_of_ble_eq_true rfl) (Or.inr rfl) (⟨Or.inl ⟨rfl, (x_hi_lt (by omega)).mp (by unfold xhi at hc; exact Int32.not_le.mp hc)⟩, rfl⟩) dX3_isZero_12

abbrev rmX3_coefficient : Room := { frames := 0, cells := 0, slots := 0, locals := 0 }
theorem iX3_coefficient_X3 : ∀ w ∈ wsX30, w ∈ wsX3_coefficient := by decide +kernel
set_option maxHeartbeats 4000000 in
set_option maxRecDepth 100000 in
theorem kX3_coefficient (l : Launch) (G : xG) (B : Nat) (w : xM) (h r n : Nat) (f : xP) (x : Int32) (hp : xPoly G w h r n f) : Met l yX3_coefficient wsX3_coefficient rmX3_coefficient (va_Pc [.ref h, .int x] (xB G B w)) (va_Qi (fun r u => r = xI (xcf f x) ∧ u = w) (xE G B) (xA B)) 0 0 (xA B) := by
  refine xw_start (own := RX3) (mn := "coefficient") (cc := cX3_coefficient) (nL := 2) (rt := (some .int)) (by decide) rfl rfl rfl (Nat.le_of_ble_eq_true rfl) ?_
  intro p ev s m below meth cd ls C hl hw hS
  obtain ⟨hx, hb, -, -, -, hts, -, -, -, -⟩ := id C
  have hl : lv_has ls 2 [(0, .ref h), (1, .int x)] := hl
  have hn := hp.2.2.2
  refine lv_iload_n hx hb dX3_coefficient_0 rfl (lv_at hl 1 rfl) ?_
  refine lv_if_lt (tgt := 22) hx hb dX3_coefficient_1 (by decide) (fun hc => ?_) (fun hc => ?_)
  · skip
    refine lv_iconst (v := 0) hx hb dX3_coefficient_22 (by decide) ?_
    exact xw_iret C hw hS (Nat.le_of_ble_eq_true rfl) (Nat.le_of_ble_eq_true rfl) (⟨by unfold xcf; rw [if_pos hc, xI_0], rfl⟩) dX3_coefficient_23
  · skip
    obtain ⟨j, hj, rfl⟩ := nI_of hc
    refine lv_iload_n hx hb dX3_coefficient_4 rfl (lv_at hl 1 rfl) ?_
    refine lv_aload_n hx hb dX3_coefficient_5 rfl (lv_at hl 0 rfl) ?_
    refine xw_get C hw (hp).1 (ci := 2) rfl iX3_coefficient_X3 0 (by decide) (by decide +kernel) rfl dX3_coefficient_6 ?_
    refine xw_alen C hw 0 rfl (hp).2.1 (N := n) rfl dX3_coefficient_9 ?_
    refine xw_cge (tgt := 22) hx hb dX3_coefficient_10 (by decide) hj (by omega) (fun hc2 => ?_) (fun hc2 => ?_)
    · skip
      refine lv_iconst (v := 0) hx hb dX3_coefficient_22 (by decide) ?_
      exact xw_iret C hw hS (Nat.le_of_ble_eq_true rfl) (Nat.le_of_ble_eq_true rfl) (⟨by rw [xcf_n _ hj, hp.2.2.1 j hc2, xI_0], rfl⟩) dX3_coefficient_23
    · skip
      refine lv_aload_n hx hb dX3_coefficient_13 rfl (lv_at hl 0 rfl) ?_
      refine xw_get C hw (hp).1 (ci := 2) rfl iX3_coefficient_X3 0 (by decide) (by decide +kernel) rfl dX3_coefficient_14 ?_
      refine lv_iload_n hx hb dX3_coefficient_17 rfl (lv_at hl 1 rfl) ?_
      refine xw_ialdN C hw (hp).2.1 hc2 (by omega) dX3_coefficient_18 ?_
      refine xw_ti (y := (xI (f j))) (rfl) ?_
      refine lv_goto (tgt := 23) hx hb dX3_coefficient_19 (by decide) ?_
      exact xw_iret C hw hS (Nat.le_of_ble_eq_true rfl) (Nat.le_of_ble_eq_true rfl) (⟨by rw [xcf_n _ hj], rfl⟩) dX3_coefficient_23

abbrev rmX3_leading : Room := { frames := 1, cells := 0, slots := 0, locals := 21 }
theorem iX3_leading_X3 : ∀ w ∈ wsX30, w ∈ wsX3_leading := by decide +kernel
set_option maxHeartbeats 4000000 in
set_option maxRecDepth 100000 in
theorem kX3_leading (l : Launch) (G : xG) (B : Nat) (w : xM) (h r n : Nat) (f : xP) (hp : xPoly G w h r n f) : Met l yX3_leading wsX3_leading rmX3_leading (va_Pc [.ref h] (xB G B w)) (va_Qi (fun r u => r = xI (xcf f (xhi f n)) ∧ u = w) (xE G B) (xA B)) 0 0 (xA B) := by
  refine xw_start (own := RX3) (mn := "leading") (cc := cX3_leading) (nL := 1) (rt := (some .int)) (by decide) rfl rfl rfl (Nat.le_of_ble_eq_true rfl) ?_
  intro p ev s m below meth cd ls C hl hw hS
  obtain ⟨hx, hb, -, -, -, hts, -, -, -, -⟩ := id C
  have hl : lv_has ls 1 [(0, .ref h)] := hl
  refine lv_aload_n hx hb dX3_leading_0 rfl (lv_at hl 0 rfl) ?_
  refine lv_aload_n hx hb dX3_leading_1 rfl (lv_at hl 0 rfl) ?_
  refine xw_get C hw (hp).1 (ci := 2) rfl iX3_leading_X3 1 (by decide) (by decide +kernel) rfl dX3_leading_2 ?_
  refine xw_ci (xw_V (n := 1) (rest := []) C hw (kX3_coefficient l G B w h r n f (xhi f n) hp) gX3_leading_X3_coefficient rfl rfl rfl (by decide +kernel) ⟨Nat.le_of_ble_eq_true rfl, Nat.le_of_ble_eq_true rfl⟩ (hp).1 rfl rfl hl.1 rfl (Nat.le_of_ble_eq_true rfl) dX3_leading_5 ⟨Nat.le_of_ble_eq_true rfl, Nat.le_of_ble_eq_true rfl⟩ hS) hS (fun ru u H locs hp hw hS => ?_)
  obtain ⟨hr, hu⟩ := hp
  rw [hu] at hw
  refine xw_ti (y := (xI (xcf f (xhi f n)))) (hr) ?_
  exact xw_iret C hw hS (Nat.le_of_ble_eq_true rfl) (Nat.le_of_ble_eq_true rfl) (⟨rfl, rfl⟩) dX3_leading_8

abbrev rmX3_put : Room := { frames := 0, cells := 0, slots := 0, locals := 0 }
theorem iX3_put_X3 : ∀ w ∈ wsX30, w ∈ wsX3_put := by decide +kernel
set_option maxHeartbeats 4000000 in
set_option maxRecDepth 100000 in
theorem kX3_put (l : Launch) (G : xG) (B : Nat) (w : xM) (h r n : Nat) (f : xP) (k : Nat) (v : xF) (hp : xPoly G w h r n f) (hk : k < n) : Met l yX3_put wsX3_put rmX3_put (va_Pc [.ref h, .int (nI k), .int (xI v)] (xB G B w)) (va_Qv (fun u => u = xset G w h r n (va_up f k v)) (xE G B) (xA B)) 0 0 (xA B) := by
  refine xw_start (own := RX3) (mn := "put") (cc := cX3_put) (nL := 4) (rt := none) (by decide) rfl rfl rfl (Nat.le_of_ble_eq_true rfl) ?_
  intro p ev s m below meth cd ls C hl hw hS
  obtain ⟨hx, hb, -, -, -, hts, -, -, -, -⟩ := id C
  have hl : lv_has ls 4 [(0, .ref h), (1, .int (nI k)), (2, .int (xI v))] := hl
  have hn := hp.2.2.2
  have hlen := xlen_le f n
  refine lv_iload_n hx hb dX3_put_0 rfl (lv_at hl 1 rfl) ?_
  refine lv_if_lt (tgt := 13) hx hb dX3_put_1 (by decide) (fun hc => absurd hc (nI_pos (by omega))) (fun _ => ?_)
  refine lv_iload_n hx hb dX3_put_4 rfl (lv_at hl 1 rfl) ?_
  refine lv_aload_n hx hb dX3_put_5 rfl (lv_at hl 0 rfl) ?_
  refine xw_get C hw (hp).1 (ci := 2) rfl iX3_put_X3 0 (by decide) (by decide +kernel) rfl dX3_put_6 ?_
  refine xw_alen C hw 0 rfl (hp).2.1 (N := n) rfl dX3_put_9 ?_
  refine lv_icmp_lt (tgt := 14) hx hb dX3_put_10 (by decide) (fun _ => ?_) (fun hc => absurd ((nI_ltI (by omega) (by omega)).mpr hk) hc)
  refine lv_aload_n hx hb dX3_put_14 rfl (lv_at hl 0 rfl) ?_
  refine xw_get C hw (hp).1 (ci := 2) rfl iX3_put_X3 0 (by decide) (by decide +kernel) rfl dX3_put_15 ?_
  refine lv_iload_n hx hb dX3_put_18 rfl (lv_at hl 1 rfl) ?_
  refine lv_iload_n hx hb dX3_put_19 rfl (lv_at hl 2 rfl) ?_
  refine xw_iastN C hw hS (hp).2.1 hk (by omega) dX3_put_20 (fun H locs hw hS => ?_)
  have hw : xW G B (xu w r (.inl (G.2 0, n, .inl (xrow (va_up f k v))))) H := by rw [← xrow_up]; exact hw
  have hh : xu w r (.inl (G.2 0, n, .inl (xrow (va_up f k v)))) h = some (.inr (2, [.ref r, .int (xhi f n)])) := (xu_n _ _ (Ne.symm hp.ne)).trans hp.1
  refine lv_iload_n hx hb dX3_put_21 rfl (lv_at hl 1 rfl) ?_
  refine lv_aload_n hx hb dX3_put_22 rfl (lv_at hl 0 rfl) ?_
  refine xw_get C hw hh (ci := 2) rfl iX3_put_X3 1 (by decide) (by decide +kernel) rfl dX3_put_23 ?_
  refine lv_icmp_lt (tgt := 55) hx hb dX3_put_26 (by decide) (fun hc => ?_) (fun hc => ?_)
  · skip
    exact xw_vret C hw hS (Nat.le_of_ble_eq_true rfl) (Nat.le_of_ble_eq_true rfl) (by unfold xset; rw [xhi_put ((x_lt_hi (by omega) (by omega)).mp hc)]; exact (xu_id _ hh).symm) dX3_put_55
  · skip
    have hk2 : xlen f n ≤ k + 1 := Nat.not_lt.mp fun q => hc ((x_lt_hi (by omega) (by omega)).mpr q)
    refine lv_iload_n hx hb dX3_put_29 rfl (lv_at hl 1 rfl) ?_
    refine lv_istore_n (lv' := [(3, .int (nI k)), (0, .ref h), (1, .int (nI k)), (2, .int (xI v))]) hx hb dX3_put_30 rfl hl (by decide) rfl (fun ls hl => ?_)
    have loop : ∀ (j : Nat) (ls : Array Slot), j ≤ k + 1 → (∀ i, j ≤ i → i < n → va_up f k v i = 0) → lv_has ls 4 [(3, .int (nI j - 1)), (0, .ref h), (1, .int (nI k)), (2, .int (xI v))] → W p l ev rmX3_put s m [.ref h, .int (nI k), .int (xI v)].toArray below meth cd H locs 0 0 (MQ below (va_Qv (fun u => u = xset G w h r n (va_up f k v)) (xE G B) (xA B)) [.ref h, .int (nI k), .int (xI v)].toArray s 0 0 (xA B)) (F0 m 31 ls []) := by
      intro j
      induction j with
      | zero =>
        intro ls hj hz hl
        refine lv_iload_n hx hb dX3_put_31 rfl (lv_at hl 0 rfl) ?_
        refine lv_if_lt (tgt := 50) hx hb dX3_put_32 (by decide) (fun _ => ?_) (fun hc => absurd (x_neg) hc)
        refine lv_aload_n hx hb dX3_put_50 rfl (lv_at hl 1 rfl) ?_
        refine lv_iload_n hx hb dX3_put_51 rfl (lv_at hl 0 rfl) ?_
        refine xw_put C hw hS hh (ci := 2) rfl iX3_put_X3 tyX3 tyX3_ok nmX3 1 (by decide) (by decide +kernel) rfl (ty := .int) (by decide +kernel) rfl rfl (Nat.le_of_ble_eq_true rfl) dX3_put_52 (fun H locs hw hS => ?_)
        have hw : xW G B (xset G w h r n (va_up f k v)) H := by unfold xset xhi; rw [xlen_eq (j := 0) (Nat.zero_le _) hz (Or.inl rfl)]; exact hw
        exact xw_vret C hw hS (Nat.le_of_ble_eq_true rfl) (Nat.le_of_ble_eq_true rfl) (rfl) dX3_put_55
      | succ i ih =>
        intro ls hj hz hl
        have hl : lv_has ls 4 [(3, .int (nI i)), (0, .ref h), (1, .int (nI k)), (2, .int (xI v))] := by rw [← (show (nI (i + 1) - 1) = (nI i) from x_m1 i)]; exact hl
        refine lv_iload_n hx hb dX3_put_31 rfl (lv_at hl 0 rfl) ?_
        refine lv_if_lt (tgt := 50) hx hb dX3_put_32 (by decide) (fun hc => absurd hc (nI_pos (by omega))) (fun _ => ?_)
        refine lv_aload_n hx hb dX3_put_35 rfl (lv_at hl 1 rfl) ?_
        refine xw_get C hw hh (ci := 2) rfl iX3_put_X3 0 (by decide) (by decide +kernel) rfl dX3_put_36 ?_
        refine lv_iload_n hx hb dX3_put_39 rfl (lv_at hl 0 rfl) ?_
        refine xw_ialdN C hw (xu_s _ _ _) (show i < n by omega) (by omega) dX3_put_40 ?_
        refine xw_ti (y := (xI (va_up f k v i))) (rfl) ?_
        refine lv_if_ne (tgt := 50) hx hb dX3_put_41 (by decide) (fun hc3 => ?_) (fun hc3 => ?_)
        · skip
          refine lv_aload_n hx hb dX3_put_50 rfl (lv_at hl 1 rfl) ?_
          refine lv_iload_n hx hb dX3_put_51 rfl (lv_at hl 0 rfl) ?_
          refine xw_put C hw hS hh (ci := 2) rfl iX3_put_X3 tyX3 tyX3_ok nmX3 1 (by decide) (by decide +kernel) rfl (ty := .int) (by decide +kernel) rfl rfl (Nat.le_of_ble_eq_true rfl) dX3_put_52 (fun H locs hw hS => ?_)
          have hw : xW G B (xset G w h r n (va_up f k v)) H := by unfold xset xhi; rw [xlen_eq (j := i + 1) (by omega) hz (Or.inr ⟨i, rfl, fun q => hc3 (by rw [q, xI_0])⟩), x_m1]; exact hw
          exact xw_vret C hw hS (Nat.le_of_ble_eq_true rfl) (Nat.le_of_ble_eq_true rfl) (rfl) dX3_put_55
        · skip
          refine lv_iinc (v := (nI i - 1)) (lv' := [(3, .int (nI i - 1)), (0, .ref h), (1, .int (nI k)), (2, .int (xI v))]) hx hb dX3_put_44 hl (k := 0) rfl (x_dec _) (by decide) rfl (fun ls hl => ?_)
          refine lv_goto (tgt := 31) hx hb dX3_put_47 (by decide) ?_
          refine ih ls (by omega) (fun q h1 h2 => ?_) hl
          by_cases hq : q = i
          · subst hq; exact xI_z.mp hc3
          · exact hz q (by omega) h2
    exact loop (k + 1) ls (Nat.le_refl _) (xlen_put hk hk2) (by rw [x_m1]; exact hl)

abbrev rmX3_clear : Room := { frames := 1, cells := 0, slots := 0, locals := 23 }
theorem iX3_clear_X3 : ∀ w ∈ wsX30, w ∈ wsX3_clear := by decide +kernel
set_option maxHeartbeats 4000000 in
set_option maxRecDepth 100000 in
theorem kX3_clear (l : Launch) (G : xG) (B : Nat) (w : xM) (h r n : Nat) (f : xP) (hp : xPoly G w h r n f) : Met l yX3_clear wsX3_clear rmX3_clear (va_Pc [.ref h] (xB G B w)) (va_Qv (fun u => u = xset G w h r n (fun _ => 0)) (xE G B) (xA B)) 0 0 (xA B) := by
  refine xw_start (own := RX3) (mn := "clear") (cc := cX3_clear) (nL := 2) (rt := none) (by decide) rfl rfl rfl (Nat.le_of_ble_eq_true rfl) ?_
  intro p ev s m below meth cd ls C hl hw hS
  obtain ⟨hx, hb, -, -, -, hts, -, -, -, -⟩ := id C
  have hl : lv_has ls 2 [(0, .ref h)] := hl
  have hn := hp.2.2.2
  have hlen := xlen_le f n
  refine lv_aload_n hx hb dX3_clear_0 rfl (lv_at hl 0 rfl) ?_
  refine xw_get C hw (hp).1 (ci := 2) rfl iX3_clear_X3 1 (by decide) (by decide +kernel) rfl dX3_clear_1 ?_
  refine lv_istore_n (lv' := [(1, .int (xhi f n)), (0, .ref h)]) hx hb dX3_clear_4 rfl hl (by decide) rfl (fun ls hl => ?_)
  have loop : ∀ (j : Nat) (ls : Array Slot) (H : Heap) (locs : List Loc), j ≤ n → xW G B (xset G w h r n (xcut f j)) H → va_S (xA B) s.heap H locs → lv_has ls 2 [(1, .int (nI j - 1)), (0, .ref h)] → W p l ev rmX3_clear s m [.ref h].toArray below meth cd H locs 0 0 (MQ below (va_Qv (fun u => u = xset G w h r n (fun _ => 0)) (xE G B) (xA B)) [.ref h].toArray s 0 0 (xA B)) (F0 m 5 ls []) := by
    intro j
    induction j with
    | zero =>
      intro ls H locs hj hw hS hl
      refine lv_iload_n hx hb dX3_clear_5 rfl (lv_at hl 0 rfl) ?_
      refine lv_if_lt (tgt := 21) hx hb dX3_clear_6 (by decide) (fun _ => ?_) (fun hc => absurd (x_neg) hc)
      exact xw_vret C hw hS (Nat.le_of_ble_eq_true rfl) (Nat.le_of_ble_eq_true rfl) (by rw [xcut_0]) dX3_clear_21
    | succ j ih =>
      intro ls H locs hj hw hS hl
      have hq : xPoly G (xset G w h r n (xcut f (j + 1))) h r n (xcut f (j + 1)) := xset_s hp.ne (xsup_cut2 hp.2.2.1) hn
      have hl : lv_has ls 2 [(1, .int (nI j)), (0, .ref h)] := by rw [← (show (nI (j + 1) - 1) = (nI j) from x_m1 j)]; exact hl
      refine lv_iload_n hx hb dX3_clear_5 rfl (lv_at hl 0 rfl) ?_
      refine lv_if_lt (tgt := 21) hx hb dX3_clear_6 (by decide) (fun hc => absurd hc (nI_pos (by omega))) (fun _ => ?_)
      refine lv_aload_n hx hb dX3_clear_9 rfl (lv_at hl 1 rfl) ?_
      refine lv_iload_n hx hb dX3_clear_10 rfl (lv_at hl 0 rfl) ?_
      refine lv_iconst (v := 0) hx hb dX3_clear_11 (by decide) ?_
      refine xw_ti (y := (xI 0)) (xI_0.symm) ?_
      refine xw_cv (xw_V (n := 2) (rest := []) C hw (kX3_put l G B _ h r n (xcut f (j + 1)) j 0 hq (by omega)) gX3_clear_X3_put rfl rfl rfl (by decide +kernel) ⟨Nat.le_of_ble_eq_true rfl, Nat.le_of_ble_eq_true rfl⟩ (hq).1 rfl rfl hl.1 rfl (Nat.le_of_ble_eq_true rfl) dX3_clear_12 ⟨Nat.le_of_ble_eq_true rfl, Nat.le_of_ble_eq_true rfl⟩ hS) hS (fun u H locs hpp hw hS => ?_)
      rw [hpp] at hw
      rw [xset_u hp.ne, xcut_dn] at hw
      refine lv_iinc (v := (nI j - 1)) (lv' := [(1, .int (nI j - 1)), (0, .ref h)]) hx hb dX3_clear_15 hl (k := 0) rfl (x_dec _) (by decide) rfl (fun ls hl => ?_)
      refine lv_goto (tgt := 5) hx hb dX3_clear_18 (by decide) ?_
      exact ih ls _ _ (by omega) hw hS hl
  exact loop (xlen f n) ls _ _ hlen (by rw [xcut_sup (xlen_sup hp.2.2.1), xset_id hp]; exact hw) hS hl

abbrev rmX3_copy : Room := { frames := 2, cells := 0, slots := 0, locals := 44 }
theorem iX3_copy_X3 : ∀ w ∈ wsX30, w ∈ wsX3_copy := by decide +kernel
set_option maxHeartbeats 4000000 in
set_option maxRecDepth 100000 in
theorem kX3_copy (l : Launch) (G : xG) (B : Nat) (w : xM) (h r n : Nat) (f : xP) (h2 r2 n2 : Nat) (g : xP) (hp : xPoly G w h r n f) (hq : xPoly G w h2 r2 n2 g) (hne : h2 ≠ h) (hnr : r2 ≠ r) (hfit : xlen g n2 ≤ n) : Met l yX3_copy wsX3_copy rmX3_copy (va_Pc [.ref h, .ref h2] (xB G B w)) (va_Qv (fun u => u = xset G w h r n g) (xE G B) (xA B)) 0 0 (xA B) := by
  refine xw_start (own := RX3) (mn := "copy") (cc := cX3_copy) (nL := 3) (rt := none) (by decide) rfl rfl rfl (Nat.le_of_ble_eq_true rfl) ?_
  intro p ev s m below meth cd ls C hl hw hS
  obtain ⟨hx, hb, -, -, -, hts, -, -, -, -⟩ := id C
  have hl : lv_has ls 3 [(0, .ref h), (1, .ref h2)] := hl
  have hn := hp.2.2.2
  have hn2 := hq.2.2.2
  have hlen := xlen_le g n2
  refine lv_aload_n hx hb dX3_copy_0 rfl (lv_at hl 0 rfl) ?_
  refine xw_cv (xw_V (n := 0) (rest := []) C hw (kX3_clear l G B w h r n f hp) gX3_copy_X3_clear rfl rfl rfl (by decide +kernel) ⟨Nat.le_of_ble_eq_true rfl, Nat.le_of_ble_eq_true rfl⟩ (hp).1 rfl rfl hl.1 rfl (Nat.le_of_ble_eq_true rfl) dX3_copy_1 ⟨Nat.le_of_ble_eq_true rfl, Nat.le_of_ble_eq_true rfl⟩ hS) hS (fun u H locs hpp hw hS => ?_)
  rw [hpp] at hw
  refine lv_iconst (v := 0) hx hb dX3_copy_4 (by decide) ?_
  refine lv_istore_n (lv' := [(2, .int 0), (0, .ref h), (1, .ref h2)]) hx hb dX3_copy_5 rfl hl (by decide) rfl (fun ls hl => ?_)
  have loop : ∀ (d k : Nat) (ls : Array Slot) (H : Heap) (locs : List Loc), k + d = xlen g n2 → xW G B (xset G w h r n (xcut g k)) H → va_S (xA B) s.heap H locs → lv_has ls 3 [(2, .int (nI k)), (0, .ref h), (1, .ref h2)] → W p l ev rmX3_copy s m [.ref h, .ref h2].toArray below meth cd H locs 0 0 (MQ below (va_Qv (fun u => u = xset G w h r n g) (xE G B) (xA B)) [.ref h, .ref h2].toArray s 0 0 (xA B)) (F0 m 6 ls []) := by
    intro d
    induction d with
    | zero =>
      intro k ls H locs hk hw hS hl
      have h0 : xPoly G (xset G w h r n (xcut g k)) h r n (xcut g k) := xset_s hp.ne (xsup_cut g (by omega)) hn
      have h1 : xPoly G (xset G w h r n (xcut g k)) h2 r2 n2 g := xset_n hq hne hnr (Ne.symm (hp.ne2 hq).1) (hp.ne2 hq).2
      refine lv_iload_n hx hb dX3_copy_6 rfl (lv_at hl 0 rfl) ?_
      refine lv_aload_n hx hb dX3_copy_7 rfl (lv_at hl 2 rfl) ?_
      refine xw_get C hw (h1).1 (ci := 2) rfl iX3_copy_X3 1 (by decide) (by decide +kernel) rfl dX3_copy_8 ?_
      refine lv_icmp_gt (tgt := 30) hx hb dX3_copy_11 (by decide) (fun _ => ?_) (fun hc => absurd ((x_gt_hi (by omega) (by omega)).mpr (by omega)) hc)
      exact xw_vret C hw hS (Nat.le_of_ble_eq_true rfl) (Nat.le_of_ble_eq_true rfl) (by rw [show k = xlen g n2 by omega, xcut_sup (xlen_sup hq.2.2.1)]) dX3_copy_30
    | succ d ih =>
      intro k ls H locs hk hw hS hl
      have h0 : xPoly G (xset G w h r n (xcut g k)) h r n (xcut g k) := xset_s hp.ne (xsup_cut g (by omega)) hn
      have h1 : xPoly G (xset G w h r n (xcut g k)) h2 r2 n2 g := xset_n hq hne hnr (Ne.symm (hp.ne2 hq).1) (hp.ne2 hq).2
      refine lv_iload_n hx hb dX3_copy_6 rfl (lv_at hl 0 rfl) ?_
      refine lv_aload_n hx hb dX3_copy_7 rfl (lv_at hl 2 rfl) ?_
      refine xw_get C hw (h1).1 (ci := 2) rfl iX3_copy_X3 1 (by decide) (by decide +kernel) rfl dX3_copy_8 ?_
      refine lv_icmp_gt (tgt := 30) hx hb dX3_copy_11 (by decide) (fun hc => absurd hc (fun q => absurd ((x_gt_hi (by omega) (by omega)).mp q) (by omega))) (fun _ => ?_)
      refine lv_aload_n hx hb dX3_copy_14 rfl (lv_at hl 1 rfl) ?_
      refine lv_iload_n hx hb dX3_copy_15 rfl (lv_at hl 0 rfl) ?_
      refine lv_aload_n hx hb dX3_copy_16 rfl (lv_at hl 2 rfl) ?_
      refine lv_iload_n hx hb dX3_copy_17 rfl (lv_at hl 0 rfl) ?_
      refine xw_ci (xw_V (n := 1) (rest := [.int (nI k), .ref h]) C hw (kX3_coefficient l G B _ h2 r2 n2 g (nI k) h1) gX3_copy_X3_coefficient rfl rfl rfl (by decide +kernel) ⟨Nat.le_of_ble_eq_true rfl, Nat.le_of_ble_eq_true rfl⟩ (h1).1 rfl rfl hl.1 rfl (Nat.le_of_ble_eq_true rfl) dX3_copy_18 ⟨Nat.le_of_ble_eq_true rfl, Nat.le_of_ble_eq_true rfl⟩ hS) hS (fun ru u H locs hp hw hS => ?_)
      obtain ⟨hr, hu⟩ := hp
      rw [hu] at hw
      refine xw_ti (y := (xI (g k))) (hr.trans (by rw [xcf_n _ (by omega)])) ?_
      refine xw_cv (xw_V (n := 2) (rest := []) C hw (kX3_put l G B _ h r n (xcut g k) k (g k) h0 (by omega)) gX3_copy_X3_put rfl rfl rfl (by decide +kernel) ⟨Nat.le_of_ble_eq_true rfl, Nat.le_of_ble_eq_true rfl⟩ (h0).1 rfl rfl hl.1 rfl (Nat.le_of_ble_eq_true rfl) dX3_copy_21 ⟨Nat.le_of_ble_eq_true rfl, Nat.le_of_ble_eq_true rfl⟩ hS) hS (fun u H locs hpp hw hS => ?_)
      rw [hpp] at hw
      rw [xset_u hp.ne, xcut_up] at hw
      refine lv_iinc (v := (nI (k + 1))) (lv' := [(2, .int (nI (k + 1))), (0, .ref h), (1, .ref h2)]) hx hb dX3_copy_24 hl (k := 0) rfl (x_inc k) (by decide) rfl (fun ls hl => ?_)
      refine lv_goto (tgt := 6) hx hb dX3_copy_27 (by decide) ?_
      exact ih (k + 1) ls _ _ (by omega) hw hS hl
  exact loop (xlen g n2) 0 ls _ _ (by omega) (by rw [xcut_0]; exact hw) hS hl

abbrev rmX3_gather : Room := { frames := 1, cells := 0, slots := 0, locals := 23 }
theorem iX3_gather_X3 : ∀ w ∈ wsX30, w ∈ wsX3_gather := by decide +kernel
set_option maxHeartbeats 4000000 in
set_option maxRecDepth 100000 in
theorem kX3_gather (l : Launch) (G : xG) (B : Nat) (w : xM) (h r n : Nat) (f : xP) (h2 r2 n2 : Nat) (g : xP) (hp : xPoly G w h r n f) (hq : xPoly G w h2 r2 n2 g) (hne : h2 ≠ h) (hnr : r2 ≠ r) (q pw : Nat) (hq3 : q ≤ 32003) (hfit : xlen g n2 + pw ≤ n) : Met l yX3_gather wsX3_gather rmX3_gather (va_Pc [.ref h, .ref h2, .int (nI q), .int (nI pw)] (xB G B w)) (va_Qv (fun u => u = xset G w h r n (xgat f (xO q) g pw)) (xE G B) (xA B)) 0 0 (xA B) := by
  refine xw_start (own := RX3) (mn := "gather") (cc := cX3_gather) (nL := 7) (rt := none) (by decide) rfl rfl rfl (Nat.le_of_ble_eq_true rfl) ?_
  intro p ev s m below meth cd ls C hl hw hS
  obtain ⟨hx, hb, -, -, -, hts, -, -, -, -⟩ := id C
  have hl : lv_has ls 7 [(0, .ref h), (1, .ref h2), (2, .int (nI q)), (3, .int (nI pw))] := hl
  have hn := hp.2.2.2
  have hn2 := hq.2.2.2
  have hlen := xlen_le g n2
  refine lv_iconst (v := 0) hx hb dX3_gather_0 (by decide) ?_
  refine lv_istore (lv' := [(4, .int 0), (0, .ref h), (1, .ref h2), (2, .int (nI q)), (3, .int (nI pw))]) hx hb dX3_gather_1 hl (by decide) rfl (fun ls hl => ?_)
  have loop : ∀ (d k : Nat) (ls : Array Slot) (H : Heap) (locs : List Loc), k + d = xlen g n2 → xW G B (xset G w h r n (xgatk f (xO q) g pw k)) H → va_S (xA B) s.heap H locs → lv_has ls 7 [(4, .int (nI k)), (0, .ref h), (1, .ref h2), (2, .int (nI q)), (3, .int (nI pw))] → W p l ev rmX3_gather s m [.ref h, .ref h2, .int (nI q), .int (nI pw)].toArray below meth cd H locs 0 0 (MQ below (va_Qv (fun u => u = xset G w h r n (xgat f (xO q) g pw)) (xE G B) (xA B)) [.ref h, .ref h2, .int (nI q), .int (nI pw)].toArray s 0 0 (xA B)) (F0 m 3 ls []) := by
    intro d
    induction d with
    | zero =>
      intro k ls H locs hk hw hS hl
      have h0 : xPoly G (xset G w h r n (xgatk f (xO q) g pw k)) h r n (xgatk f (xO q) g pw k) := xset_s hp.ne (xgatk_sup hp.2.2.1 (by omega)) hn
      have h1 : xPoly G (xset G w h r n (xgatk f (xO q) g pw k)) h2 r2 n2 g := xset_n hq hne hnr (Ne.symm (hp.ne2 hq).1) (hp.ne2 hq).2
      refine lv_iload hx hb dX3_gather_3 (lv_at hl 0 rfl) ?_
      refine lv_aload_n hx hb dX3_gather_5 rfl (lv_at hl 2 rfl) ?_
      refine xw_get C hw (h1).1 (ci := 2) rfl iX3_gather_X3 1 (by decide) (by decide +kernel) rfl dX3_gather_6 ?_
      refine lv_icmp_gt (tgt := 53) hx hb dX3_gather_9 (by decide) (fun _ => ?_) (fun hc => absurd ((x_gt_hi (by omega) (by omega)).mpr (by omega)) hc)
      exact xw_vret C hw hS (Nat.le_of_ble_eq_true rfl) (Nat.le_of_ble_eq_true rfl) (by rw [show k = xlen g n2 by omega, xgatk_end _ _ (xlen_sup hq.2.2.1)]) dX3_gather_53
    | succ d ih =>
      intro k ls H locs hk hw hS hl
      have h0 : xPoly G (xset G w h r n (xgatk f (xO q) g pw k)) h r n (xgatk f (xO q) g pw k) := xset_s hp.ne (xgatk_sup hp.2.2.1 (by omega)) hn
      have h1 : xPoly G (xset G w h r n (xgatk f (xO q) g pw k)) h2 r2 n2 g := xset_n hq hne hnr (Ne.symm (hp.ne2 hq).1) (hp.ne2 hq).2
      refine lv_iload hx hb dX3_gather_3 (lv_at hl 0 rfl) ?_
      refine lv_aload_n hx hb dX3_gather_5 rfl (lv_at hl 2 rfl) ?_
      refine xw_get C hw (h1).1 (ci := 2) rfl iX3_gather_X3 1 (by decide) (by decide +kernel) rfl dX3_gather_6 ?_
      refine lv_icmp_gt (tgt := 53) hx hb dX3_gather_9 (by decide) (fun hc => absurd hc (fun q => absurd ((x_gt_hi (by omega) (by omega)).mp q) (by omega))) (fun _ => ?_)
      refine lv_aload_n hx hb dX3_gather_12 rfl (lv_at hl 1 rfl) ?_
      refine lv_iload hx hb dX3_gather_13 (lv_at hl 0 rfl) ?_
      refine lv_iload_n hx hb dX3_gather_15 rfl (lv_at hl 4 rfl) ?_
      refine lv_iadd hx hb dX3_gather_16 ?_
      refine xw_ti (y := (nI (k + pw))) (nI_add _ _) ?_
      refine xw_ci (xw_V (n := 1) (rest := []) C hw (kX3_coefficient l G B _ h r n (xgatk f (xO q) g pw k) (nI (k + pw)) h0) gX3_gather_X3_coefficient rfl rfl rfl (by decide +kernel) ⟨Nat.le_of_ble_eq_true rfl, Nat.le_of_ble_eq_true rfl⟩ (h0).1 rfl rfl hl.1 rfl (Nat.le_of_ble_eq_true rfl) dX3_gather_17 ⟨Nat.le_of_ble_eq_true rfl, Nat.le_of_ble_eq_true rfl⟩ hS) hS (fun ru u H locs hp hw hS => ?_)
      obtain ⟨hr, hu⟩ := hp
      rw [hu] at hw
      refine xw_ti (y := (xI (xgatk f (xO q) g pw k (k + pw)))) (hr.trans (by rw [xcf_n _ (by omega)])) ?_
      refine lv_i2l (v := ((xI (xgatk f (xO q) g pw k (k + pw)))).toInt64) hx hb dX3_gather_20 rfl ?_
      refine xw_tl (y := (xJ (xgatk f (xO q) g pw k (k + pw)))) (xI_l _) ?_
      refine lv_iload_n hx hb dX3_gather_21 rfl (lv_at hl 3 rfl) ?_
      refine lv_i2l (v := ((nI q)).toInt64) hx hb dX3_gather_22 rfl ?_
      refine xw_tl (y := (lN q)) (nI_l (by omega)) ?_
      refine lv_aload_n hx hb dX3_gather_23 rfl (lv_at hl 2 rfl) ?_
      refine lv_iload hx hb dX3_gather_24 (lv_at hl 0 rfl) ?_
      refine xw_ci (xw_V (n := 1) (rest := [.long (lN q), .long (xJ (xgatk f (xO q) g pw k (k + pw)))]) C hw (kX3_coefficient l G B _ h2 r2 n2 g (nI k) h1) gX3_gather_X3_coefficient rfl rfl rfl (by decide +kernel) ⟨Nat.le_of_ble_eq_true rfl, Nat.le_of_ble_eq_true rfl⟩ (h1).1 rfl rfl hl.1 rfl (Nat.le_of_ble_eq_true rfl) dX3_gather_26 ⟨Nat.le_of_ble_eq_true rfl, Nat.le_of_ble_eq_true rfl⟩ hS) hS (fun ru u H locs hp hw hS => ?_)
      obtain ⟨hr, hu⟩ := hp
      rw [hu] at hw
      refine xw_ti (y := (xI (g k))) (hr.trans (by rw [xcf_n _ (by omega)])) ?_
      refine lv_i2l (v := ((xI (g k))).toInt64) hx hb dX3_gather_29 rfl ?_
      refine xw_tl (y := (xJ (g k))) (xI_l _) ?_
      refine lv_lmul hx hb dX3_gather_30 ?_
      refine lv_ladd hx hb dX3_gather_31 ?_
      refine lv_lstore (lv' := [(5, .long ((xJ (xgatk f (xO q) g pw k (k + pw))) + ((lN q) * (xJ (g k))))), (4, .int (nI k)), (0, .ref h), (1, .ref h2), (2, .int (nI q)), (3, .int (nI pw))]) hx hb dX3_gather_32 hl (by decide) rfl (fun ls hl => ?_)
      refine lv_aload_n hx hb dX3_gather_34 rfl (lv_at hl 2 rfl) ?_
      refine lv_iload hx hb dX3_gather_35 (lv_at hl 1 rfl) ?_
      refine lv_iload_n hx hb dX3_gather_37 rfl (lv_at hl 5 rfl) ?_
      refine lv_iadd hx hb dX3_gather_38 ?_
      refine xw_ti (y := (nI (k + pw))) (nI_add _ _) ?_
      refine lv_lload hx hb dX3_gather_39 (lv_at hl 0 rfl) ?_
      refine xw_ci (xw_S (n := 1) (rest := [.int (nI (k + pw)), .ref h]) C hw (kX2_reduced l G B _ _) gX3_gather_X2_reduced rfl rfl rfl (by decide +kernel) ⟨Nat.le_of_ble_eq_true rfl, Nat.le_of_ble_eq_true rfl⟩ rfl hl.1 rfl (Nat.le_of_ble_eq_true rfl) dX3_gather_41 ⟨Nat.le_of_ble_eq_true rfl, Nat.le_of_ble_eq_true rfl⟩ hS) hS (fun ru u H locs hp hw hS => ?_)
      obtain ⟨hr, hu⟩ := hp
      rw [hu] at hw
      refine xw_ti (y := (xI (xgatk f (xO q) g pw k (k + pw) + xO q * g k))) (hr.trans (by rw [xR_gat _ _ hq3])) ?_
      refine xw_cv (xw_V (n := 2) (rest := []) C hw (kX3_put l G B _ h r n (xgatk f (xO q) g pw k) (k + pw) _ h0 (by omega)) gX3_gather_X3_put rfl rfl rfl (by decide +kernel) ⟨Nat.le_of_ble_eq_true rfl, Nat.le_of_ble_eq_true rfl⟩ (h0).1 rfl rfl hl.1 rfl (Nat.le_of_ble_eq_true rfl) dX3_gather_44 ⟨Nat.le_of_ble_eq_true rfl, Nat.le_of_ble_eq_true rfl⟩ hS) hS (fun u H locs hpp hw hS => ?_)
      rw [hpp] at hw
      rw [xset_u hp.ne, xgatk_s] at hw
      refine lv_iinc (v := (nI (k + 1))) (lv' := [(4, .int (nI (k + 1))), (5, .long ((xJ (xgatk f (xO q) g pw k (k + pw))) + ((lN q) * (xJ (g k))))), (0, .ref h), (1, .ref h2), (2, .int (nI q)), (3, .int (nI pw))]) hx hb dX3_gather_47 hl (k := 1) rfl (x_inc k) (by decide) rfl (fun ls hl => ?_)
      refine lv_goto (tgt := 3) hx hb dX3_gather_50 (by decide) ?_
      exact ih (k + 1) ls _ _ (by omega) hw hS (lv_sub hl [0, 2, 3, 4, 5] rfl)
  exact loop (xlen g n2) 0 ls _ _ (by omega) (by rw [xgatk_0, xset_id hp]; exact hw) hS hl

abbrev rmX3_scale : Room := { frames := 2, cells := 0, slots := 0, locals := 43 }
theorem iX3_scale_X3 : ∀ w ∈ wsX30, w ∈ wsX3_scale := by decide +kernel
set_option maxHeartbeats 4000000 in
set_option maxRecDepth 100000 in
theorem kX3_scale (l : Launch) (G : xG) (B : Nat) (w : xM) (h r n : Nat) (f : xP) (v : xF) (hp : xPoly G w h r n f) : Met l yX3_scale wsX3_scale rmX3_scale (va_Pc [.ref h, .int (xI v)] (xB G B w)) (va_Qv (fun u => u = xset G w h r n (fun i => f i * v)) (xE G B) (xA B)) 0 0 (xA B) := by
  refine xw_start (own := RX3) (mn := "scale") (cc := cX3_scale) (nL := 3) (rt := none) (by decide) rfl rfl rfl (Nat.le_of_ble_eq_true rfl) ?_
  intro p ev s m below meth cd ls C hl hw hS
  obtain ⟨hx, hb, -, -, -, hts, -, -, -, -⟩ := id C
  have hl : lv_has ls 3 [(0, .ref h), (1, .int (xI v))] := hl
  have hn := hp.2.2.2
  have hlen := xlen_le f n
  refine lv_aload_n hx hb dX3_scale_0 rfl (lv_at hl 0 rfl) ?_
  refine xw_get C hw (hp).1 (ci := 2) rfl iX3_scale_X3 1 (by decide) (by decide +kernel) rfl dX3_scale_1 ?_
  refine lv_istore_n (lv' := [(2, .int (xhi f n)), (0, .ref h), (1, .int (xI v))]) hx hb dX3_scale_4 rfl hl (by decide) rfl (fun ls hl => ?_)
  have loop : ∀ (j : Nat) (ls : Array Slot) (H : Heap) (locs : List Loc), j ≤ n → xW G B (xset G w h r n (xsca f v j)) H → va_S (xA B) s.heap H locs → lv_has ls 3 [(2, .int (nI j - 1)), (0, .ref h), (1, .int (xI v))] → W p l ev rmX3_scale s m [.ref h, .int (xI v)].toArray below meth cd H locs 0 0 (MQ below (va_Qv (fun u => u = xset G w h r n (fun i => f i * v)) (xE G B) (xA B)) [.ref h, .int (xI v)].toArray s 0 0 (xA B)) (F0 m 5 ls []) := by
    intro j
    induction j with
    | zero =>
      intro ls H locs hj hw hS hl
      refine lv_iload_n hx hb dX3_scale_5 rfl (lv_at hl 0 rfl) ?_
      refine lv_if_lt (tgt := 29) hx hb dX3_scale_6 (by decide) (fun _ => ?_) (fun hc => absurd (x_neg) hc)
      exact xw_vret C hw hS (Nat.le_of_ble_eq_true rfl) (Nat.le_of_ble_eq_true rfl) (by rw [xsca_0]) dX3_scale_29
    | succ j ih =>
      intro ls H locs hj hw hS hl
      have hq : xPoly G (xset G w h r n (xsca f v (j + 1))) h r n (xsca f v (j + 1)) := xset_s hp.ne (xsca_sup hp.2.2.1) hn
      have hl : lv_has ls 3 [(2, .int (nI j)), (0, .ref h), (1, .int (xI v))] := by rw [← (show (nI (j + 1) - 1) = (nI j) from x_m1 j)]; exact hl
      refine lv_iload_n hx hb dX3_scale_5 rfl (lv_at hl 0 rfl) ?_
      refine lv_if_lt (tgt := 29) hx hb dX3_scale_6 (by decide) (fun hc => absurd hc (nI_pos (by omega))) (fun _ => ?_)
      refine lv_aload_n hx hb dX3_scale_9 rfl (lv_at hl 1 rfl) ?_
      refine lv_iload_n hx hb dX3_scale_10 rfl (lv_at hl 0 rfl) ?_
      refine lv_aload_n hx hb dX3_scale_11 rfl (lv_at hl 1 rfl) ?_
      refine lv_iload_n hx hb dX3_scale_12 rfl (lv_at hl 0 rfl) ?_
      refine xw_ci (xw_V (n := 1) (rest := [.int (nI j), .ref h]) C hw (kX3_coefficient l G B _ h r n (xsca f v (j + 1)) (nI j) hq) gX3_scale_X3_coefficient rfl rfl rfl (by decide +kernel) ⟨Nat.le_of_ble_eq_true rfl, Nat.le_of_ble_eq_true rfl⟩ (hq).1 rfl rfl hl.1 rfl (Nat.le_of_ble_eq_true rfl) dX3_scale_13 ⟨Nat.le_of_ble_eq_true rfl, Nat.le_of_ble_eq_true rfl⟩ hS) hS (fun ru u H locs hp hw hS => ?_)
      obtain ⟨hr, hu⟩ := hp
      rw [hu] at hw
      refine xw_ti (y := (xI (f j))) (hr.trans (by rw [xcf_n _ (by omega), xsca_at])) ?_
      refine lv_iload_n hx hb dX3_scale_16 rfl (lv_at hl 2 rfl) ?_
      refine xw_ci (xw_S (n := 2) (rest := [.int (nI j), .ref h]) C hw (kX2_product l G B _ (f j) v) gX3_scale_X2_product rfl rfl rfl (by decide +kernel) ⟨Nat.le_of_ble_eq_true rfl, Nat.le_of_ble_eq_true rfl⟩ rfl hl.1 rfl (Nat.le_of_ble_eq_true rfl) dX3_scale_17 ⟨Nat.le_of_ble_eq_true rfl, Nat.le_of_ble_eq_true rfl⟩ hS) hS (fun ru u H locs hp hw hS => ?_)
      obtain ⟨hr, hu⟩ := hp
      rw [hu] at hw
      refine xw_ti (y := (xI (f j * v))) (hr) ?_
      refine xw_cv (xw_V (n := 2) (rest := []) C hw (kX3_put l G B _ h r n (xsca f v (j + 1)) j (f j * v) hq (by omega)) gX3_scale_X3_put rfl rfl rfl (by decide +kernel) ⟨Nat.le_of_ble_eq_true rfl, Nat.le_of_ble_eq_true rfl⟩ (hq).1 rfl rfl hl.1 rfl (Nat.le_of_ble_eq_true rfl) dX3_scale_20 ⟨Nat.le_of_ble_eq_true rfl, Nat.le_of_ble_eq_true rfl⟩ hS) hS (fun u H locs hpp hw hS => ?_)
      rw [hpp] at hw
      rw [xset_u hp.ne, xsca_dn] at hw
      refine lv_iinc (v := (nI j - 1)) (lv' := [(2, .int (nI j - 1)), (0, .ref h), (1, .int (xI v))]) hx hb dX3_scale_23 hl (k := 0) rfl (x_dec _) (by decide) rfl (fun ls hl => ?_)
      refine lv_goto (tgt := 5) hx hb dX3_scale_26 (by decide) ?_
      exact ih ls _ _ (by omega) hw hS (lv_sub hl [0, 1, 2] rfl)
  exact loop (xlen f n) ls _ _ hlen (by rw [xsca_top v (xlen_sup hp.2.2.1), xset_id hp]; exact hw) hS hl

abbrev rmX3_multiplyByLinear : Room := { frames := 1, cells := 0, slots := 0, locals := 23 }
theorem iX3_multiplyByLinear_X3 : ∀ w ∈ wsX30, w ∈ wsX3_multiplyByLinear := by decide +kernel
set_option maxHeartbeats 4000000 in
set_option maxRecDepth 100000 in
theorem kX3_multiplyByLinear (l : Launch) (G : xG) (B : Nat) (w : xM) (h r n : Nat) (f : xP) (v : xF) (hp : xPoly G w h r n f) (hfit : xlen f n + 1 ≤ n) : Met l yX3_multiplyByLinear wsX3_multiplyByLinear rmX3_multiplyByLinear (va_Pc [.ref h, .int (xI v)] (xB G B w)) (va_Qv (fun u => u = xset G w h r n (xlin f v)) (xE G B) (xA B)) 0 0 (xA B) := by
  refine xw_start (own := RX3) (mn := "multiplyByLinear") (cc := cX3_multiplyByLinear) (nL := 5) (rt := none) (by decide) rfl rfl rfl (Nat.le_of_ble_eq_true rfl) ?_
  intro p ev s m below meth cd ls C hl hw hS
  obtain ⟨hx, hb, -, -, -, hts, -, -, -, -⟩ := id C
  have hl : lv_has ls 5 [(0, .ref h), (1, .int (xI v))] := hl
  have hn := hp.2.2.2
  have hlen := xlen_le f n
  have hsf := xlen_sup hp.2.2.1
  refine lv_aload_n hx hb dX3_multiplyByLinear_0 rfl (lv_at hl 0 rfl) ?_
  refine xw_get C hw (hp).1 (ci := 2) rfl iX3_multiplyByLinear_X3 1 (by decide) (by decide +kernel) rfl dX3_multiplyByLinear_1 ?_
  refine lv_iconst (v := 1) hx hb dX3_multiplyByLinear_4 (by decide) ?_
  refine lv_iadd hx hb dX3_multiplyByLinear_5 ?_
  refine xw_ti (y := (nI (xlen f n + 1) - 1)) (by rw [x_m1]; unfold xhi; exact Int32.sub_add_cancel _ _) ?_
  refine lv_istore_n (lv' := [(2, .int (nI (xlen f n + 1) - 1)), (0, .ref h), (1, .int (xI v))]) hx hb dX3_multiplyByLinear_6 rfl hl (by decide) rfl (fun ls hl => ?_)
  have loop : ∀ (j : Nat) (ls : Array Slot) (H : Heap) (locs : List Loc), j ≤ n → xW G B (xset G w h r n (xlink f v j)) H → va_S (xA B) s.heap H locs → lv_has ls 5 [(2, .int (nI j - 1)), (0, .ref h), (1, .int (xI v))] → W p l ev rmX3_multiplyByLinear s m [.ref h, .int (xI v)].toArray below meth cd H locs 0 0 (MQ below (va_Qv (fun u => u = xset G w h r n (xlin f v)) (xE G B) (xA B)) [.ref h, .int (xI v)].toArray s 0 0 (xA B)) (F0 m 7 ls []) := by
    intro j
    induction j with
    | zero =>
      intro ls H locs hj hw hS hl
      refine lv_iload_n hx hb dX3_multiplyByLinear_7 rfl (lv_at hl 0 rfl) ?_
      refine lv_if_lt (tgt := 45) hx hb dX3_multiplyByLinear_8 (by decide) (fun _ => ?_) (fun hc => absurd (x_neg) hc)
      exact xw_vret C hw hS (Nat.le_of_ble_eq_true rfl) (Nat.le_of_ble_eq_true rfl) (by rw [xlink_0]) dX3_multiplyByLinear_45
    | succ j ih =>
      intro ls H locs hj hw hS hl
      have hq : xPoly G (xset G w h r n (xlink f v (j + 1))) h r n (xlink f v (j + 1)) := xset_s hp.ne (xsup_mono (xlink_sup hsf) hfit) hn
      have hl : lv_has ls 5 [(2, .int (nI j)), (0, .ref h), (1, .int (xI v))] := by rw [← (show (nI (j + 1) - 1) = (nI j) from x_m1 j)]; exact hl
      refine lv_iload_n hx hb dX3_multiplyByLinear_7 rfl (lv_at hl 0 rfl) ?_
      refine lv_if_lt (tgt := 45) hx hb dX3_multiplyByLinear_8 (by decide) (fun hc => absurd hc (nI_pos (by omega))) (fun _ => ?_)
      refine lv_aload_n hx hb dX3_multiplyByLinear_11 rfl (lv_at hl 1 rfl) ?_
      refine lv_iload_n hx hb dX3_multiplyByLinear_12 rfl (lv_at hl 0 rfl) ?_
      refine lv_iconst (v := 1) hx hb dX3_multiplyByLinear_13 (by decide) ?_
      refine lv_isub hx hb dX3_multiplyByLinear_14 ?_
      refine xw_ci (xw_V (n := 1) (rest := []) C hw (kX3_coefficient l G B _ h r n (xlink f v (j + 1)) (nI j - 1) hq) gX3_multiplyByLinear_X3_coefficient rfl rfl rfl (by decide +kernel) ⟨Nat.le_of_ble_eq_true rfl, Nat.le_of_ble_eq_true rfl⟩ (hq).1 rfl rfl hl.1 rfl (Nat.le_of_ble_eq_true rfl) dX3_multiplyByLinear_15 ⟨Nat.le_of_ble_eq_true rfl, Nat.le_of_ble_eq_true rfl⟩ hS) hS (fun ru u H locs hp hw hS => ?_)
      obtain ⟨hr, hu⟩ := hp
      rw [hu] at hw
      refine xw_ti (y := (xI (xsh f j))) (hr.trans (by rw [xcf_sh _ _ (by omega)])) ?_
      refine lv_i2l (v := ((xI (xsh f j))).toInt64) hx hb dX3_multiplyByLinear_18 rfl ?_
      refine xw_tl (y := (xJ (xsh f j))) (xI_l _) ?_
      refine lv_iload_n hx hb dX3_multiplyByLinear_19 rfl (lv_at hl 2 rfl) ?_
      refine lv_i2l (v := ((xI v)).toInt64) hx hb dX3_multiplyByLinear_20 rfl ?_
      refine xw_tl (y := (xJ v)) (xI_l _) ?_
      refine lv_aload_n hx hb dX3_multiplyByLinear_21 rfl (lv_at hl 1 rfl) ?_
      refine lv_iload_n hx hb dX3_multiplyByLinear_22 rfl (lv_at hl 0 rfl) ?_
      refine xw_ci (xw_V (n := 1) (rest := [.long (xJ v), .long (xJ (xsh f j))]) C hw (kX3_coefficient l G B _ h r n (xlink f v (j + 1)) (nI j) hq) gX3_multiplyByLinear_X3_coefficient rfl rfl rfl (by decide +kernel) ⟨Nat.le_of_ble_eq_true rfl, Nat.le_of_ble_eq_true rfl⟩ (hq).1 rfl rfl hl.1 rfl (Nat.le_of_ble_eq_true rfl) dX3_multiplyByLinear_23 ⟨Nat.le_of_ble_eq_true rfl, Nat.le_of_ble_eq_true rfl⟩ hS) hS (fun ru u H locs hp hw hS => ?_)
      obtain ⟨hr, hu⟩ := hp
      rw [hu] at hw
      refine xw_ti (y := (xI (f j))) (hr.trans (by rw [xcf_n _ (by omega), xlink_at])) ?_
      refine lv_i2l (v := ((xI (f j))).toInt64) hx hb dX3_multiplyByLinear_26 rfl ?_
      refine xw_tl (y := (xJ (f j))) (xI_l _) ?_
      refine lv_lmul hx hb dX3_multiplyByLinear_27 ?_
      refine lv_ladd hx hb dX3_multiplyByLinear_28 ?_
      refine lv_lstore_n (lv' := [(3, .long ((xJ (xsh f j)) + ((xJ v) * (xJ (f j))))), (2, .int (nI j)), (0, .ref h), (1, .int (xI v))]) hx hb dX3_multiplyByLinear_29 rfl hl (by decide) rfl (fun ls hl => ?_)
      refine lv_aload_n hx hb dX3_multiplyByLinear_30 rfl (lv_at hl 2 rfl) ?_
      refine lv_iload_n hx hb dX3_multiplyByLinear_31 rfl (lv_at hl 1 rfl) ?_
      refine lv_lload_n hx hb dX3_multiplyByLinear_32 rfl (lv_at hl 0 rfl) ?_
      refine xw_ci (xw_S (n := 1) (rest := [.int (nI j), .ref h]) C hw (kX2_reduced l G B _ _) gX3_multiplyByLinear_X2_reduced rfl rfl rfl (by decide +kernel) ⟨Nat.le_of_ble_eq_true rfl, Nat.le_of_ble_eq_true rfl⟩ rfl hl.1 rfl (Nat.le_of_ble_eq_true rfl) dX3_multiplyByLinear_33 ⟨Nat.le_of_ble_eq_true rfl, Nat.le_of_ble_eq_true rfl⟩ hS) hS (fun ru u H locs hp hw hS => ?_)
      obtain ⟨hr, hu⟩ := hp
      rw [hu] at hw
      refine xw_ti (y := (xI (xlin f v j))) (hr.trans (by rw [xR_am]; rfl)) ?_
      refine xw_cv (xw_V (n := 2) (rest := []) C hw (kX3_put l G B _ h r n (xlink f v (j + 1)) j (xlin f v j) hq (by omega)) gX3_multiplyByLinear_X3_put rfl rfl rfl (by decide +kernel) ⟨Nat.le_of_ble_eq_true rfl, Nat.le_of_ble_eq_true rfl⟩ (hq).1 rfl rfl hl.1 rfl (Nat.le_of_ble_eq_true rfl) dX3_multiplyByLinear_36 ⟨Nat.le_of_ble_eq_true rfl, Nat.le_of_ble_eq_true rfl⟩ hS) hS (fun u H locs hpp hw hS => ?_)
      rw [hpp] at hw
      rw [xset_u hp.ne, xlink_dn] at hw
      refine lv_iinc (v := (nI j - 1)) (lv' := [(2, .int (nI j - 1)), (3, .long ((xJ (xsh f j)) + ((xJ v) * (xJ (f j))))), (0, .ref h), (1, .int (xI v))]) hx hb dX3_multiplyByLinear_39 hl (k := 1) rfl (x_dec _) (by decide) rfl (fun ls hl => ?_)
      refine lv_goto (tgt := 7) hx hb dX3_multiplyByLinear_42 (by decide) ?_
      exact ih ls _ _ (by omega) hw hS (lv_sub hl [0, 2, 3] rfl)
  exact loop (xlen f n + 1) ls _ _ hfit (by rw [xlink_top hsf, xset_id hp]; exact hw) hS hl
