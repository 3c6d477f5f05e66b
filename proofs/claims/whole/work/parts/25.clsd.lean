/-! ===== CertificateSums: the other public methods (laid by wip/whole/m_clsd.py) ===== -/
abbrev rmX4_degree : Room := { frames := 7, cells := 12, slots := 200, locals := 104 }
theorem iX4_degree_X3 : ∀ w ∈ wsX30, w ∈ wsX4_degree := by decide +kernel
set_option maxHeartbeats 4000000 in
set_option maxRecDepth 100000 in
theorem kX4_degree (l : Launch) (hl9 : l.stackTraces = false) (G : xG) (B : Nat) (w : xM) (pa ra cp fr ad : Nat → Nat) (md : Nat) (ps : Nat → xP) (eo : Nat → Option Nat) (tb : Nat → Bool) (wr : xM) (hC : xCL G w pa ra cp fr ad md ps eo tb wr) (x z : Int32) : vx_Met l yX4_degree wsX4_degree rmX4_degree (va_Pc [.ref (ad 0), .int x, .int z] (xBz G B w)) (va_Qi (fun r u => ∃ k1, k1 < md ∧ x = nI k1 ∧ r = xhi (if z = 0 then (ps (22 + 2 * k1)) else (ps (21 + 2 * k1))) 64 ∧ u = w) (xE G B) (xA B)) (xXC G B (fun E u => E = eI ∧ ¬ xIs md x ∧ u = w)) 12 200 (xA B) := by
  refine xx_start (own := RX4) (mn := "degree") (cc := cX4_degree) (nL := 3) (rt := (some .int)) (by decide) rfl rfl rfl (Nat.le_of_ble_eq_true rfl) ?_
  intro p ev s m below meth cd ls C hl hw hS hz hno
  obtain ⟨hx, hb, -, -, -, hts, -, -, -, -⟩ := id C
  have hl : lv_has ls 3 [(0, .ref (ad 0)), (1, .int x), (2, .int z)] := hl
  refine lv_aload_n hx hb dX4_degree_0 rfl (lv_at hl 0 rfl) ?_
  refine lv_iload_n hx hb dX4_degree_1 rfl (lv_at hl 1 rfl) ?_
  refine xx_cr C hno (xx_V (n := 1) (rest := []) C hw hz (kX4_known l hl9 G B _ pa ra cp fr ad md ps eo tb wr hC x) gX4_degree_X4_known rfl rfl rfl (by decide +kernel) ⟨Nat.le_of_ble_eq_true rfl, Nat.le_of_ble_eq_true rfl⟩ hC.x rfl rfl hl.1 rfl (Nat.le_of_ble_eq_true rfl) dX4_degree_2 ⟨Nat.le_of_ble_eq_true rfl, Nat.le_of_ble_eq_true rfl⟩ hS) hS (Nat.le_of_ble_eq_true rfl) (Nat.le_of_ble_eq_true rfl) (fun E u h => h) (fun rq q H locs hq hw hS => ?_)
  obtain ⟨k1, hk1, rfl, hrq, hu⟩ := hq
  rw [hu] at hw
  refine xw_tv (y := .ref (fr k1)) (by rw [hrq]) ?_
  refine lv_iload_n hx hb dX4_degree_5 rfl (lv_at hl 2 rfl) ?_
  refine xw_cr (xw_V (n := 1) (rest := []) C hw (kX1_part l G B _ (fr k1) _ _ z (hC.fo k1 hk1)) gX4_degree_X1_part rfl rfl rfl (by decide +kernel) ⟨Nat.le_of_ble_eq_true rfl, Nat.le_of_ble_eq_true rfl⟩ (hC.fo k1 hk1) rfl rfl hl.1 rfl (Nat.le_of_ble_eq_true rfl) dX4_degree_6 ⟨Nat.le_of_ble_eq_true rfl, Nat.le_of_ble_eq_true rfl⟩ hS) hS (fun rq q H locs hq hw hS => ?_)
  obtain ⟨hrq, hu⟩ := hq
  rw [hu] at hw
  by_cases hz0 : z = 0
  · skip
    rw [if_pos hz0] at hrq
    have pp := hC.p (22 + 2 * k1) (by omega)
    refine xw_tv (y := .ref (pa (22 + 2 * k1))) (by rw [hrq]) ?_
    refine xw_get C hw pp.1 (ci := 2) rfl iX4_degree_X3 1 (by decide) (by decide +kernel) rfl dX4_degree_9 ?_
    refine vx_ret ?_
    exact xw_iret C hw hS (Nat.le_of_ble_eq_true rfl) (Nat.le_of_ble_eq_true rfl) (⟨k1, hk1, rfl, by rw [if_pos hz0, xhi_64 pp.2.2.1 pp.2.2.2], rfl⟩) dX4_degree_12
  · skip
    rw [if_neg hz0] at hrq
    have pp := hC.p (21 + 2 * k1) (by omega)
    refine xw_tv (y := .ref (pa (21 + 2 * k1))) (by rw [hrq]) ?_
    refine xw_get C hw pp.1 (ci := 2) rfl iX4_degree_X3 1 (by decide) (by decide +kernel) rfl dX4_degree_9 ?_
    refine vx_ret ?_
    exact xw_iret C hw hS (Nat.le_of_ble_eq_true rfl) (Nat.le_of_ble_eq_true rfl) (⟨k1, hk1, rfl, by rw [if_neg hz0, xhi_64 pp.2.2.1 pp.2.2.2], rfl⟩) dX4_degree_12

abbrev rmX4_at : Room := { frames := 7, cells := 12, slots := 200, locals := 104 }
set_option maxHeartbeats 4000000 in
set_option maxRecDepth 100000 in
theorem kX4_at (l : Launch) (hl9 : l.stackTraces = false) (G : xG) (B : Nat) (w : xM) (pa ra cp fr ad : Nat → Nat) (md : Nat) (ps : Nat → xP) (eo : Nat → Option Nat) (tb : Nat → Bool) (wr : xM) (hC : xCL G w pa ra cp fr ad md ps eo tb wr) (x z y : Int32) : vx_Met l yX4_at wsX4_at rmX4_at (va_Pc [.ref (ad 0), .int x, .int z, .int y] (xBz G B w)) (va_Qi (fun r u => ∃ k1, k1 < md ∧ x = nI k1 ∧ r = xI (xcf (if z = 0 then (ps (22 + 2 * k1)) else (ps (21 + 2 * k1))) y) ∧ u = w) (xE G B) (xA B)) (xXC G B (fun E u => E = eI ∧ ¬ xIs md x ∧ u = w)) 12 200 (xA B) := by
  refine xx_start (own := RX4) (mn := "at") (cc := cX4_at) (nL := 4) (rt := (some .int)) (by decide) rfl rfl rfl (Nat.le_of_ble_eq_true rfl) ?_
  intro p ev s m below meth cd ls C hl hw hS hz hno
  obtain ⟨hx, hb, -, -, -, hts, -, -, -, -⟩ := id C
  have hl : lv_has ls 4 [(0, .ref (ad 0)), (1, .int x), (2, .int z), (3, .int y)] := hl
  refine lv_aload_n hx hb dX4_at_0 rfl (lv_at hl 0 rfl) ?_
  refine lv_iload_n hx hb dX4_at_1 rfl (lv_at hl 1 rfl) ?_
  refine xx_cr C hno (xx_V (n := 1) (rest := []) C hw hz (kX4_known l hl9 G B _ pa ra cp fr ad md ps eo tb wr hC x) gX4_at_X4_known rfl rfl rfl (by decide +kernel) ⟨Nat.le_of_ble_eq_true rfl, Nat.le_of_ble_eq_true rfl⟩ hC.x rfl rfl hl.1 rfl (Nat.le_of_ble_eq_true rfl) dX4_at_2 ⟨Nat.le_of_ble_eq_true rfl, Nat.le_of_ble_eq_true rfl⟩ hS) hS (Nat.le_of_ble_eq_true rfl) (Nat.le_of_ble_eq_true rfl) (fun E u h => h) (fun rq q H locs hq hw hS => ?_)
  obtain ⟨k1, hk1, rfl, hrq, hu⟩ := hq
  rw [hu] at hw
  refine xw_tv (y := .ref (fr k1)) (by rw [hrq]) ?_
  refine lv_iload_n hx hb dX4_at_5 rfl (lv_at hl 2 rfl) ?_
  refine xw_cr (xw_V (n := 1) (rest := []) C hw (kX1_part l G B _ (fr k1) _ _ z (hC.fo k1 hk1)) gX4_at_X1_part rfl rfl rfl (by decide +kernel) ⟨Nat.le_of_ble_eq_true rfl, Nat.le_of_ble_eq_true rfl⟩ (hC.fo k1 hk1) rfl rfl hl.1 rfl (Nat.le_of_ble_eq_true rfl) dX4_at_6 ⟨Nat.le_of_ble_eq_true rfl, Nat.le_of_ble_eq_true rfl⟩ hS) hS (fun rq q H locs hq hw hS => ?_)
  obtain ⟨hrq, hu⟩ := hq
  rw [hu] at hw
  by_cases hz0 : z = 0
  · skip
    rw [if_pos hz0] at hrq
    have pp := hC.p (22 + 2 * k1) (by omega)
    refine xw_tv (y := .ref (pa (22 + 2 * k1))) (by rw [hrq]) ?_
    refine lv_iload_n hx hb dX4_at_9 rfl (lv_at hl 3 rfl) ?_
    refine xw_ci (xw_V (n := 1) (rest := []) C hw (kX3_coefficient l G B _ (pa (22 + 2 * k1)) (ra (22 + 2 * k1)) (cp (22 + 2 * k1)) (ps (22 + 2 * k1)) y pp) gX4_at_X3_coefficient rfl rfl rfl (by decide +kernel) ⟨Nat.le_of_ble_eq_true rfl, Nat.le_of_ble_eq_true rfl⟩ pp.1 rfl rfl hl.1 rfl (Nat.le_of_ble_eq_true rfl) dX4_at_10 ⟨Nat.le_of_ble_eq_true rfl, Nat.le_of_ble_eq_true rfl⟩ hS) hS (fun ru u H locs hp hw hS => ?_)
    obtain ⟨hr, hu⟩ := hp
    rw [hu] at hw
    refine xw_ti (y := (xI (xcf (ps (22 + 2 * k1)) y))) (hr) ?_
    refine vx_ret ?_
    exact xw_iret C hw hS (Nat.le_of_ble_eq_true rfl) (Nat.le_of_ble_eq_true rfl) (⟨k1, hk1, rfl, by rw [if_pos hz0], rfl⟩) dX4_at_13
  · skip
    rw [if_neg hz0] at hrq
    have pp := hC.p (21 + 2 * k1) (by omega)
    refine xw_tv (y := .ref (pa (21 + 2 * k1))) (by rw [hrq]) ?_
    refine lv_iload_n hx hb dX4_at_9 rfl (lv_at hl 3 rfl) ?_
    refine xw_ci (xw_V (n := 1) (rest := []) C hw (kX3_coefficient l G B _ (pa (21 + 2 * k1)) (ra (21 + 2 * k1)) (cp (21 + 2 * k1)) (ps (21 + 2 * k1)) y pp) gX4_at_X3_coefficient rfl rfl rfl (by decide +kernel) ⟨Nat.le_of_ble_eq_true rfl, Nat.le_of_ble_eq_true rfl⟩ pp.1 rfl rfl hl.1 rfl (Nat.le_of_ble_eq_true rfl) dX4_at_10 ⟨Nat.le_of_ble_eq_true rfl, Nat.le_of_ble_eq_true rfl⟩ hS) hS (fun ru u H locs hp hw hS => ?_)
    obtain ⟨hr, hu⟩ := hp
    rw [hu] at hw
    refine xw_ti (y := (xI (xcf (ps (21 + 2 * k1)) y))) (hr) ?_
    refine vx_ret ?_
    exact xw_iret C hw hS (Nat.le_of_ble_eq_true rfl) (Nat.le_of_ble_eq_true rfl) (⟨k1, hk1, rfl, by rw [if_neg hz0], rfl⟩) dX4_at_13

abbrev rmX4_value : Room := { frames := 7, cells := 12, slots := 200, locals := 104 }
theorem iX4_value_X1 : ∀ w ∈ wsX10, w ∈ wsX4_value := by decide +kernel
set_option maxHeartbeats 4000000 in
set_option maxRecDepth 100000 in
theorem kX4_value (l : Launch) (hl9 : l.stackTraces = false) (G : xG) (B : Nat) (w : xM) (pa ra cp fr ad : Nat → Nat) (md : Nat) (ps : Nat → xP) (eo : Nat → Option Nat) (tb : Nat → Bool) (wr : xM) (hC : xCL G w pa ra cp fr ad md ps eo tb wr) (x : Int32) (v : Int64) : vx_Met l yX4_value wsX4_value rmX4_value (va_Pc [.ref (ad 0), .int x, .long v] (xBz G B w)) (va_Qi (fun r u => ∃ k1, k1 < md ∧ x = nI k1 ∧ ((xhor (ps (22 + 2 * k1)) (xR v) (xlen (ps (22 + 2 * k1)) 64) 0 = 0 ∧ r = -1) ∨ (xhor (ps (22 + 2 * k1)) (xR v) (xlen (ps (22 + 2 * k1)) 64) 0 ≠ 0 ∧ r = xI (xhor (ps (21 + 2 * k1)) (xR v) (xlen (ps (21 + 2 * k1)) 64) 0 * xinv (xhor (ps (22 + 2 * k1)) (xR v) (xlen (ps (22 + 2 * k1)) 64) 0)))) ∧ u = w) (xE G B) (xA B)) (xXC G B (fun E u => E = eI ∧ ¬ xIs md x ∧ u = w)) 12 200 (xA B) := by
  refine xx_start (own := RX4) (mn := "value") (cc := cX4_value) (nL := 7) (rt := (some .int)) (by decide) rfl rfl rfl (Nat.le_of_ble_eq_true rfl) ?_
  intro p ev s m below meth cd ls C hl hw hS hz hno
  obtain ⟨hx, hb, -, -, -, hts, -, -, -, -⟩ := id C
  have hl : lv_has ls 7 [(0, .ref (ad 0)), (1, .int x), (2, .long v)] := hl
  refine lv_aload_n hx hb dX4_value_0 rfl (lv_at hl 0 rfl) ?_
  refine lv_iload_n hx hb dX4_value_1 rfl (lv_at hl 1 rfl) ?_
  refine xx_cr C hno (xx_V (n := 1) (rest := []) C hw hz (kX4_known l hl9 G B _ pa ra cp fr ad md ps eo tb wr hC x) gX4_value_X4_known rfl rfl rfl (by decide +kernel) ⟨Nat.le_of_ble_eq_true rfl, Nat.le_of_ble_eq_true rfl⟩ hC.x rfl rfl hl.1 rfl (Nat.le_of_ble_eq_true rfl) dX4_value_2 ⟨Nat.le_of_ble_eq_true rfl, Nat.le_of_ble_eq_true rfl⟩ hS) hS (Nat.le_of_ble_eq_true rfl) (Nat.le_of_ble_eq_true rfl) (fun E u h => h) (fun rq q H locs hq hw hS => ?_)
  obtain ⟨k1, hk1, rfl, hrq, hu⟩ := hq
  rw [hu] at hw
  refine xw_tv (y := .ref (fr k1)) (by rw [hrq]) ?_
  refine lv_astore (lv' := [(4, .ref (fr k1)), (0, .ref (ad 0)), (1, .int (nI k1)), (2, .long v)]) hx hb dX4_value_5 hl (by decide) rfl (fun ls hl => ?_)
  refine lv_lload_n hx hb dX4_value_7 rfl (lv_at hl 3 rfl) ?_
  refine xw_ci (xw_S (n := 1) (rest := []) C hw (kX2_reduced l G B _ v) gX4_value_X2_reduced rfl rfl rfl (by decide +kernel) ⟨Nat.le_of_ble_eq_true rfl, Nat.le_of_ble_eq_true rfl⟩ rfl hl.1 rfl (Nat.le_of_ble_eq_true rfl) dX4_value_8 ⟨Nat.le_of_ble_eq_true rfl, Nat.le_of_ble_eq_true rfl⟩ hS) hS (fun ru u H locs hp hw hS => ?_)
  obtain ⟨hr, hu⟩ := hp
  rw [hu] at hw
  refine xw_ti (y := (xI (xR v))) (hr) ?_
  refine lv_istore (lv' := [(5, .int (xI (xR v))), (4, .ref (fr k1)), (0, .ref (ad 0)), (1, .int (nI k1)), (2, .long v)]) hx hb dX4_value_11 hl (by decide) rfl (fun ls hl => ?_)
  refine lv_aload hx hb dX4_value_13 (lv_at hl 1 rfl) ?_
  refine xw_get C hw (hC.fo k1 hk1) (ci := 1) rfl iX4_value_X1 1 (by decide) (by decide +kernel) rfl dX4_value_15 ?_
  refine lv_iload hx hb dX4_value_18 (lv_at hl 0 rfl) ?_
  refine xw_ci (xw_V (n := 1) (rest := []) C hw (kX3_evaluate l G B _ (pa (22 + 2 * k1)) (ra (22 + 2 * k1)) (cp (22 + 2 * k1)) (ps (22 + 2 * k1)) (xR v) (hC.p _ (by omega))) gX4_value_X3_evaluate rfl rfl rfl (by decide +kernel) ⟨Nat.le_of_ble_eq_true rfl, Nat.le_of_ble_eq_true rfl⟩ (hC.p (22 + 2 * k1) (by omega)).1 rfl rfl hl.1 rfl (Nat.le_of_ble_eq_true rfl) dX4_value_20 ⟨Nat.le_of_ble_eq_true rfl, Nat.le_of_ble_eq_true rfl⟩ hS) hS (fun ru u H locs hp hw hS => ?_)
  obtain ⟨hr, hu⟩ := hp
  rw [hu] at hw
  refine xw_ti (y := (xI (xhor (ps (22 + 2 * k1)) (xR v) (xlen (ps (22 + 2 * k1)) 64) 0))) (hr.trans (by rw [xz64 hC (show 22 + 2 * k1 < 21 + 2 * md by omega)])) ?_
  refine lv_istore (lv' := [(6, .int (xI (xhor (ps (22 + 2 * k1)) (xR v) (xlen (ps (22 + 2 * k1)) 64) 0))), (5, .int (xI (xR v))), (4, .ref (fr k1)), (0, .ref (ad 0)), (1, .int (nI k1)), (2, .long v)]) hx hb dX4_value_23 hl (by decide) rfl (fun ls hl => ?_)
  refine lv_iload hx hb dX4_value_25 (lv_at hl 0 rfl) ?_
  refine lv_if_ne (tgt := 32) hx hb dX4_value_27 (by decide) (fun hc => ?_) (fun hc => ?_)
  · skip
    refine lv_aload hx hb dX4_value_32 (lv_at hl 2 rfl) ?_
    refine xw_get C hw (hC.fo k1 hk1) (ci := 1) rfl iX4_value_X1 0 (by decide) (by decide +kernel) rfl dX4_value_34 ?_
    refine lv_iload hx hb dX4_value_37 (lv_at hl 1 rfl) ?_
    refine xw_ci (xw_V (n := 1) (rest := []) C hw (kX3_evaluate l G B _ (pa (21 + 2 * k1)) (ra (21 + 2 * k1)) (cp (21 + 2 * k1)) (ps (21 + 2 * k1)) (xR v) (hC.p _ (by omega))) gX4_value_X3_evaluate rfl rfl rfl (by decide +kernel) ⟨Nat.le_of_ble_eq_true rfl, Nat.le_of_ble_eq_true rfl⟩ (hC.p (21 + 2 * k1) (by omega)).1 rfl rfl hl.1 rfl (Nat.le_of_ble_eq_true rfl) dX4_value_39 ⟨Nat.le_of_ble_eq_true rfl, Nat.le_of_ble_eq_true rfl⟩ hS) hS (fun ru u H locs hp hw hS => ?_)
    obtain ⟨hr, hu⟩ := hp
    rw [hu] at hw
    refine xw_ti (y := (xI (xhor (ps (21 + 2 * k1)) (xR v) (xlen (ps (21 + 2 * k1)) 64) 0))) (hr.trans (by rw [xz64 hC (show 21 + 2 * k1 < 21 + 2 * md by omega)])) ?_
    refine lv_iload hx hb dX4_value_42 (lv_at hl 0 rfl) ?_
    refine xw_ci (xw_S (n := 1) (rest := [.int (xI (xhor (ps (21 + 2 * k1)) (xR v) (xlen (ps (21 + 2 * k1)) 64) 0))]) C hw (kX2_inverse l G B _ (xhor (ps (22 + 2 * k1)) (xR v) (xlen (ps (22 + 2 * k1)) 64) 0)) gX4_value_X2_inverse rfl rfl rfl (by decide +kernel) ⟨Nat.le_of_ble_eq_true rfl, Nat.le_of_ble_eq_true rfl⟩ rfl hl.1 rfl (Nat.le_of_ble_eq_true rfl) dX4_value_44 ⟨Nat.le_of_ble_eq_true rfl, Nat.le_of_ble_eq_true rfl⟩ hS) hS (fun ru u H locs hp hw hS => ?_)
    obtain ⟨hr, hu⟩ := hp
    rw [hu] at hw
    refine xw_ti (y := (xI (xinv (xhor (ps (22 + 2 * k1)) (xR v) (xlen (ps (22 + 2 * k1)) 64) 0)))) (hr) ?_
    refine xw_ci (xw_S (n := 2) (rest := []) C hw (kX2_product l G B _ (xhor (ps (21 + 2 * k1)) (xR v) (xlen (ps (21 + 2 * k1)) 64) 0) (xinv (xhor (ps (22 + 2 * k1)) (xR v) (xlen (ps (22 + 2 * k1)) 64) 0))) gX4_value_X2_product rfl rfl rfl (by decide +kernel) ⟨Nat.le_of_ble_eq_true rfl, Nat.le_of_ble_eq_true rfl⟩ rfl hl.1 rfl (Nat.le_of_ble_eq_true rfl) dX4_value_47 ⟨Nat.le_of_ble_eq_true rfl, Nat.le_of_ble_eq_true rfl⟩ hS) hS (fun ru u H locs hp hw hS => ?_)
    obtain ⟨hr, hu⟩ := hp
    rw [hu] at hw
    refine xw_ti (y := (xI (xhor (ps (21 + 2 * k1)) (xR v) (xlen (ps (21 + 2 * k1)) 64) 0 * xinv (xhor (ps (22 + 2 * k1)) (xR v) (xlen (ps (22 + 2 * k1)) 64) 0)))) (hr) ?_
    refine vx_ret ?_
    exact xw_iret C hw hS (Nat.le_of_ble_eq_true rfl) (Nat.le_of_ble_eq_true rfl) (⟨k1, hk1, rfl, Or.inr ⟨fun q => hc (xI_z.mpr q), rfl⟩, rfl⟩) dX4_value_50
  · skip
    refine lv_iconst (v := (-1)) hx hb dX4_value_30 (by decide) ?_
    refine vx_ret ?_
    exact xw_iret C hw hS (Nat.le_of_ble_eq_true rfl) (Nat.le_of_ble_eq_true rfl) (⟨k1, hk1, rfl, Or.inl ⟨xI_z.mp hc, rfl⟩, rfl⟩) dX4_value_31

abbrev rmX4_same : Room := { frames := 7, cells := 12, slots := 200, locals := 104 }
theorem iX4_same_X1 : ∀ w ∈ wsX10, w ∈ wsX4_same := by decide +kernel
set_option maxHeartbeats 4000000 in
set_option maxRecDepth 100000 in
theorem kX4_same (l : Launch) (hl9 : l.stackTraces = false) (G : xG) (B : Nat) (w : xM) (pa ra cp fr ad : Nat → Nat) (md : Nat) (ps : Nat → xP) (eo : Nat → Option Nat) (tb : Nat → Bool) (wr : xM) (hC : xCL G w pa ra cp fr ad md ps eo tb wr) (x y : Int32) : vx_Met l yX4_same wsX4_same rmX4_same (va_Pc [.ref (ad 0), .int x, .int y] (xBz G B w)) (va_Qi (fun r u => ∃ k1 k2, k1 < md ∧ k2 < md ∧ x = nI k1 ∧ y = nI k2 ∧ ((r = 1 ∧ (ps (21 + 2 * k1)) = (ps (21 + 2 * k2)) ∧ (ps (22 + 2 * k1)) = (ps (22 + 2 * k2))) ∨ (r = 0 ∧ ¬ ((ps (21 + 2 * k1)) = (ps (21 + 2 * k2)) ∧ (ps (22 + 2 * k1)) = (ps (22 + 2 * k2))))) ∧ u = w) (xE G B) (xA B)) (xXC G B (fun E u => E = eI ∧ ¬ (xIs md x ∧ xIs md y) ∧ u = w)) 12 200 (xA B) := by
  refine xx_start (own := RX4) (mn := "same") (cc := cX4_same) (nL := 5) (rt := (some .boolean)) (by decide) rfl rfl rfl (Nat.le_of_ble_eq_true rfl) ?_
  intro p ev s m below meth cd ls C hl hw hS hz hno
  obtain ⟨hx, hb, -, -, -, hts, -, -, -, -⟩ := id C
  have hl : lv_has ls 5 [(0, .ref (ad 0)), (1, .int x), (2, .int y)] := hl
  refine lv_aload_n hx hb dX4_same_0 rfl (lv_at hl 0 rfl) ?_
  refine lv_iload_n hx hb dX4_same_1 rfl (lv_at hl 1 rfl) ?_
  refine xx_cr C hno (xx_V (n := 1) (rest := []) C hw hz (kX4_known l hl9 G B _ pa ra cp fr ad md ps eo tb wr hC x) gX4_same_X4_known rfl rfl rfl (by decide +kernel) ⟨Nat.le_of_ble_eq_true rfl, Nat.le_of_ble_eq_true rfl⟩ hC.x rfl rfl hl.1 rfl (Nat.le_of_ble_eq_true rfl) dX4_same_2 ⟨Nat.le_of_ble_eq_true rfl, Nat.le_of_ble_eq_true rfl⟩ hS) hS (Nat.le_of_ble_eq_true rfl) (Nat.le_of_ble_eq_true rfl) (fun E u h => ⟨h.1, fun q => h.2.1 q.1, h.2.2⟩) (fun rq q H locs hq hw hS => ?_)
  obtain ⟨k1, hk1, rfl, hrq, hu⟩ := hq
  rw [hu] at hw
  refine xw_tv (y := .ref (fr k1)) (by rw [hrq]) ?_
  refine lv_astore_n (lv' := [(3, .ref (fr k1)), (0, .ref (ad 0)), (1, .int (nI k1)), (2, .int y)]) hx hb dX4_same_5 rfl hl (by decide) rfl (fun ls hl => ?_)
  refine lv_aload_n hx hb dX4_same_6 rfl (lv_at hl 1 rfl) ?_
  refine lv_iload_n hx hb dX4_same_7 rfl (lv_at hl 3 rfl) ?_
  refine xx_cr C hno (xx_V (n := 1) (rest := []) C hw hz (kX4_known l hl9 G B _ pa ra cp fr ad md ps eo tb wr hC y) gX4_same_X4_known rfl rfl rfl (by decide +kernel) ⟨Nat.le_of_ble_eq_true rfl, Nat.le_of_ble_eq_true rfl⟩ hC.x rfl rfl hl.1 rfl (Nat.le_of_ble_eq_true rfl) dX4_same_8 ⟨Nat.le_of_ble_eq_true rfl, Nat.le_of_ble_eq_true rfl⟩ hS) hS (Nat.le_of_ble_eq_true rfl) (Nat.le_of_ble_eq_true rfl) (fun E u h => ⟨h.1, fun q => h.2.1 q.2, h.2.2⟩) (fun rq q H locs hq hw hS => ?_)
  obtain ⟨k2, hk2, rfl, hrq, hu⟩ := hq
  rw [hu] at hw
  refine xw_tv (y := .ref (fr k2)) (by rw [hrq]) ?_
  refine lv_astore (lv' := [(4, .ref (fr k2)), (3, .ref (fr k1)), (0, .ref (ad 0)), (1, .int (nI k1)), (2, .int (nI k2))]) hx hb dX4_same_11 hl (by decide) rfl (fun ls hl => ?_)
  refine lv_aload_n hx hb dX4_same_13 rfl (lv_at hl 1 rfl) ?_
  refine xw_get C hw (hC.fo k1 hk1) (ci := 1) rfl iX4_same_X1 0 (by decide) (by decide +kernel) rfl dX4_same_14 ?_
  refine lv_aload hx hb dX4_same_17 (lv_at hl 0 rfl) ?_
  refine xw_get C hw (hC.fo k2 hk2) (ci := 1) rfl iX4_same_X1 0 (by decide) (by decide +kernel) rfl dX4_same_19 ?_
  refine xw_ci (xw_V (n := 1) (rest := []) C hw (kX3_matches l G B _ (pa (21 + 2 * k1)) (ra (21 + 2 * k1)) (cp (21 + 2 * k1)) (ps (21 + 2 * k1)) (pa (21 + 2 * k2)) (ra (21 + 2 * k2)) (cp (21 + 2 * k2)) (ps (21 + 2 * k2)) (hC.p _ (by omega)) (hC.p _ (by omega))) gX4_same_X3_matches rfl rfl rfl (by decide +kernel) ⟨Nat.le_of_ble_eq_true rfl, Nat.le_of_ble_eq_true rfl⟩ (hC.p (21 + 2 * k1) (by omega)).1 rfl rfl hl.1 rfl (Nat.le_of_ble_eq_true rfl) dX4_same_22 ⟨Nat.le_of_ble_eq_true rfl, Nat.le_of_ble_eq_true rfl⟩ hS) hS (fun rq q H locs hq hw hS => ?_)
  obtain ⟨hq, hu⟩ := hq
  rw [hu] at hw
  rcases hq with ⟨hq, hm21⟩ | ⟨hq, hm21⟩
  · skip
    refine xw_ti (y := 1) (hq) ?_
    refine lv_if_eq (tgt := 47) hx hb dX4_same_25 (by decide) (fun hc => absurd hc (by decide)) (fun _ => ?_)
    refine lv_aload_n hx hb dX4_same_28 rfl (lv_at hl 1 rfl) ?_
    refine xw_get C hw (hC.fo k1 hk1) (ci := 1) rfl iX4_same_X1 1 (by decide) (by decide +kernel) rfl dX4_same_29 ?_
    refine lv_aload hx hb dX4_same_32 (lv_at hl 0 rfl) ?_
    refine xw_get C hw (hC.fo k2 hk2) (ci := 1) rfl iX4_same_X1 1 (by decide) (by decide +kernel) rfl dX4_same_34 ?_
    refine xw_ci (xw_V (n := 1) (rest := []) C hw (kX3_matches l G B _ (pa (22 + 2 * k1)) (ra (22 + 2 * k1)) (cp (22 + 2 * k1)) (ps (22 + 2 * k1)) (pa (22 + 2 * k2)) (ra (22 + 2 * k2)) (cp (22 + 2 * k2)) (ps (22 + 2 * k2)) (hC.p _ (by omega)) (hC.p _ (by omega))) gX4_same_X3_matches rfl rfl rfl (by decide +kernel) ⟨Nat.le_of_ble_eq_true rfl, Nat.le_of_ble_eq_true rfl⟩ (hC.p (22 + 2 * k1) (by omega)).1 rfl rfl hl.1 rfl (Nat.le_of_ble_eq_true rfl) dX4_same_37 ⟨Nat.le_of_ble_eq_true rfl, Nat.le_of_ble_eq_true rfl⟩ hS) hS (fun rq q H locs hq hw hS => ?_)
    obtain ⟨hq, hu⟩ := hq
    rw [hu] at hw
    rcases hq with ⟨hq, hm22⟩ | ⟨hq, hm22⟩
    · skip
      refine xw_ti (y := 1) (hq) ?_
      refine lv_if_eq (tgt := 47) hx hb dX4_same_40 (by decide) (fun hc => absurd hc (by decide)) (fun _ => ?_)
      refine lv_iconst (v := 1) hx hb dX4_same_43 (by decide) ?_
      refine lv_goto (tgt := 48) hx hb dX4_same_44 (by decide) ?_
      refine vx_ret ?_
      exact xw_zret C hw hS (Nat.le_of_ble_eq_true rfl) (Nat.le_of_ble_eq_true rfl) (Or.inr rfl) (⟨k1, k2, hk1, hk2, rfl, rfl, Or.inl ⟨rfl, hm21, hm22⟩, rfl⟩) dX4_same_48
    · skip
      refine xw_ti (y := 0) (hq) ?_
      refine lv_if_eq (tgt := 47) hx hb dX4_same_40 (by decide) (fun _ => ?_) (fun hc => absurd (rfl) hc)
      refine lv_iconst (v := 0) hx hb dX4_same_47 (by decide) ?_
      refine vx_ret ?_
      exact xw_zret C hw hS (Nat.le_of_ble_eq_true rfl) (Nat.le_of_ble_eq_true rfl) (Or.inl rfl) (⟨k1, k2, hk1, hk2, rfl, rfl, Or.inr ⟨rfl, fun q => hm22 q.2⟩, rfl⟩) dX4_same_48
  · skip
    refine xw_ti (y := 0) (hq) ?_
    refine lv_if_eq (tgt := 47) hx hb dX4_same_25 (by decide) (fun _ => ?_) (fun hc => absurd (rfl) hc)
    refine lv_iconst (v := 0) hx hb dX4_same_47 (by decide) ?_
    refine vx_ret ?_
    exact xw_zret C hw hS (Nat.le_of_ble_eq_true rfl) (Nat.le_of_ble_eq_true rfl) (Or.inl rfl) (⟨k1, k2, hk1, hk2, rfl, rfl, Or.inr ⟨rfl, fun q => hm21 q.1⟩, rfl⟩) dX4_same_48

abbrev rmX4_free : Room := { frames := 8, cells := 12, slots := 200, locals := 123 }
theorem iX4_free_X1 : ∀ w ∈ wsX10, w ∈ wsX4_free := by decide +kernel
theorem iX4_free_X4 : ∀ w ∈ wsX40, w ∈ wsX4_free := by decide +kernel
set_option maxHeartbeats 4000000 in
set_option maxRecDepth 100000 in
theorem kX4_free (l : Launch) (hl9 : l.stackTraces = false) (G : xG) (B : Nat) (w : xM) (pa ra cp fr ad : Nat → Nat) (md : Nat) (ps : Nat → xP) (eo : Nat → Option Nat) (tb : Nat → Bool) (wr : xM) (hC : xCL G w pa ra cp fr ad md ps eo tb wr) (hF : ∀ k, k < md → xsup (ps (21 + 2 * k)) 21 ∧ xsup (ps (22 + 2 * k)) 21 ∧ xlen (ps (22 + 2 * k)) 64 ≠ 0) (x y : Int32) : vx_Met l yX4_free wsX4_free rmX4_free (va_Pc [.ref (ad 0), .int x, .int y] (xBz G B w)) (va_Qi (fun r u => ∃ k1 dd e9, k1 < md ∧ dd < 9 ∧ x = nI k1 ∧ y = nI dd ∧ xlen (ps 1) 64 ≠ 0 ∧ xlen (ps (21 + 2 * k1)) 64 ≠ 0 ∧ xFr (ps (22 + 2 * k1)) (ps 0) (ps 1) (ps (21 + 2 * k1)) e9 ∧ r = nI (xnn e9 (dd + 1)) ∧ xKp G pa ra cp fr ad md ps wr u) (xE G B) (xA B)) (xXC G B (fun E u => ((E = eI ∧ ¬ xIs md x) ∨ (E = eA ∧ ∃ k1, k1 < md ∧ x = nI k1 ∧ (xlen (ps 1) 64 = 0 ∨ xlen (ps (21 + 2 * k1)) 64 = 0)) ∨ (E = eG ∧ (∃ k1, k1 < md ∧ x = nI k1 ∧ xlen (ps 1) 64 ≠ 0 ∧ xlen (ps (21 + 2 * k1)) 64 ≠ 0) ∧ ¬ xIs 9 y)) ∧ xKp G pa ra cp fr ad md ps wr u)) 12 200 (xA B) := by
  refine xx_start (own := RX4) (mn := "free") (cc := cX4_free) (nL := 4) (rt := (some .int)) (by decide) rfl rfl rfl (Nat.le_of_ble_eq_true rfl) ?_
  intro p ev s m below meth cd ls C hl hw hS hz hno
  obtain ⟨hx, hb, -, -, -, hts, -, -, -, -⟩ := id C
  have hl : lv_has ls 4 [(0, .ref (ad 0)), (1, .int x), (2, .int y)] := hl
  have hself := xKp.self hC
  refine lv_aload_n hx hb dX4_free_0 rfl (lv_at hl 0 rfl) ?_
  refine lv_iload_n hx hb dX4_free_1 rfl (lv_at hl 1 rfl) ?_
  refine xx_cr C hno (xx_V (n := 1) (rest := []) C hw hz (kX4_known l hl9 G B _ pa ra cp fr ad md ps eo tb wr hC x) gX4_free_X4_known rfl rfl rfl (by decide +kernel) ⟨Nat.le_of_ble_eq_true rfl, Nat.le_of_ble_eq_true rfl⟩ hC.x rfl rfl hl.1 rfl (Nat.le_of_ble_eq_true rfl) dX4_free_2 ⟨Nat.le_of_ble_eq_true rfl, Nat.le_of_ble_eq_true rfl⟩ hS) hS (Nat.le_of_ble_eq_true rfl) (Nat.le_of_ble_eq_true rfl) (fun E u h => ⟨Or.inl ⟨h.1, h.2.1⟩, by rw [h.2.2]; exact hself⟩) (fun rq q H locs hq hw hS => ?_)
  obtain ⟨k1, hk1, rfl, hrq, hu⟩ := hq
  rw [hu] at hw
  refine xw_tv (y := .ref (fr k1)) (by rw [hrq]) ?_
  refine lv_astore_n (lv' := [(3, .ref (fr k1)), (0, .ref (ad 0)), (1, .int (nI k1)), (2, .int y)]) hx hb dX4_free_5 rfl hl (by decide) rfl (fun ls hl => ?_)
  refine lv_aload_n hx hb dX4_free_6 rfl (lv_at hl 1 rfl) ?_
  refine lv_aload_n hx hb dX4_free_7 rfl (lv_at hl 0 rfl) ?_
  refine xx_cv C hno (xx_V (n := 1) (rest := []) C hw hz (kX4_refuseZeroDivisors l hl9 G B _ pa ra cp fr ad md ps eo tb wr hC k1 hk1) gX4_free_X4_refuseZeroDivisors rfl rfl rfl (by decide +kernel) ⟨Nat.le_of_ble_eq_true rfl, Nat.le_of_ble_eq_true rfl⟩ hC.x rfl rfl hl.1 rfl (Nat.le_of_ble_eq_true rfl) dX4_free_8 ⟨Nat.le_of_ble_eq_true rfl, Nat.le_of_ble_eq_true rfl⟩ hS) hS (Nat.le_of_ble_eq_true rfl) (Nat.le_of_ble_eq_true rfl) (fun E u h => ⟨Or.inr (Or.inl ⟨h.1, k1, hk1, rfl, h.2.1⟩), by rw [h.2.2]; exact hself⟩) (fun u H locs hq hw hS => ?_)
  obtain ⟨hB0, hQ0, hu⟩ := hq
  rw [hu] at hw
  refine lv_iload_n hx hb dX4_free_11 rfl (lv_at hl 3 rfl) ?_
  refine xx_cv C hno (xx_S (n := 1) (rest := []) C hw hz (kX4_refuseWrongBound l hl9 G B _ y) gX4_free_X4_refuseWrongBound rfl rfl rfl (by decide +kernel) ⟨Nat.le_of_ble_eq_true rfl, Nat.le_of_ble_eq_true rfl⟩ rfl hl.1 rfl (Nat.le_of_ble_eq_true rfl) dX4_free_12 ⟨Nat.le_of_ble_eq_true rfl, Nat.le_of_ble_eq_true rfl⟩ hS) hS (Nat.le_of_ble_eq_true rfl) (Nat.le_of_ble_eq_true rfl) (fun E u h => ⟨Or.inr (Or.inr ⟨h.1, ⟨k1, hk1, rfl, hB0, hQ0⟩, h.2.1⟩), by rw [h.2.2]; exact hself⟩) (fun u H locs hq hw hS => ?_)
  obtain ⟨⟨dd, hdd, rfl⟩, hu⟩ := hq
  rw [hu] at hw
  obtain ⟨stk1, sbk1, snk1⟩ := hF k1 hk1
  refine lv_aload_n hx hb dX4_free_15 rfl (lv_at hl 1 rfl) ?_
  refine xw_get C hw hC.x (ci := 3) rfl iX4_free_X4 9 (by decide) (by decide +kernel) rfl dX4_free_16 ?_
  refine lv_aload_n hx hb dX4_free_19 rfl (lv_at hl 0 rfl) ?_
  refine lv_aload_n hx hb dX4_free_20 rfl (lv_at hl 0 rfl) ?_
  refine xw_get C hw (hC.fo k1 hk1) (ci := 1) rfl iX4_free_X1 0 (by decide) (by decide +kernel) rfl dX4_free_21 ?_
  refine lv_aload_n hx hb dX4_free_24 rfl (lv_at hl 1 rfl) ?_
  refine xw_get C hw hC.x (ci := 3) rfl iX4_free_X4 0 (by decide) (by decide +kernel) rfl dX4_free_25 ?_
  refine lv_aload_n hx hb dX4_free_28 rfl (lv_at hl 1 rfl) ?_
  refine xw_get C hw hC.x (ci := 3) rfl iX4_free_X4 1 (by decide) (by decide +kernel) rfl dX4_free_29 ?_
  refine xw_cv (xw_V (n := 4) (rest := []) C hw (kX0_set l G B _ pa ra cp fr ad md ps eo tb wr hC k1 k1 hk1 hk1 _ _ _ _ _ rfl rfl rfl rfl rfl stk1 sbk1 stk1) gX4_free_X0_set rfl rfl rfl (by decide +kernel) ⟨Nat.le_of_ble_eq_true rfl, Nat.le_of_ble_eq_true rfl⟩ hC.q rfl rfl hl.1 rfl (Nat.le_of_ble_eq_true rfl) dX4_free_32 ⟨Nat.le_of_ble_eq_true rfl, Nat.le_of_ble_eq_true rfl⟩ hS) hS (fun u1 H locs hq hw hS => ?_)
  obtain ⟨q, hC, hk7, hco, e16⟩ := hq
  refine lv_aload_n hx hb dX4_free_35 rfl (lv_at hl 1 rfl) ?_
  refine xw_get C hw hC.x (ci := 3) rfl iX4_free_X4 9 (by decide) (by decide +kernel) rfl dX4_free_36 ?_
  refine xw_cv (xw_V (n := 0) (rest := []) C hw (kX0_eliminate l G B _ pa ra cp fr ad md q eo tb wr hC) gX4_free_X0_eliminate rfl rfl rfl (by decide +kernel) ⟨Nat.le_of_ble_eq_true rfl, Nat.le_of_ble_eq_true rfl⟩ hC.q rfl rfl hl.1 rfl (Nat.le_of_ble_eq_true rfl) dX4_free_39 ⟨Nat.le_of_ble_eq_true rfl, Nat.le_of_ble_eq_true rfl⟩ hS) hS (fun u2 H locs hC hw hS => ?_)
  have hel := xel_ok 9 (q, eo, xtbi tb 64)
  refine lv_aload_n hx hb dX4_free_42 rfl (lv_at hl 1 rfl) ?_
  refine xw_get C hw hC.x (ci := 3) rfl iX4_free_X4 9 (by decide) (by decide +kernel) rfl dX4_free_43 ?_
  refine lv_iload_n hx hb dX4_free_46 rfl (lv_at hl 3 rfl) ?_
  refine xw_ci (xw_V (n := 1) (rest := []) C hw (kX0_freeUpTo l G B _ pa ra cp fr ad md _ _ _ wr hC dd hdd (fun k e h9 he => by have := hel.2 k e h9 he; omega)) gX4_free_X0_freeUpTo rfl rfl rfl (by decide +kernel) ⟨Nat.le_of_ble_eq_true rfl, Nat.le_of_ble_eq_true rfl⟩ hC.q rfl rfl hl.1 rfl (Nat.le_of_ble_eq_true rfl) dX4_free_47 ⟨Nat.le_of_ble_eq_true rfl, Nat.le_of_ble_eq_true rfl⟩ hS) hS (fun rz z H locs hz9 hw hS => ?_)
  obtain ⟨hz9, hu⟩ := hz9
  rw [hu] at hw
  refine vx_ret ?_
  exact xw_iret C hw hS (Nat.le_of_ble_eq_true rfl) (Nat.le_of_ble_eq_true rfl) (⟨k1, dd, _, hk1, hdd, rfl, rfl, hB0, hQ0, ⟨q, eo, xtbi tb 64, hco, xtbi_64 tb, rfl⟩, hz9, ⟨_, _, _, hC, fun i hi => by rw [hel.1 i (by omega)]; exact hk7 i (by omega)⟩⟩) dX4_free_50

abbrev rmX4_least : Room := { frames := 8, cells := 12, slots := 200, locals := 141 }
theorem iX4_least_X3 : ∀ w ∈ wsX30, w ∈ wsX4_least := by decide +kernel
theorem iX4_least_X4 : ∀ w ∈ wsX40, w ∈ wsX4_least := by decide +kernel
set_option maxHeartbeats 4000000 in
set_option maxRecDepth 100000 in
theorem kX4_least (l : Launch) (hl9 : l.stackTraces = false) (G : xG) (B : Nat) (w : xM) (pa ra cp fr ad : Nat → Nat) (md : Nat) (ps : Nat → xP) (eo : Nat → Option Nat) (tb : Nat → Bool) (wr : xM) (hC : xCL G w pa ra cp fr ad md ps eo tb wr) (hF : ∀ k, k < md → xsup (ps (21 + 2 * k)) 21 ∧ xsup (ps (22 + 2 * k)) 21 ∧ xlen (ps (22 + 2 * k)) 64 ≠ 0) (x y : Int32) : vx_Met l yX4_least wsX4_least rmX4_least (va_Pc [.ref (ad 0), .int x, .int y] (xBz G B w)) (va_Qi (fun r u => ∃ k1 k2 o9, k1 < md ∧ k2 < md ∧ x = nI k1 ∧ y = nI k2 ∧ xlen (ps 1) 64 ≠ 0 ∧ xlen (ps (21 + 2 * k2)) 64 ≠ 0 ∧ xFP (ps (21 + 2 * k1)) (ps (22 + 2 * k1)) (ps 0) (ps 1) (ps (21 + 2 * k2)) o9 ∧ ((o9 = none ∧ r = -1) ∨ ∃ Y, o9 = some Y ∧ r = nI (xlen Y 64 - 1)) ∧ xKp G pa ra cp fr ad md ps wr u) (xE G B) (xA B)) (xXC G B (fun E u => ((E = eI ∧ ¬ (xIs md x ∧ xIs md y)) ∨ (E = eA ∧ ∃ k1 k2, k1 < md ∧ k2 < md ∧ x = nI k1 ∧ y = nI k2 ∧ (xlen (ps 1) 64 = 0 ∨ xlen (ps (21 + 2 * k2)) 64 = 0))) ∧ xKp G pa ra cp fr ad md ps wr u)) 12 200 (xA B) := by
  refine xx_start (own := RX4) (mn := "least") (cc := cX4_least) (nL := 5) (rt := (some .int)) (by decide) rfl rfl rfl (Nat.le_of_ble_eq_true rfl) ?_
  intro p ev s m below meth cd ls C hl hw hS hz hno
  obtain ⟨hx, hb, -, -, -, hts, -, -, -, -⟩ := id C
  have hl : lv_has ls 5 [(0, .ref (ad 0)), (1, .int x), (2, .int y)] := hl
  have hself := xKp.self hC
  refine lv_aload_n hx hb dX4_least_0 rfl (lv_at hl 0 rfl) ?_
  refine lv_iload_n hx hb dX4_least_1 rfl (lv_at hl 1 rfl) ?_
  refine xx_cr C hno (xx_V (n := 1) (rest := []) C hw hz (kX4_known l hl9 G B _ pa ra cp fr ad md ps eo tb wr hC x) gX4_least_X4_known rfl rfl rfl (by decide +kernel) ⟨Nat.le_of_ble_eq_true rfl, Nat.le_of_ble_eq_true rfl⟩ hC.x rfl rfl hl.1 rfl (Nat.le_of_ble_eq_true rfl) dX4_least_2 ⟨Nat.le_of_ble_eq_true rfl, Nat.le_of_ble_eq_true rfl⟩ hS) hS (Nat.le_of_ble_eq_true rfl) (Nat.le_of_ble_eq_true rfl) (fun E u h => ⟨Or.inl ⟨h.1, fun q => h.2.1 q.1⟩, by rw [h.2.2]; exact hself⟩) (fun rq q H locs hq hw hS => ?_)
  obtain ⟨k1, hk1, rfl, hrq, hu⟩ := hq
  rw [hu] at hw
  refine xw_tv (y := .ref (fr k1)) (by rw [hrq]) ?_
  refine lv_astore_n (lv' := [(3, .ref (fr k1)), (0, .ref (ad 0)), (1, .int (nI k1)), (2, .int y)]) hx hb dX4_least_5 rfl hl (by decide) rfl (fun ls hl => ?_)
  refine lv_aload_n hx hb dX4_least_6 rfl (lv_at hl 1 rfl) ?_
  refine lv_iload_n hx hb dX4_least_7 rfl (lv_at hl 3 rfl) ?_
  refine xx_cr C hno (xx_V (n := 1) (rest := []) C hw hz (kX4_known l hl9 G B _ pa ra cp fr ad md ps eo tb wr hC y) gX4_least_X4_known rfl rfl rfl (by decide +kernel) ⟨Nat.le_of_ble_eq_true rfl, Nat.le_of_ble_eq_true rfl⟩ hC.x rfl rfl hl.1 rfl (Nat.le_of_ble_eq_true rfl) dX4_least_8 ⟨Nat.le_of_ble_eq_true rfl, Nat.le_of_ble_eq_true rfl⟩ hS) hS (Nat.le_of_ble_eq_true rfl) (Nat.le_of_ble_eq_true rfl) (fun E u h => ⟨Or.inl ⟨h.1, fun q => h.2.1 q.2⟩, by rw [h.2.2]; exact hself⟩) (fun rq q H locs hq hw hS => ?_)
  obtain ⟨k2, hk2, rfl, hrq, hu⟩ := hq
  rw [hu] at hw
  refine xw_tv (y := .ref (fr k2)) (by rw [hrq]) ?_
  refine lv_astore (lv' := [(4, .ref (fr k2)), (3, .ref (fr k1)), (0, .ref (ad 0)), (1, .int (nI k1)), (2, .int (nI k2))]) hx hb dX4_least_11 hl (by decide) rfl (fun ls hl => ?_)
  refine lv_aload_n hx hb dX4_least_13 rfl (lv_at hl 2 rfl) ?_
  refine lv_aload hx hb dX4_least_14 (lv_at hl 0 rfl) ?_
  refine xx_cv C hno (xx_V (n := 1) (rest := []) C hw hz (kX4_refuseZeroDivisors l hl9 G B _ pa ra cp fr ad md ps eo tb wr hC k2 hk2) gX4_least_X4_refuseZeroDivisors rfl rfl rfl (by decide +kernel) ⟨Nat.le_of_ble_eq_true rfl, Nat.le_of_ble_eq_true rfl⟩ hC.x rfl rfl hl.1 rfl (Nat.le_of_ble_eq_true rfl) dX4_least_16 ⟨Nat.le_of_ble_eq_true rfl, Nat.le_of_ble_eq_true rfl⟩ hS) hS (Nat.le_of_ble_eq_true rfl) (Nat.le_of_ble_eq_true rfl) (fun E u h => ⟨Or.inr ⟨h.1, k1, k2, hk1, hk2, rfl, rfl, h.2.1⟩, by rw [h.2.2]; exact hself⟩) (fun u H locs hq hw hS => ?_)
  obtain ⟨hB0, hQ0, hu⟩ := hq
  rw [hu] at hw
  refine lv_aload_n hx hb dX4_least_19 rfl (lv_at hl 2 rfl) ?_
  refine lv_aload_n hx hb dX4_least_20 rfl (lv_at hl 1 rfl) ?_
  refine lv_aload hx hb dX4_least_21 (lv_at hl 0 rfl) ?_
  obtain ⟨stk1, sbk1, snk1⟩ := hF k1 hk1
  obtain ⟨stk2, sbk2, snk2⟩ := hF k2 hk2
  refine xw_ci (xw_V (n := 2) (rest := []) C hw (kX4_findPlain l G B _ pa ra cp fr ad md ps eo tb wr hC k1 k2 hk1 hk2 _ _ _ _ _ rfl rfl rfl rfl rfl stk1 sbk1 stk2) gX4_least_X4_findPlain rfl rfl rfl (by decide +kernel) ⟨Nat.le_of_ble_eq_true rfl, Nat.le_of_ble_eq_true rfl⟩ hC.x rfl rfl hl.1 rfl (Nat.le_of_ble_eq_true rfl) dX4_least_23 ⟨Nat.le_of_ble_eq_true rfl, Nat.le_of_ble_eq_true rfl⟩ hS) hS (fun rz z H locs hz9 hw hS => ?_)
  obtain ⟨q, q2, hco, e16, hk7, hC, hk2p, hfp⟩ := hz9
  have hKP : xKp G pa ra cp fr ad md ps wr z := ⟨q2, _, _, hC, hk2p⟩
  rcases hfp with ⟨hrz, hfp⟩ | ⟨hrz, hfp, e2⟩
  · skip
    refine xw_ti (y := 0) (hrz) ?_
    refine lv_if_ne (tgt := 31) hx hb dX4_least_26 (by decide) (fun hc => absurd (rfl) hc) (fun _ => ?_)
    refine lv_iconst (v := (-1)) hx hb dX4_least_29 (by decide) ?_
    refine vx_ret ?_
    exact xw_iret C hw hS (Nat.le_of_ble_eq_true rfl) (Nat.le_of_ble_eq_true rfl) (⟨k1, k2, none, hk1, hk2, rfl, rfl, hB0, hQ0, ⟨q, eo, xtbi tb 64, hco, e16, xtbi_64 tb, Or.inl ⟨rfl, hfp⟩⟩, Or.inl ⟨rfl, rfl⟩, hKP⟩) dX4_least_30
  · skip
    refine xw_ti (y := 1) (hrz) ?_
    refine lv_if_ne (tgt := 31) hx hb dX4_least_26 (by decide) (fun _ => ?_) (fun hc => absurd hc (by decide))
    obtain ⟨Y, hY⟩ : ∃ Y, Y = q2 2 := ⟨_, rfl⟩
    rw [← hY] at e2
    have pY := hC.pw 2 (by omega) (by omega) hY.symm
    have lY := xlen_le Y 64
    refine lv_aload_n hx hb dX4_least_31 rfl (lv_at hl 2 rfl) ?_
    refine xw_get C hw hC.x (ci := 3) rfl iX4_least_X4 4 (by decide) (by decide +kernel) rfl dX4_least_32 ?_
    refine xw_get C hw pY.1 (ci := 2) rfl iX4_least_X3 1 (by decide) (by decide +kernel) rfl dX4_least_35 ?_
    refine lv_iconst (v := 0) hx hb dX4_least_38 (by decide) ?_
    refine xw_max C hl.1 (by decide +kernel) (by decide +kernel) (by decide +kernel) (by decide +kernel) (Nat.le_of_ble_eq_true rfl) (Nat.le_of_ble_eq_true rfl) (Nat.le_of_ble_eq_true rfl) (Nat.le_of_ble_eq_true rfl) (z := nI (xlen Y 64 - 1)) (x_max0 (by omega)) dX4_least_39 ?_
    refine vx_ret ?_
    exact xw_iret C hw hS (Nat.le_of_ble_eq_true rfl) (Nat.le_of_ble_eq_true rfl) (⟨k1, k2, some Y, hk1, hk2, rfl, rfl, hB0, hQ0, ⟨q, eo, xtbi tb 64, hco, e16, xtbi_64 tb, Or.inr ⟨by rw [e2], hfp⟩⟩, Or.inr ⟨Y, rfl, rfl⟩, hKP⟩) dX4_least_42

abbrev rmX4_find : Room := { frames := 8, cells := 12, slots := 200, locals := 143 }
theorem iX4_find_X1 : ∀ w ∈ wsX10, w ∈ wsX4_find := by decide +kernel
theorem iX4_find_X3 : ∀ w ∈ wsX30, w ∈ wsX4_find := by decide +kernel
theorem iX4_find_X4 : ∀ w ∈ wsX40, w ∈ wsX4_find := by decide +kernel
set_option maxHeartbeats 4000000 in
set_option maxRecDepth 100000 in
theorem kX4_find (l : Launch) (hl9 : l.stackTraces = false) (G : xG) (B : Nat) (w : xM) (pa ra cp fr ad : Nat → Nat) (md : Nat) (ps : Nat → xP) (eo : Nat → Option Nat) (tb : Nat → Bool) (wr : xM) (hC : xCL G w pa ra cp fr ad md ps eo tb wr) (hF : ∀ k, k < md → xsup (ps (21 + 2 * k)) 21 ∧ xsup (ps (22 + 2 * k)) 21 ∧ xlen (ps (22 + 2 * k)) 64 ≠ 0) (x y t : Int32) : vx_Met l yX4_find wsX4_find rmX4_find (va_Pc [.ref (ad 0), .int x, .int y, .int t] (xBz G B w)) (va_Qi (fun r u => ∃ k1 k2 dd o9, k1 < md ∧ k2 < md ∧ x = nI k1 ∧ y = nI k2 ∧ xlen (ps 1) 64 ≠ 0 ∧ xlen (ps (21 + 2 * k2)) 64 ≠ 0 ∧ dd < 9 ∧ t = nI dd ∧ md < 50 ∧ xFP (ps (21 + 2 * k1)) (ps (22 + 2 * k1)) (ps 0) (ps 1) (ps (21 + 2 * k2)) o9 ∧ ((r = -1 ∧ xKp G pa ra cp fr ad md ps wr u ∧ (o9 = none ∨ ∃ Y, o9 = some Y ∧ dd + 1 < xlen Y 64)) ∨ ∃ Y, o9 = some Y ∧ xlen Y 64 ≤ dd + 1 ∧ xMk G ad md ps wr (Y) ((ps (21 + 2 * k2))) r u)) (xE G B) (xA B)) (xXC G B (fun E u => (((E = eI ∧ ¬ (xIs md x ∧ xIs md y)) ∨ (E = eA ∧ ∃ k1 k2, k1 < md ∧ k2 < md ∧ x = nI k1 ∧ y = nI k2 ∧ (xlen (ps 1) 64 = 0 ∨ xlen (ps (21 + 2 * k2)) 64 = 0)) ∨ (E = eG ∧ (∃ k1 k2, k1 < md ∧ k2 < md ∧ x = nI k1 ∧ y = nI k2 ∧ xlen (ps 1) 64 ≠ 0 ∧ xlen (ps (21 + 2 * k2)) 64 ≠ 0) ∧ ¬ xIs 9 t) ∨ (E = eS ∧ (∃ k1 k2, k1 < md ∧ k2 < md ∧ x = nI k1 ∧ y = nI k2 ∧ xlen (ps 1) 64 ≠ 0 ∧ xlen (ps (21 + 2 * k2)) 64 ≠ 0) ∧ xIs 9 t ∧ ¬ md < 50)) ∧ xKp G pa ra cp fr ad md ps wr u) ∨ ∃ k1 k2 dd o9 Y, k1 < md ∧ k2 < md ∧ x = nI k1 ∧ y = nI k2 ∧ xlen (ps 1) 64 ≠ 0 ∧ xlen (ps (21 + 2 * k2)) 64 ≠ 0 ∧ dd < 9 ∧ t = nI dd ∧ md < 50 ∧ xFP (ps (21 + 2 * k1)) (ps (22 + 2 * k1)) (ps 0) (ps 1) (ps (21 + 2 * k2)) o9 ∧ o9 = some Y ∧ xlen Y 64 ≤ dd + 1 ∧ xMkE G pa ra cp fr ad md ps wr (Y) ((ps (21 + 2 * k2))) E u)) 12 200 (xA B) := by
  refine xx_start (own := RX4) (mn := "find") (cc := cX4_find) (nL := 6) (rt := (some .int)) (by decide) rfl rfl rfl (Nat.le_of_ble_eq_true rfl) ?_
  intro p ev s m below meth cd ls C hl hw hS hz hno
  obtain ⟨hx, hb, -, -, -, hts, -, -, -, -⟩ := id C
  have hl : lv_has ls 6 [(0, .ref (ad 0)), (1, .int x), (2, .int y), (3, .int t)] := hl
  have hself := xKp.self hC
  refine lv_aload_n hx hb dX4_find_0 rfl (lv_at hl 0 rfl) ?_
  refine lv_iload_n hx hb dX4_find_1 rfl (lv_at hl 1 rfl) ?_
  refine xx_cr C hno (xx_V (n := 1) (rest := []) C hw hz (kX4_known l hl9 G B _ pa ra cp fr ad md ps eo tb wr hC x) gX4_find_X4_known rfl rfl rfl (by decide +kernel) ⟨Nat.le_of_ble_eq_true rfl, Nat.le_of_ble_eq_true rfl⟩ hC.x rfl rfl hl.1 rfl (Nat.le_of_ble_eq_true rfl) dX4_find_2 ⟨Nat.le_of_ble_eq_true rfl, Nat.le_of_ble_eq_true rfl⟩ hS) hS (Nat.le_of_ble_eq_true rfl) (Nat.le_of_ble_eq_true rfl) (fun E u h => Or.inl ⟨Or.inl ⟨h.1, fun q => h.2.1 q.1⟩, by rw [h.2.2]; exact hself⟩) (fun rq q H locs hq hw hS => ?_)
  obtain ⟨k1, hk1, rfl, hrq, hu⟩ := hq
  rw [hu] at hw
  refine xw_tv (y := .ref (fr k1)) (by rw [hrq]) ?_
  refine lv_astore (lv' := [(4, .ref (fr k1)), (0, .ref (ad 0)), (1, .int (nI k1)), (2, .int y), (3, .int t)]) hx hb dX4_find_5 hl (by decide) rfl (fun ls hl => ?_)
  refine lv_aload_n hx hb dX4_find_7 rfl (lv_at hl 1 rfl) ?_
  refine lv_iload_n hx hb dX4_find_8 rfl (lv_at hl 3 rfl) ?_
  refine xx_cr C hno (xx_V (n := 1) (rest := []) C hw hz (kX4_known l hl9 G B _ pa ra cp fr ad md ps eo tb wr hC y) gX4_find_X4_known rfl rfl rfl (by decide +kernel) ⟨Nat.le_of_ble_eq_true rfl, Nat.le_of_ble_eq_true rfl⟩ hC.x rfl rfl hl.1 rfl (Nat.le_of_ble_eq_true rfl) dX4_find_9 ⟨Nat.le_of_ble_eq_true rfl, Nat.le_of_ble_eq_true rfl⟩ hS) hS (Nat.le_of_ble_eq_true rfl) (Nat.le_of_ble_eq_true rfl) (fun E u h => Or.inl ⟨Or.inl ⟨h.1, fun q => h.2.1 q.2⟩, by rw [h.2.2]; exact hself⟩) (fun rq q H locs hq hw hS => ?_)
  obtain ⟨k2, hk2, rfl, hrq, hu⟩ := hq
  rw [hu] at hw
  refine xw_tv (y := .ref (fr k2)) (by rw [hrq]) ?_
  refine lv_astore (lv' := [(5, .ref (fr k2)), (4, .ref (fr k1)), (0, .ref (ad 0)), (1, .int (nI k1)), (2, .int (nI k2)), (3, .int t)]) hx hb dX4_find_12 hl (by decide) rfl (fun ls hl => ?_)
  refine lv_aload_n hx hb dX4_find_14 rfl (lv_at hl 2 rfl) ?_
  refine lv_aload hx hb dX4_find_15 (lv_at hl 0 rfl) ?_
  refine xx_cv C hno (xx_V (n := 1) (rest := []) C hw hz (kX4_refuseZeroDivisors l hl9 G B _ pa ra cp fr ad md ps eo tb wr hC k2 hk2) gX4_find_X4_refuseZeroDivisors rfl rfl rfl (by decide +kernel) ⟨Nat.le_of_ble_eq_true rfl, Nat.le_of_ble_eq_true rfl⟩ hC.x rfl rfl hl.1 rfl (Nat.le_of_ble_eq_true rfl) dX4_find_17 ⟨Nat.le_of_ble_eq_true rfl, Nat.le_of_ble_eq_true rfl⟩ hS) hS (Nat.le_of_ble_eq_true rfl) (Nat.le_of_ble_eq_true rfl) (fun E u h => Or.inl ⟨Or.inr (Or.inl ⟨h.1, k1, k2, hk1, hk2, rfl, rfl, h.2.1⟩), by rw [h.2.2]; exact hself⟩) (fun u H locs hq hw hS => ?_)
  obtain ⟨hB0, hQ0, hu⟩ := hq
  rw [hu] at hw
  refine lv_iload_n hx hb dX4_find_20 rfl (lv_at hl 5 rfl) ?_
  refine xx_cv C hno (xx_S (n := 1) (rest := []) C hw hz (kX4_refuseWrongBound l hl9 G B _ t) gX4_find_X4_refuseWrongBound rfl rfl rfl (by decide +kernel) ⟨Nat.le_of_ble_eq_true rfl, Nat.le_of_ble_eq_true rfl⟩ rfl hl.1 rfl (Nat.le_of_ble_eq_true rfl) dX4_find_21 ⟨Nat.le_of_ble_eq_true rfl, Nat.le_of_ble_eq_true rfl⟩ hS) hS (Nat.le_of_ble_eq_true rfl) (Nat.le_of_ble_eq_true rfl) (fun E u h => Or.inl ⟨Or.inr (Or.inr (Or.inl ⟨h.1, ⟨k1, k2, hk1, hk2, rfl, rfl, hB0, hQ0⟩, h.2.1⟩)), by rw [h.2.2]; exact hself⟩) (fun u H locs hq hw hS => ?_)
  obtain ⟨⟨dd, hdd, rfl⟩, hu⟩ := hq
  rw [hu] at hw
  refine lv_aload_n hx hb dX4_find_24 rfl (lv_at hl 2 rfl) ?_
  refine xx_cv C hno (xx_V (n := 0) (rest := []) C hw hz (kX4_refuseWhenFull l hl9 G B _ pa ra cp fr ad md ps eo tb wr hC) gX4_find_X4_refuseWhenFull rfl rfl rfl (by decide +kernel) ⟨Nat.le_of_ble_eq_true rfl, Nat.le_of_ble_eq_true rfl⟩ hC.x rfl rfl hl.1 rfl (Nat.le_of_ble_eq_true rfl) dX4_find_25 ⟨Nat.le_of_ble_eq_true rfl, Nat.le_of_ble_eq_true rfl⟩ hS) hS (Nat.le_of_ble_eq_true rfl) (Nat.le_of_ble_eq_true rfl) (fun E u h => Or.inl ⟨Or.inr (Or.inr (Or.inr ⟨h.1, ⟨k1, k2, hk1, hk2, rfl, rfl, hB0, hQ0⟩, ⟨dd, hdd, rfl⟩, h.2.1⟩)), by rw [h.2.2]; exact hself⟩) (fun u H locs hq hw hS => ?_)
  obtain ⟨hmd, hu⟩ := hq
  rw [hu] at hw
  obtain ⟨stk1, sbk1, snk1⟩ := hF k1 hk1
  obtain ⟨stk2, sbk2, snk2⟩ := hF k2 hk2
  refine lv_aload_n hx hb dX4_find_28 rfl (lv_at hl 2 rfl) ?_
  refine lv_aload hx hb dX4_find_29 (lv_at hl 1 rfl) ?_
  refine lv_aload hx hb dX4_find_31 (lv_at hl 0 rfl) ?_
  refine xw_ci (xw_V (n := 2) (rest := []) C hw (kX4_findPlain l G B _ pa ra cp fr ad md ps eo tb wr hC k1 k2 hk1 hk2 _ _ _ _ _ rfl rfl rfl rfl rfl stk1 sbk1 stk2) gX4_find_X4_findPlain rfl rfl rfl (by decide +kernel) ⟨Nat.le_of_ble_eq_true rfl, Nat.le_of_ble_eq_true rfl⟩ hC.x rfl rfl hl.1 rfl (Nat.le_of_ble_eq_true rfl) dX4_find_33 ⟨Nat.le_of_ble_eq_true rfl, Nat.le_of_ble_eq_true rfl⟩ hS) hS (fun rz z H locs hz9 hw hS => ?_)
  obtain ⟨q, q2, hco, e16, hk7, hC, hk2p, hfp⟩ := hz9
  have hKP : xKp G pa ra cp fr ad md ps wr z := ⟨q2, _, _, hC, hk2p⟩
  rcases hfp with ⟨hrz, hfp⟩ | ⟨hrz, hfp, e2⟩
  · skip
    refine xw_ti (y := 0) (hrz) ?_
    refine lv_if_eq (tgt := 50) hx hb dX4_find_36 (by decide) (fun _ => ?_) (fun hc => absurd (rfl) hc)
    refine lv_iconst (v := (-1)) hx hb dX4_find_50 (by decide) ?_
    refine vx_ret ?_
    exact xw_iret C hw hS (Nat.le_of_ble_eq_true rfl) (Nat.le_of_ble_eq_true rfl) (⟨k1, k2, dd, none, hk1, hk2, rfl, rfl, hB0, hQ0, hdd, rfl, hmd, ⟨q, eo, xtbi tb 64, hco, e16, xtbi_64 tb, Or.inl ⟨rfl, hfp⟩⟩, Or.inl ⟨rfl, hKP, Or.inl rfl⟩⟩) dX4_find_51
  · skip
    refine xw_ti (y := 1) (hrz) ?_
    refine lv_if_eq (tgt := 50) hx hb dX4_find_36 (by decide) (fun hc => absurd hc (by decide)) (fun _ => ?_)
    obtain ⟨Y, hY⟩ : ∃ Y, Y = q2 2 := ⟨_, rfl⟩
    rw [← hY] at e2
    have pY := hC.pw 2 (by omega) (by omega) hY.symm
    have lY := xlen_le Y 64
    refine lv_aload_n hx hb dX4_find_39 rfl (lv_at hl 2 rfl) ?_
    refine xw_get C hw hC.x (ci := 3) rfl iX4_find_X4 4 (by decide) (by decide +kernel) rfl dX4_find_40 ?_
    refine xw_get C hw pY.1 (ci := 2) rfl iX4_find_X3 1 (by decide) (by decide +kernel) rfl dX4_find_43 ?_
    refine lv_iload_n hx hb dX4_find_46 rfl (lv_at hl 5 rfl) ?_
    refine lv_icmp_le (tgt := 52) hx hb dX4_find_47 (by decide) (fun hc => ?_) (fun hc => ?_)
    · skip
      have hc : xlen Y 64 ≤ dd + 1 := (x_ge_hi (by omega) (by omega)).mp hc
      have eQ : q2 (21 + 2 * k2) = (ps (21 + 2 * k2)) := hk2p _ (by omega)
      have e2Y : q2 2 = Y := hY.symm
      refine lv_aload_n hx hb dX4_find_52 rfl (lv_at hl 2 rfl) ?_
      refine xw_get C hw hC.x (ci := 3) rfl iX4_find_X4 5 (by decide) (by decide +kernel) rfl dX4_find_53 ?_
      refine lv_aload hx hb dX4_find_56 (lv_at hl 0 rfl) ?_
      refine xw_get C hw (hC.fo k2 hk2) (ci := 1) rfl iX4_find_X1 0 (by decide) (by decide +kernel) rfl dX4_find_58 ?_
      refine xw_cv (xw_V (n := 1) (rest := []) C hw (kX3_copy l G B _ (pa 3) (ra 3) 64 (q2 3) (pa (21 + 2 * k2)) (ra (21 + 2 * k2)) (cp (21 + 2 * k2)) (ps (21 + 2 * k2)) (hC.pw 3 (by omega) (by omega) rfl) (hC.pe (21 + 2 * k2) (by omega) eQ) (hC.pn (by omega) (by omega) (by omega)) (hC.rn (by omega) (by omega) (by omega)) (Nat.le_trans (xlen_sle stk2) (by decide))) gX4_find_X3_copy rfl rfl rfl (by decide +kernel) ⟨Nat.le_of_ble_eq_true rfl, Nat.le_of_ble_eq_true rfl⟩ (hC.p 3 (by omega)).1 rfl rfl hl.1 rfl (Nat.le_of_ble_eq_true rfl) dX4_find_61 ⟨Nat.le_of_ble_eq_true rfl, Nat.le_of_ble_eq_true rfl⟩ hS) hS (fun u H locs hpp hw hS => ?_)
      rw [hpp] at hw
      have hC := hC.set (i := 3) (by omega) (hC.cap (by omega) (by omega)) (f := (ps (21 + 2 * k2))) (xsup_mono stk2 (by decide))
      obtain ⟨ps3, hps⟩ : ∃ zz9, zz9 = va_up q2 (3) ((ps (21 + 2 * k2))) := ⟨_, rfl⟩
      rw [← hps] at hC
      have eQ : ps3 (21 + 2 * k2) = (ps (21 + 2 * k2)) := (congrFun hps _).trans ((va_up_ne _ _ (by omega)).trans eQ)
      have e2Y : ps3 (2) = Y := (congrFun hps _).trans ((va_up_ne _ _ (by omega)).trans e2Y)
      have hk2p : ∀ i, i < 2 ∨ 21 ≤ i → ps3 i = ps i := fun i hi => (congrFun hps i).trans ((va_up_ne _ _ (by omega)).trans (hk2p i hi))
      have e3 : ps3 (3) = (ps (21 + 2 * k2)) := by rw [hps, va_up_self]
      refine lv_aload_n hx hb dX4_find_64 rfl (lv_at hl 2 rfl) ?_
      refine xx_ci C hno (xx_V (n := 0) (rest := []) C hw hz (kX4_keepResult l hl9 G B _ pa ra cp fr ad md ps3 _ _ wr hC Y (ps (21 + 2 * k2)) e2Y e3 hQ0) gX4_find_X4_keepResult rfl rfl rfl (by decide +kernel) ⟨Nat.le_of_ble_eq_true rfl, Nat.le_of_ble_eq_true rfl⟩ hC.x rfl rfl hl.1 rfl (Nat.le_of_ble_eq_true rfl) dX4_find_65 ⟨Nat.le_of_ble_eq_true rfl, Nat.le_of_ble_eq_true rfl⟩ hS) hS (Nat.le_of_ble_eq_true rfl) (Nat.le_of_ble_eq_true rfl) (fun E u h => Or.inr ⟨k1, k2, dd, some Y, Y, hk1, hk2, rfl, rfl, hB0, hQ0, hdd, rfl, hmd, ⟨q, eo, xtbi tb 64, hco, e16, xtbi_64 tb, Or.inr ⟨by rw [e2], hfp⟩⟩, rfl, hc, h.trans hk2p⟩) (fun rz9 z9 H locs hz9 hw hS => ?_)
      refine vx_ret ?_
      exact xw_iret C hw hS (Nat.le_of_ble_eq_true rfl) (Nat.le_of_ble_eq_true rfl) (⟨k1, k2, dd, some Y, hk1, hk2, rfl, rfl, hB0, hQ0, hdd, rfl, hmd, ⟨q, eo, xtbi tb 64, hco, e16, xtbi_64 tb, Or.inr ⟨by rw [e2], hfp⟩⟩, Or.inr ⟨Y, rfl, hc, hz9.trans hk2p⟩⟩) dX4_find_68
    · skip
      refine lv_iconst (v := (-1)) hx hb dX4_find_50 (by decide) ?_
      refine vx_ret ?_
      exact xw_iret C hw hS (Nat.le_of_ble_eq_true rfl) (Nat.le_of_ble_eq_true rfl) (⟨k1, k2, dd, some Y, hk1, hk2, rfl, rfl, hB0, hQ0, hdd, rfl, hmd, ⟨q, eo, xtbi tb 64, hco, e16, xtbi_64 tb, Or.inr ⟨by rw [e2], hfp⟩⟩, Or.inl ⟨rfl, hKP, Or.inr ⟨Y, rfl, Nat.lt_of_not_le fun q => hc ((x_ge_hi (by omega) (by omega)).mpr q)⟩⟩⟩) dX4_find_51
