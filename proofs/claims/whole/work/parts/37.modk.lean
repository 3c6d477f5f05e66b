/-! ===== the reference: small methods, keep (laid by wip/whole/m_modk.py) ===== -/
abbrev rmX5_thrown : Room := { frames := 0, cells := 0, slots := 0, locals := 0 }
theorem iX5_thrown_X5 : ∀ w ∈ wsX50, w ∈ wsX5_thrown := by decide +kernel
set_option maxHeartbeats 4000000 in
set_option maxRecDepth 100000 in
theorem kX5_thrown (l : Launch) (G : xG) (B : Nat) (w : xM) (mo : Nat) (la ia : Nat → Nat) (rq : Nat) (co : Int32) (mn : Nat) (im lr : Nat → xP) (ro : Nat → Option Nat) (me : Int32) (wr : xM) (hC : xML G w mo la ia rq co mn im lr ro me wr)  : Met l yX5_thrown wsX5_thrown rmX5_thrown (va_Pc [.ref mo] (xB G B w)) (va_Qi (fun r u => r = co ∧ u = w) (xE G B) (xA B)) 0 0 (xA B) := by
  refine xw_start (own := RX5) (mn := "thrown") (cc := cX5_thrown) (nL := 1) (rt := (some .int)) (by decide) rfl rfl rfl (Nat.le_of_ble_eq_true rfl) ?_
  intro p ev s m below meth cd ls C hl hw hS
  obtain ⟨hx, hb, -, -, -, hts, -, -, -, -⟩ := id C
  have hl : lv_has ls 1 [(0, .ref mo)] := hl
  refine lv_aload_n hx hb dX5_thrown_0 rfl (lv_at hl 0 rfl) ?_
  refine xw_get C hw hC.o (ci := 4) rfl iX5_thrown_X5 0 (by decide) (by decide +kernel) rfl dX5_thrown_1 ?_
  exact xw_iret C hw hS (Nat.le_of_ble_eq_true rfl) (Nat.le_of_ble_eq_true rfl) (⟨rfl, rfl⟩) dX5_thrown_4

abbrev rmX5_count : Room := { frames := 0, cells := 0, slots := 0, locals := 0 }
theorem iX5_count_X5 : ∀ w ∈ wsX50, w ∈ wsX5_count := by decide +kernel
set_option maxHeartbeats 4000000 in
set_option maxRecDepth 100000 in
theorem kX5_count (l : Launch) (G : xG) (B : Nat) (w : xM) (mo : Nat) (la ia : Nat → Nat) (rq : Nat) (co : Int32) (mn : Nat) (im lr : Nat → xP) (ro : Nat → Option Nat) (me : Int32) (wr : xM) (hC : xML G w mo la ia rq co mn im lr ro me wr)  : Met l yX5_count wsX5_count rmX5_count (va_Pc [.ref mo] (xB G B w)) (va_Qi (fun r u => r = nI mn ∧ u = xu w mo (.inr (4, xMf la ia rq 0 mn me))) (xE G B) (xA B)) 0 0 (xA B) := by
  refine xw_start (own := RX5) (mn := "count") (cc := cX5_count) (nL := 1) (rt := (some .int)) (by decide) rfl rfl rfl (Nat.le_of_ble_eq_true rfl) ?_
  intro p ev s m below meth cd ls C hl hw hS
  obtain ⟨hx, hb, -, -, -, hts, -, -, -, -⟩ := id C
  have hl : lv_has ls 1 [(0, .ref mo)] := hl
  refine lv_aload_n hx hb dX5_count_0 rfl (lv_at hl 0 rfl) ?_
  refine lv_iconst (v := 0) hx hb dX5_count_1 (by decide) ?_
  refine xw_put C hw hS hC.o (ci := 4) rfl iX5_count_X5 tyX5 tyX5_ok nmX5 0 (by decide) (by decide +kernel) rfl (ty := .int) (by decide +kernel) rfl rfl (Nat.le_of_ble_eq_true rfl) dX5_count_2 (fun H locs hw hS => ?_)
  have hw : xW G B (xu _ mo (.inr (4, xMf la ia rq 0 mn me))) H := hw
  have hC := hC.setO 0 mn me hC.m50
  refine lv_aload_n hx hb dX5_count_5 rfl (lv_at hl 0 rfl) ?_
  refine xw_get C hw hC.o (ci := 4) rfl iX5_count_X5 1 (by decide) (by decide +kernel) rfl dX5_count_6 ?_
  exact xw_iret C hw hS (Nat.le_of_ble_eq_true rfl) (Nat.le_of_ble_eq_true rfl) (⟨rfl, rfl⟩) dX5_count_9

abbrev rmX5_raise : Room := { frames := 0, cells := 0, slots := 0, locals := 0 }
theorem iX5_raise_X5 : ∀ w ∈ wsX50, w ∈ wsX5_raise := by decide +kernel
set_option maxHeartbeats 4000000 in
set_option maxRecDepth 100000 in
theorem kX5_raise (l : Launch) (G : xG) (B : Nat) (w : xM) (mo : Nat) (la ia : Nat → Nat) (rq : Nat) (co : Int32) (mn : Nat) (im lr : Nat → xP) (ro : Nat → Option Nat) (me : Int32) (wr : xM) (hC : xML G w mo la ia rq co mn im lr ro me wr) (bd : Int32) : Met l yX5_raise wsX5_raise rmX5_raise (va_Pc [.ref mo, .int bd] (xB G B w)) (va_Qi (fun r u => r = 0 ∧ u = xu w mo (.inr (4, xMf la ia rq bd mn me))) (xE G B) (xA B)) 0 0 (xA B) := by
  refine xw_start (own := RX5) (mn := "raise") (cc := cX5_raise) (nL := 2) (rt := (some .int)) (by decide) rfl rfl rfl (Nat.le_of_ble_eq_true rfl) ?_
  intro p ev s m below meth cd ls C hl hw hS
  obtain ⟨hx, hb, -, -, -, hts, -, -, -, -⟩ := id C
  have hl : lv_has ls 2 [(0, .ref mo), (1, .int bd)] := hl
  refine lv_aload_n hx hb dX5_raise_0 rfl (lv_at hl 0 rfl) ?_
  refine lv_iload_n hx hb dX5_raise_1 rfl (lv_at hl 1 rfl) ?_
  refine xw_put C hw hS hC.o (ci := 4) rfl iX5_raise_X5 tyX5 tyX5_ok nmX5 0 (by decide) (by decide +kernel) rfl (ty := .int) (by decide +kernel) rfl rfl (Nat.le_of_ble_eq_true rfl) dX5_raise_2 (fun H locs hw hS => ?_)
  have hw : xW G B (xu _ mo (.inr (4, xMf la ia rq bd mn me))) H := hw
  have hC := hC.setO bd mn me hC.m50
  refine lv_iconst (v := 0) hx hb dX5_raise_5 (by decide) ?_
  exact xw_iret C hw hS (Nat.le_of_ble_eq_true rfl) (Nat.le_of_ble_eq_true rfl) (⟨rfl, rfl⟩) dX5_raise_6

abbrev rmX5_isThere : Room := { frames := 1, cells := 0, slots := 0, locals := 25 }
theorem iX5_isThere_X5 : ∀ w ∈ wsX50, w ∈ wsX5_isThere := by decide +kernel
set_option maxHeartbeats 4000000 in
set_option maxRecDepth 100000 in
theorem kX5_isThere (l : Launch) (G : xG) (B : Nat) (w : xM) (mo : Nat) (la ia : Nat → Nat) (rq : Nat) (co : Int32) (mn : Nat) (im lr : Nat → xP) (ro : Nat → Option Nat) (me : Int32) (wr : xM) (hC : xML G w mo la ia rq co mn im lr ro me wr) (x : Int32) : Met l yX5_isThere wsX5_isThere rmX5_isThere (va_Pc [.ref mo, .int x] (xB G B w)) (va_Qi (fun z u => ((z = 1 ∧ xIs mn x) ∨ (z = 0 ∧ ¬ (xIs mn x))) ∧ u = w) (xE G B) (xA B)) 0 0 (xA B) := by
  refine xw_start (own := RX5) (mn := "isThere") (cc := cX5_isThere) (nL := 2) (rt := (some .boolean)) (by decide) rfl rfl rfl (Nat.le_of_ble_eq_true rfl) ?_
  intro p ev s m below meth cd ls C hl hw hS
  obtain ⟨hx, hb, -, -, -, hts, -, -, -, -⟩ := id C
  have hl : lv_has ls 2 [(0, .ref mo), (1, .int x)] := hl
  have h50 := hC.m50
  refine lv_iload_n hx hb dX5_isThere_0 rfl (lv_at hl 1 rfl) ?_
  refine lv_i2l (v := (x).toInt64) hx hb dX5_isThere_1 rfl ?_
  refine lv_lconst (v := 0) hx hb dX5_isThere_2 (by decide) ?_
  refine lv_aload_n hx hb dX5_isThere_3 rfl (lv_at hl 0 rfl) ?_
  refine xw_get C hw hC.o (ci := 4) rfl iX5_isThere_X5 1 (by decide) (by decide +kernel) rfl dX5_isThere_4 ?_
  refine lv_iconst (v := 1) hx hb dX5_isThere_7 (by decide) ?_
  refine lv_isub hx hb dX5_isThere_8 ?_
  refine lv_i2l (v := (((nI mn) - 1)).toInt64) hx hb dX5_isThere_9 rfl ?_
  refine xw_ci (xw_S (n := 3) (rest := []) C hw (kX5_in l G B _ (x.toInt64) 0 ((nI mn - 1).toInt64)) gX5_isThere_X5_in rfl rfl rfl (by decide +kernel) ⟨Nat.le_of_ble_eq_true rfl, Nat.le_of_ble_eq_true rfl⟩ rfl hl.1 rfl (Nat.le_of_ble_eq_true rfl) dX5_isThere_10 ⟨Nat.le_of_ble_eq_true rfl, Nat.le_of_ble_eq_true rfl⟩ hS) hS (fun rq9 q9 H locs hq hw hS => ?_)
  obtain ⟨hq, hu⟩ := hq
  rw [hu] at hw
  rw [x_in1 (by omega)] at hq
  exact xw_zret C hw hS (Nat.le_of_ble_eq_true rfl) (Nat.le_of_ble_eq_true rfl) (hq.elim (fun h => Or.inr h.1) (fun h => Or.inl h.1)) (⟨hq, rfl⟩) dX5_isThere_13

abbrev rmX5_are : Room := { frames := 2, cells := 0, slots := 0, locals := 46 }
theorem iX5_are_X5 : ∀ w ∈ wsX50, w ∈ wsX5_are := by decide +kernel
set_option maxHeartbeats 4000000 in
set_option maxRecDepth 100000 in
theorem kX5_are (l : Launch) (G : xG) (B : Nat) (w : xM) (mo : Nat) (la ia : Nat → Nat) (rq : Nat) (co : Int32) (mn : Nat) (im lr : Nat → xP) (ro : Nat → Option Nat) (me : Int32) (wr : xM) (hC : xML G w mo la ia rq co mn im lr ro me wr) (x y : Int32) : Met l yX5_are wsX5_are rmX5_are (va_Pc [.ref mo, .int x, .int y] (xB G B w)) (va_Qi (fun z u => (z = 1 ∧ (xIs mn x ∧ xIs mn y) ∧ u = xu w mo (.inr (4, xMf la ia rq 0 mn me))) ∨ (z = 0 ∧ ¬ (xIs mn x ∧ xIs mn y) ∧ u = xu w mo (.inr (4, xMf la ia rq 1 mn me)))) (xE G B) (xA B)) 0 0 (xA B) := by
  refine xw_start (own := RX5) (mn := "are") (cc := cX5_are) (nL := 3) (rt := (some .boolean)) (by decide) rfl rfl rfl (Nat.le_of_ble_eq_true rfl) ?_
  intro p ev s m below meth cd ls C hl hw hS
  obtain ⟨hx, hb, -, -, -, hts, -, -, -, -⟩ := id C
  have hl : lv_has ls 3 [(0, .ref mo), (1, .int x), (2, .int y)] := hl
  refine lv_aload_n hx hb dX5_are_0 rfl (lv_at hl 0 rfl) ?_
  refine lv_aload_n hx hb dX5_are_1 rfl (lv_at hl 0 rfl) ?_
  refine lv_iload_n hx hb dX5_are_2 rfl (lv_at hl 1 rfl) ?_
  refine xw_ci (xw_V (n := 1) (rest := [.ref mo]) C hw (kX5_isThere l G B _ mo la ia rq co mn im lr ro me wr hC x) gX5_are_X5_isThere rfl rfl rfl (by decide +kernel) ⟨Nat.le_of_ble_eq_true rfl, Nat.le_of_ble_eq_true rfl⟩ hC.o rfl rfl hl.1 rfl (Nat.le_of_ble_eq_true rfl) dX5_are_3 ⟨Nat.le_of_ble_eq_true rfl, Nat.le_of_ble_eq_true rfl⟩ hS) hS (fun rq9 q9 H locs hq hw hS => ?_)
  obtain ⟨hq, hu⟩ := hq
  rw [hu] at hw
  rcases hq with ⟨hz, hy⟩ | ⟨hz, hy⟩
  · skip
    refine xw_ti (y := 1) (hz) ?_
    refine lv_if_eq (tgt := 21) hx hb dX5_are_6 (by decide) (fun hc => absurd hc (by decide)) (fun _ => ?_)
    refine lv_aload_n hx hb dX5_are_9 rfl (lv_at hl 0 rfl) ?_
    refine lv_iload_n hx hb dX5_are_10 rfl (lv_at hl 2 rfl) ?_
    refine xw_ci (xw_V (n := 1) (rest := [.ref mo]) C hw (kX5_isThere l G B _ mo la ia rq co mn im lr ro me wr hC y) gX5_are_X5_isThere rfl rfl rfl (by decide +kernel) ⟨Nat.le_of_ble_eq_true rfl, Nat.le_of_ble_eq_true rfl⟩ hC.o rfl rfl hl.1 rfl (Nat.le_of_ble_eq_true rfl) dX5_are_11 ⟨Nat.le_of_ble_eq_true rfl, Nat.le_of_ble_eq_true rfl⟩ hS) hS (fun rq9 q9 H locs hq hw hS => ?_)
    obtain ⟨hq, hu⟩ := hq
    rw [hu] at hw
    rcases hq with ⟨hz, hy2⟩ | ⟨hz, hy2⟩
    · skip
      refine xw_ti (y := 1) (hz) ?_
      refine lv_if_eq (tgt := 21) hx hb dX5_are_14 (by decide) (fun hc => absurd hc (by decide)) (fun _ => ?_)
      refine lv_iconst (v := 0) hx hb dX5_are_17 (by decide) ?_
      refine lv_goto (tgt := 22) hx hb dX5_are_18 (by decide) ?_
      refine xw_put C hw hS hC.o (ci := 4) rfl iX5_are_X5 tyX5 tyX5_ok nmX5 0 (by decide) (by decide +kernel) rfl (ty := .int) (by decide +kernel) rfl rfl (Nat.le_of_ble_eq_true rfl) dX5_are_22 (fun H locs hw hS => ?_)
      have hw : xW G B (xu _ mo (.inr (4, xMf la ia rq 0 mn me))) H := hw
      have hC := hC.setO 0 mn me hC.m50
      refine lv_aload_n hx hb dX5_are_25 rfl (lv_at hl 0 rfl) ?_
      refine xw_get C hw hC.o (ci := 4) rfl iX5_are_X5 0 (by decide) (by decide +kernel) rfl dX5_are_26 ?_
      refine lv_if_ne (tgt := 36) hx hb dX5_are_29 (by decide) (fun hc => absurd (rfl) hc) (fun _ => ?_)
      refine lv_iconst (v := 1) hx hb dX5_are_32 (by decide) ?_
      refine lv_goto (tgt := 37) hx hb dX5_are_33 (by decide) ?_
      exact xw_zret C hw hS (Nat.le_of_ble_eq_true rfl) (Nat.le_of_ble_eq_true rfl) (Or.inr rfl) (Or.inl ⟨rfl, ⟨hy, hy2⟩, rfl⟩) dX5_are_37
    · skip
      refine xw_ti (y := 0) (hz) ?_
      refine lv_if_eq (tgt := 21) hx hb dX5_are_14 (by decide) (fun _ => ?_) (fun hc => absurd (rfl) hc)
      refine lv_iconst (v := 1) hx hb dX5_are_21 (by decide) ?_
      refine xw_put C hw hS hC.o (ci := 4) rfl iX5_are_X5 tyX5 tyX5_ok nmX5 0 (by decide) (by decide +kernel) rfl (ty := .int) (by decide +kernel) rfl rfl (Nat.le_of_ble_eq_true rfl) dX5_are_22 (fun H locs hw hS => ?_)
      have hw : xW G B (xu _ mo (.inr (4, xMf la ia rq 1 mn me))) H := hw
      have hC := hC.setO 1 mn me hC.m50
      refine lv_aload_n hx hb dX5_are_25 rfl (lv_at hl 0 rfl) ?_
      refine xw_get C hw hC.o (ci := 4) rfl iX5_are_X5 0 (by decide) (by decide +kernel) rfl dX5_are_26 ?_
      refine lv_if_ne (tgt := 36) hx hb dX5_are_29 (by decide) (fun _ => ?_) (fun hc => absurd hc (by decide))
      refine lv_iconst (v := 0) hx hb dX5_are_36 (by decide) ?_
      exact xw_zret C hw hS (Nat.le_of_ble_eq_true rfl) (Nat.le_of_ble_eq_true rfl) (Or.inl rfl) (Or.inr ⟨rfl, fun q => hy2 q.2, rfl⟩) dX5_are_37
  · skip
    refine xw_ti (y := 0) (hz) ?_
    refine lv_if_eq (tgt := 21) hx hb dX5_are_6 (by decide) (fun _ => ?_) (fun hc => absurd (rfl) hc)
    refine lv_iconst (v := 1) hx hb dX5_are_21 (by decide) ?_
    refine xw_put C hw hS hC.o (ci := 4) rfl iX5_are_X5 tyX5 tyX5_ok nmX5 0 (by decide) (by decide +kernel) rfl (ty := .int) (by decide +kernel) rfl rfl (Nat.le_of_ble_eq_true rfl) dX5_are_22 (fun H locs hw hS => ?_)
    have hw : xW G B (xu _ mo (.inr (4, xMf la ia rq 1 mn me))) H := hw
    have hC := hC.setO 1 mn me hC.m50
    refine lv_aload_n hx hb dX5_are_25 rfl (lv_at hl 0 rfl) ?_
    refine xw_get C hw hC.o (ci := 4) rfl iX5_are_X5 0 (by decide) (by decide +kernel) rfl dX5_are_26 ?_
    refine lv_if_ne (tgt := 36) hx hb dX5_are_29 (by decide) (fun _ => ?_) (fun hc => absurd hc (by decide))
    refine lv_iconst (v := 0) hx hb dX5_are_36 (by decide) ?_
    exact xw_zret C hw hS (Nat.le_of_ble_eq_true rfl) (Nat.le_of_ble_eq_true rfl) (Or.inl rfl) (Or.inr ⟨rfl, fun q => hy q.1, rfl⟩) dX5_are_37

abbrev rmX5_loadTop : Room := { frames := 1, cells := 0, slots := 0, locals := 24 }
theorem iX5_loadTop_X5 : ∀ w ∈ wsX50, w ∈ wsX5_loadTop := by decide +kernel
set_option maxHeartbeats 4000000 in
set_option maxRecDepth 100000 in
theorem kX5_loadTop (l : Launch) (G : xG) (B : Nat) (w : xM) (mo : Nat) (la ia : Nat → Nat) (rq : Nat) (co : Int32) (mn : Nat) (im lr : Nat → xP) (ro : Nat → Option Nat) (me : Int32) (wr : xM) (hC : xML G w mo la ia rq co mn im lr ro me wr) (i : Nat) (hi : i < 11) (f : xP) (ei : lr i = f) (k : Nat) (hk : k < mn) : Met l yX5_loadTop wsX5_loadTop rmX5_loadTop (va_Pc [.ref mo, .ref (la i), .int (nI k)] (xB G B w)) (va_Qv (fun u => u = xu w (la i) (xJr G 64 (xTm im k))) (xE G B) (xA B)) 0 0 (xA B) := by
  refine xw_start (own := RX5) (mn := "loadTop") (cc := cX5_loadTop) (nL := 3) (rt := none) (by decide) rfl rfl rfl (Nat.le_of_ble_eq_true rfl) ?_
  intro p ev s m below meth cd ls C hl hw hS
  obtain ⟨hx, hb, -, -, -, hts, -, -, -, -⟩ := id C
  have hl : lv_has ls 3 [(0, .ref mo), (1, .ref (la i)), (2, .int (nI k))] := hl
  have h50 := hC.m50
  refine lv_aload_n hx hb dX5_loadTop_0 rfl (lv_at hl 1 rfl) ?_
  refine lv_aload_n hx hb dX5_loadTop_1 rfl (lv_at hl 0 rfl) ?_
  refine xw_get C hw hC.o (ci := 4) rfl iX5_loadTop_X5 2 (by decide) (by decide +kernel) rfl dX5_loadTop_2 ?_
  refine lv_bipush (v := 21) hx hb dX5_loadTop_5 (by decide) ?_
  refine xw_ti (y := (nI 21)) (by decide) ?_
  refine lv_iload_n hx hb dX5_loadTop_7 rfl (lv_at hl 2 rfl) ?_
  refine lv_imul hx hb dX5_loadTop_8 ?_
  refine xw_ti (y := (nI (21 * k))) (pk_mul _ _) ?_
  refine lv_bipush (v := 21) hx hb dX5_loadTop_9 (by decide) ?_
  refine xw_ti (y := (nI 21)) (by decide) ?_
  refine xw_cv (xw_S (n := 4) (rest := []) C hw (kX5_load l G B _ (la i) (ia 0) f (im 0) 1050 (21 * k) 21 (hC.r i hi ei) (hC.i 0 (by decide) rfl) (hC.rs i hi ei) (by decide) (by omega) (by decide)) gX5_loadTop_X5_load rfl rfl rfl (by decide +kernel) ⟨Nat.le_of_ble_eq_true rfl, Nat.le_of_ble_eq_true rfl⟩ rfl hl.1 rfl (Nat.le_of_ble_eq_true rfl) dX5_loadTop_11 ⟨Nat.le_of_ble_eq_true rfl, Nat.le_of_ble_eq_true rfl⟩ hS) hS (fun u H locs hpp hw hS => ?_)
  rw [hpp] at hw
  exact xw_vret C hw hS (Nat.le_of_ble_eq_true rfl) (Nat.le_of_ble_eq_true rfl) (rfl) dX5_loadTop_14

abbrev rmX5_loadBottom : Room := { frames := 1, cells := 0, slots := 0, locals := 24 }
theorem iX5_loadBottom_X5 : ∀ w ∈ wsX50, w ∈ wsX5_loadBottom := by decide +kernel
set_option maxHeartbeats 4000000 in
set_option maxRecDepth 100000 in
theorem kX5_loadBottom (l : Launch) (G : xG) (B : Nat) (w : xM) (mo : Nat) (la ia : Nat → Nat) (rq : Nat) (co : Int32) (mn : Nat) (im lr : Nat → xP) (ro : Nat → Option Nat) (me : Int32) (wr : xM) (hC : xML G w mo la ia rq co mn im lr ro me wr) (i : Nat) (hi : i < 11) (f : xP) (ei : lr i = f) (k : Nat) (hk : k < mn) : Met l yX5_loadBottom wsX5_loadBottom rmX5_loadBottom (va_Pc [.ref mo, .ref (la i), .int (nI k)] (xB G B w)) (va_Qv (fun u => u = xu w (la i) (xJr G 64 (xBm im k))) (xE G B) (xA B)) 0 0 (xA B) := by
  refine xw_start (own := RX5) (mn := "loadBottom") (cc := cX5_loadBottom) (nL := 3) (rt := none) (by decide) rfl rfl rfl (Nat.le_of_ble_eq_true rfl) ?_
  intro p ev s m below meth cd ls C hl hw hS
  obtain ⟨hx, hb, -, -, -, hts, -, -, -, -⟩ := id C
  have hl : lv_has ls 3 [(0, .ref mo), (1, .ref (la i)), (2, .int (nI k))] := hl
  have h50 := hC.m50
  refine lv_aload_n hx hb dX5_loadBottom_0 rfl (lv_at hl 1 rfl) ?_
  refine lv_aload_n hx hb dX5_loadBottom_1 rfl (lv_at hl 0 rfl) ?_
  refine xw_get C hw hC.o (ci := 4) rfl iX5_loadBottom_X5 3 (by decide) (by decide +kernel) rfl dX5_loadBottom_2 ?_
  refine lv_bipush (v := 21) hx hb dX5_loadBottom_5 (by decide) ?_
  refine xw_ti (y := (nI 21)) (by decide) ?_
  refine lv_iload_n hx hb dX5_loadBottom_7 rfl (lv_at hl 2 rfl) ?_
  refine lv_imul hx hb dX5_loadBottom_8 ?_
  refine xw_ti (y := (nI (21 * k))) (pk_mul _ _) ?_
  refine lv_bipush (v := 21) hx hb dX5_loadBottom_9 (by decide) ?_
  refine xw_ti (y := (nI 21)) (by decide) ?_
  refine xw_cv (xw_S (n := 4) (rest := []) C hw (kX5_load l G B _ (la i) (ia 1) f (im 1) 1050 (21 * k) 21 (hC.r i hi ei) (hC.i 1 (by decide) rfl) (hC.rs i hi ei) (by decide) (by omega) (by decide)) gX5_loadBottom_X5_load rfl rfl rfl (by decide +kernel) ⟨Nat.le_of_ble_eq_true rfl, Nat.le_of_ble_eq_true rfl⟩ rfl hl.1 rfl (Nat.le_of_ble_eq_true rfl) dX5_loadBottom_11 ⟨Nat.le_of_ble_eq_true rfl, Nat.le_of_ble_eq_true rfl⟩ hS) hS (fun u H locs hpp hw hS => ?_)
  rw [hpp] at hw
  exact xw_vret C hw hS (Nat.le_of_ble_eq_true rfl) (Nat.le_of_ble_eq_true rfl) (rfl) dX5_loadBottom_14

abbrev rmX5_loadPart : Room := { frames := 2, cells := 0, slots := 0, locals := 46 }
theorem iX5_loadPart_X5 : ∀ w ∈ wsX50, w ∈ wsX5_loadPart := by decide +kernel
set_option maxHeartbeats 4000000 in
set_option maxRecDepth 100000 in
theorem kX5_loadPart (l : Launch) (G : xG) (B : Nat) (w : xM) (mo : Nat) (la ia : Nat → Nat) (rq : Nat) (co : Int32) (mn : Nat) (im lr : Nat → xP) (ro : Nat → Option Nat) (me : Int32) (wr : xM) (hC : xML G w mo la ia rq co mn im lr ro me wr) (k : Nat) (hk : k < mn) (z : Int32) : Met l yX5_loadPart wsX5_loadPart rmX5_loadPart (va_Pc [.ref mo, .int (nI k), .int z] (xB G B w)) (va_Qv (fun u => u = xu w (la 0) (xJr G 64 (if z = 0 then xBm im k else xTm im k))) (xE G B) (xA B)) 0 0 (xA B) := by
  refine xw_start (own := RX5) (mn := "loadPart") (cc := cX5_loadPart) (nL := 3) (rt := none) (by decide) rfl rfl rfl (Nat.le_of_ble_eq_true rfl) ?_
  intro p ev s m below meth cd ls C hl hw hS
  obtain ⟨hx, hb, -, -, -, hts, -, -, -, -⟩ := id C
  have hl : lv_has ls 3 [(0, .ref mo), (1, .int (nI k)), (2, .int z)] := hl
  refine lv_iload_n hx hb dX5_loadPart_0 rfl (lv_at hl 2 rfl) ?_
  refine lv_if_eq (tgt := 16) hx hb dX5_loadPart_1 (by decide) (fun hc => ?_) (fun hc => ?_)
  · skip
    refine lv_aload_n hx hb dX5_loadPart_16 rfl (lv_at hl 0 rfl) ?_
    refine lv_aload_n hx hb dX5_loadPart_17 rfl (lv_at hl 0 rfl) ?_
    refine xw_get C hw hC.o (ci := 4) rfl iX5_loadPart_X5 6 (by decide) (by decide +kernel) rfl dX5_loadPart_18 ?_
    refine lv_iload_n hx hb dX5_loadPart_21 rfl (lv_at hl 1 rfl) ?_
    refine xw_cv (xw_V (n := 2) (rest := []) C hw (kX5_loadBottom l G B _ mo la ia rq co mn im lr ro me wr hC 0 (by decide) _ rfl k hk) gX5_loadPart_X5_loadBottom rfl rfl rfl (by decide +kernel) ⟨Nat.le_of_ble_eq_true rfl, Nat.le_of_ble_eq_true rfl⟩ hC.o rfl rfl hl.1 rfl (Nat.le_of_ble_eq_true rfl) dX5_loadPart_22 ⟨Nat.le_of_ble_eq_true rfl, Nat.le_of_ble_eq_true rfl⟩ hS) hS (fun u H locs hpp hw hS => ?_)
    rw [hpp] at hw
    exact xw_vret C hw hS (Nat.le_of_ble_eq_true rfl) (Nat.le_of_ble_eq_true rfl) (by rw [if_pos hc]) dX5_loadPart_25
  · skip
    refine lv_aload_n hx hb dX5_loadPart_4 rfl (lv_at hl 0 rfl) ?_
    refine lv_aload_n hx hb dX5_loadPart_5 rfl (lv_at hl 0 rfl) ?_
    refine xw_get C hw hC.o (ci := 4) rfl iX5_loadPart_X5 6 (by decide) (by decide +kernel) rfl dX5_loadPart_6 ?_
    refine lv_iload_n hx hb dX5_loadPart_9 rfl (lv_at hl 1 rfl) ?_
    refine xw_cv (xw_V (n := 2) (rest := []) C hw (kX5_loadTop l G B _ mo la ia rq co mn im lr ro me wr hC 0 (by decide) _ rfl k hk) gX5_loadPart_X5_loadTop rfl rfl rfl (by decide +kernel) ⟨Nat.le_of_ble_eq_true rfl, Nat.le_of_ble_eq_true rfl⟩ hC.o rfl rfl hl.1 rfl (Nat.le_of_ble_eq_true rfl) dX5_loadPart_10 ⟨Nat.le_of_ble_eq_true rfl, Nat.le_of_ble_eq_true rfl⟩ hS) hS (fun u H locs hpp hw hS => ?_)
    rw [hpp] at hw
    refine lv_goto (tgt := 25) hx hb dX5_loadPart_13 (by decide) ?_
    exact xw_vret C hw hS (Nat.le_of_ble_eq_true rfl) (Nat.le_of_ble_eq_true rfl) (by rw [if_neg hc]) dX5_loadPart_25

abbrev rmX5_isNoRatio : Room := { frames := 0, cells := 0, slots := 0, locals := 0 }
theorem iX5_isNoRatio_X5 : ∀ w ∈ wsX50, w ∈ wsX5_isNoRatio := by decide +kernel
set_option maxHeartbeats 4000000 in
set_option maxRecDepth 100000 in
theorem kX5_isNoRatio (l : Launch) (G : xG) (B : Nat) (w : xM) (mo : Nat) (la ia : Nat → Nat) (rq : Nat) (co : Int32) (mn : Nat) (im lr : Nat → xP) (ro : Nat → Option Nat) (me : Int32) (wr : xM) (hC : xML G w mo la ia rq co mn im lr ro me wr)  : Met l yX5_isNoRatio wsX5_isNoRatio rmX5_isNoRatio (va_Pc [.ref mo] (xB G B w)) (va_Qi (fun z u => ((z = 1 ∧ xlen (im 3) 64 = 0) ∨ (z = 0 ∧ ¬ (xlen (im 3) 64 = 0))) ∧ u = w) (xE G B) (xA B)) 0 0 (xA B) := by
  refine xw_start (own := RX5) (mn := "isNoRatio") (cc := cX5_isNoRatio) (nL := 1) (rt := (some .boolean)) (by decide) rfl rfl rfl (Nat.le_of_ble_eq_true rfl) ?_
  intro p ev s m below meth cd ls C hl hw hS
  obtain ⟨hx, hb, -, -, -, hts, -, -, -, -⟩ := id C
  have hl : lv_has ls 1 [(0, .ref mo)] := hl
  have s3 : xsup (im 3) 4 := (hC.2.1 3 (by decide)).2
  refine lv_aload_n hx hb dX5_isNoRatio_0 rfl (lv_at hl 0 rfl) ?_
  refine xw_get C hw hC.o (ci := 4) rfl iX5_isNoRatio_X5 5 (by decide) (by decide +kernel) rfl dX5_isNoRatio_1 ?_
  refine lv_iconst (v := 0) hx hb dX5_isNoRatio_4 (by decide) ?_
  refine xw_ti (y := (nI 0)) (by decide) ?_
  refine xw_ialdN C hw (hC.i 3 (by decide) rfl) (show 0 < 4 by decide) (by decide) dX5_isNoRatio_5 ?_
  refine lv_if_ne (tgt := 40) hx hb dX5_isNoRatio_6 (by decide) (fun h0 => ?_) (fun h0 => ?_)
  · skip
    refine lv_iconst (v := 0) hx hb dX5_isNoRatio_40 (by decide) ?_
    exact xw_zret C hw hS (Nat.le_of_ble_eq_true rfl) (Nat.le_of_ble_eq_true rfl) (Or.inl rfl) (⟨Or.inr ⟨rfl, fun q => h0 (xI_z.mpr ((xlen_0 (xsup_mono s3 (by decide))).mp q 0))⟩, rfl⟩) dX5_isNoRatio_41
  · skip
    refine lv_aload_n hx hb dX5_isNoRatio_9 rfl (lv_at hl 0 rfl) ?_
    refine xw_get C hw hC.o (ci := 4) rfl iX5_isNoRatio_X5 5 (by decide) (by decide +kernel) rfl dX5_isNoRatio_10 ?_
    refine lv_iconst (v := 1) hx hb dX5_isNoRatio_13 (by decide) ?_
    refine xw_ti (y := (nI 1)) (by decide) ?_
    refine xw_ialdN C hw (hC.i 3 (by decide) rfl) (show 1 < 4 by decide) (by decide) dX5_isNoRatio_14 ?_
    refine lv_if_ne (tgt := 40) hx hb dX5_isNoRatio_15 (by decide) (fun h1 => ?_) (fun h1 => ?_)
    · skip
      refine lv_iconst (v := 0) hx hb dX5_isNoRatio_40 (by decide) ?_
      exact xw_zret C hw hS (Nat.le_of_ble_eq_true rfl) (Nat.le_of_ble_eq_true rfl) (Or.inl rfl) (⟨Or.inr ⟨rfl, fun q => h1 (xI_z.mpr ((xlen_0 (xsup_mono s3 (by decide))).mp q 1))⟩, rfl⟩) dX5_isNoRatio_41
    · skip
      refine lv_aload_n hx hb dX5_isNoRatio_18 rfl (lv_at hl 0 rfl) ?_
      refine xw_get C hw hC.o (ci := 4) rfl iX5_isNoRatio_X5 5 (by decide) (by decide +kernel) rfl dX5_isNoRatio_19 ?_
      refine lv_iconst (v := 2) hx hb dX5_isNoRatio_22 (by decide) ?_
      refine xw_ti (y := (nI 2)) (by decide) ?_
      refine xw_ialdN C hw (hC.i 3 (by decide) rfl) (show 2 < 4 by decide) (by decide) dX5_isNoRatio_23 ?_
      refine lv_if_ne (tgt := 40) hx hb dX5_isNoRatio_24 (by decide) (fun h2 => ?_) (fun h2 => ?_)
      · skip
        refine lv_iconst (v := 0) hx hb dX5_isNoRatio_40 (by decide) ?_
        exact xw_zret C hw hS (Nat.le_of_ble_eq_true rfl) (Nat.le_of_ble_eq_true rfl) (Or.inl rfl) (⟨Or.inr ⟨rfl, fun q => h2 (xI_z.mpr ((xlen_0 (xsup_mono s3 (by decide))).mp q 2))⟩, rfl⟩) dX5_isNoRatio_41
      · skip
        refine lv_aload_n hx hb dX5_isNoRatio_27 rfl (lv_at hl 0 rfl) ?_
        refine xw_get C hw hC.o (ci := 4) rfl iX5_isNoRatio_X5 5 (by decide) (by decide +kernel) rfl dX5_isNoRatio_28 ?_
        refine lv_iconst (v := 3) hx hb dX5_isNoRatio_31 (by decide) ?_
        refine xw_ti (y := (nI 3)) (by decide) ?_
        refine xw_ialdN C hw (hC.i 3 (by decide) rfl) (show 3 < 4 by decide) (by decide) dX5_isNoRatio_32 ?_
        refine lv_if_ne (tgt := 40) hx hb dX5_isNoRatio_33 (by decide) (fun h3 => ?_) (fun h3 => ?_)
        · skip
          refine lv_iconst (v := 0) hx hb dX5_isNoRatio_40 (by decide) ?_
          exact xw_zret C hw hS (Nat.le_of_ble_eq_true rfl) (Nat.le_of_ble_eq_true rfl) (Or.inl rfl) (⟨Or.inr ⟨rfl, fun q => h3 (xI_z.mpr ((xlen_0 (xsup_mono s3 (by decide))).mp q 3))⟩, rfl⟩) dX5_isNoRatio_41
        · skip
          refine lv_iconst (v := 1) hx hb dX5_isNoRatio_36 (by decide) ?_
          refine lv_goto (tgt := 41) hx hb dX5_isNoRatio_37 (by decide) ?_
          exact xw_zret C hw hS (Nat.le_of_ble_eq_true rfl) (Nat.le_of_ble_eq_true rfl) (Or.inr rfl) (⟨Or.inl ⟨rfl, (xlen_0 (xsup_mono s3 (by decide))).mpr (x_four s3 (xI_z.mp h0) (xI_z.mp h1) (xI_z.mp h2) (xI_z.mp h3))⟩, rfl⟩) dX5_isNoRatio_41

abbrev rmX5_keep : Room := { frames := 1, cells := 0, slots := 0, locals := 21 }
theorem iX5_keep_X5 : ∀ w ∈ wsX50, w ∈ wsX5_keep := by decide +kernel
set_option maxHeartbeats 4000000 in
set_option maxRecDepth 100000 in
theorem kX5_keep (l : Launch) (G : xG) (B : Nat) (w : xM) (mo : Nat) (la ia : Nat → Nat) (rq : Nat) (co : Int32) (mn : Nat) (im lr : Nat → xP) (ro : Nat → Option Nat) (me : Int32) (wr : xM) (hC : xML G w mo la ia rq co mn im lr ro me wr) (a b : xP) (ea : lr 0 = a) (eb : lr 1 = b) (bd : Int32) : Met l yX5_keep wsX5_keep rmX5_keep (va_Pc [.ref mo, .int bd] (xB G B w)) (va_Qi (fun r u => xKe G mo la ia rq mn im wr (a) (b) bd r u) (xE G B) (xA B)) 0 0 (xA B) := by
  refine xw_start (own := RX5) (mn := "keep") (cc := cX5_keep) (nL := 3) (rt := (some .int)) (by decide) rfl rfl rfl (Nat.le_of_ble_eq_true rfl) ?_
  intro p ev s m below meth cd ls C hl hw hS
  obtain ⟨hx, hb, -, -, -, hts, -, -, -, -⟩ := id C
  have hl : lv_has ls 3 [(0, .ref mo), (1, .int bd)] := hl
  have hC0 := hC
  have h50 := hC.m50
  have la9 := xlen_le a 64
  have lb9 := xlen_le b 64
  refine lv_aload_n hx hb dX5_keep_0 rfl (lv_at hl 0 rfl) ?_
  refine xw_get C hw hC.o (ci := 4) rfl iX5_keep_X5 1 (by decide) (by decide +kernel) rfl dX5_keep_1 ?_
  refine lv_bipush (v := 50) hx hb dX5_keep_4 (by decide) ?_
  refine xw_ti (y := (nI 50)) (by decide) ?_
  refine lv_icmp_eq (tgt := 33) hx hb dX5_keep_6 (by decide) (fun hc => ?_) (fun hc => ?_)
  · skip
    have hc := (nI_eq (by omega) (by decide)).mp hc
    refine lv_aload_n hx hb dX5_keep_33 rfl (lv_at hl 0 rfl) ?_
    refine lv_iload_n hx hb dX5_keep_34 rfl (lv_at hl 1 rfl) ?_
    refine xw_ci (xw_V (n := 1) (rest := []) C hw (kX5_raise l G B _ mo la ia rq co mn im lr ro me wr hC bd) gX5_keep_X5_raise rfl rfl rfl (by decide +kernel) ⟨Nat.le_of_ble_eq_true rfl, Nat.le_of_ble_eq_true rfl⟩ hC.o rfl rfl hl.1 rfl (Nat.le_of_ble_eq_true rfl) dX5_keep_35 ⟨Nat.le_of_ble_eq_true rfl, Nat.le_of_ble_eq_true rfl⟩ hS) hS (fun ru u H locs hp hw hS => ?_)
    obtain ⟨hr, hu⟩ := hp
    rw [hu] at hw
    refine xw_ti (y := 0) (hr) ?_
    have hC := hC.setO bd mn me hC.m50
    exact xw_iret C hw hS (Nat.le_of_ble_eq_true rfl) (Nat.le_of_ble_eq_true rfl) (Or.inl ⟨rfl, Or.inl (by omega), _, _, _, hC⟩) dX5_keep_38
  · skip
    have hc : mn < 50 := by rcases Nat.lt_or_ge mn 50 with q | q; exact q; exact absurd (by rw [show mn = 50 by omega]) hc
    refine lv_aload_n hx hb dX5_keep_9 rfl (lv_at hl 0 rfl) ?_
    refine xw_get C hw hC.o (ci := 4) rfl iX5_keep_X5 6 (by decide) (by decide +kernel) rfl dX5_keep_10 ?_
    refine xw_ci (xw_S (n := 1) (rest := []) C hw (kX5_high l G B _ (la 0) a (hC.r 0 (by decide) ea)) gX5_keep_X5_high rfl rfl rfl (by decide +kernel) ⟨Nat.le_of_ble_eq_true rfl, Nat.le_of_ble_eq_true rfl⟩ rfl hl.1 rfl (Nat.le_of_ble_eq_true rfl) dX5_keep_13 ⟨Nat.le_of_ble_eq_true rfl, Nat.le_of_ble_eq_true rfl⟩ hS) hS (fun ru u H locs hp hw hS => ?_)
    obtain ⟨hr, hu⟩ := hp
    rw [hu] at hw
    refine xw_ti (y := (nI (xlen a 64) - 1)) (hr) ?_
    refine lv_bipush (v := 20) hx hb dX5_keep_16 (by decide) ?_
    refine xw_ti (y := (nI 20)) (by decide) ?_
    refine lv_icmp_gt (tgt := 33) hx hb dX5_keep_18 (by decide) (fun hc2 => ?_) (fun hc2 => ?_)
    · skip
      refine lv_aload_n hx hb dX5_keep_33 rfl (lv_at hl 0 rfl) ?_
      refine lv_iload_n hx hb dX5_keep_34 rfl (lv_at hl 1 rfl) ?_
      refine xw_ci (xw_V (n := 1) (rest := []) C hw (kX5_raise l G B _ mo la ia rq co mn im lr ro me wr hC bd) gX5_keep_X5_raise rfl rfl rfl (by decide +kernel) ⟨Nat.le_of_ble_eq_true rfl, Nat.le_of_ble_eq_true rfl⟩ hC.o rfl rfl hl.1 rfl (Nat.le_of_ble_eq_true rfl) dX5_keep_35 ⟨Nat.le_of_ble_eq_true rfl, Nat.le_of_ble_eq_true rfl⟩ hS) hS (fun ru u H locs hp hw hS => ?_)
      obtain ⟨hr, hu⟩ := hp
      rw [hu] at hw
      refine xw_ti (y := 0) (hr) ?_
      have hC := hC.setO bd mn me hC.m50
      exact xw_iret C hw hS (Nat.le_of_ble_eq_true rfl) (Nat.le_of_ble_eq_true rfl) (Or.inl ⟨rfl, Or.inr (Or.inl ((x_lt_hi (by omega) (by omega)).mp hc2)), _, _, _, hC⟩) dX5_keep_38
    · skip
      have hc2 : xlen a 64 ≤ 21 := Nat.not_lt.mp fun q => hc2 ((x_lt_hi (by omega) (by omega)).mpr q)
      refine lv_aload_n hx hb dX5_keep_21 rfl (lv_at hl 0 rfl) ?_
      refine xw_get C hw hC.o (ci := 4) rfl iX5_keep_X5 7 (by decide) (by decide +kernel) rfl dX5_keep_22 ?_
      refine xw_ci (xw_S (n := 1) (rest := []) C hw (kX5_high l G B _ (la 1) b (hC.r 1 (by decide) eb)) gX5_keep_X5_high rfl rfl rfl (by decide +kernel) ⟨Nat.le_of_ble_eq_true rfl, Nat.le_of_ble_eq_true rfl⟩ rfl hl.1 rfl (Nat.le_of_ble_eq_true rfl) dX5_keep_25 ⟨Nat.le_of_ble_eq_true rfl, Nat.le_of_ble_eq_true rfl⟩ hS) hS (fun ru u H locs hp hw hS => ?_)
      obtain ⟨hr, hu⟩ := hp
      rw [hu] at hw
      refine xw_ti (y := (nI (xlen b 64) - 1)) (hr) ?_
      refine lv_bipush (v := 20) hx hb dX5_keep_28 (by decide) ?_
      refine xw_ti (y := (nI 20)) (by decide) ?_
      refine lv_icmp_le (tgt := 39) hx hb dX5_keep_30 (by decide) (fun hc3 => ?_) (fun hc3 => ?_)
      · skip
        have hc3 : xlen b 64 ≤ 21 := (x_ge_hi (by omega) (by omega)).mp hc3
        refine lv_aload_n hx hb dX5_keep_39 rfl (lv_at hl 0 rfl) ?_
        refine lv_iconst (v := 0) hx hb dX5_keep_40 (by decide) ?_
        refine xw_put C hw hS hC.o (ci := 4) rfl iX5_keep_X5 tyX5 tyX5_ok nmX5 0 (by decide) (by decide +kernel) rfl (ty := .int) (by decide +kernel) rfl rfl (Nat.le_of_ble_eq_true rfl) dX5_keep_41 (fun H locs hw hS => ?_)
        have hw : xW G B (xu _ mo (.inr (4, xMf la ia rq 0 mn me))) H := hw
        have hC := hC.setO 0 mn me hC.m50
        refine lv_iconst (v := 0) hx hb dX5_keep_44 (by decide) ?_
        refine xw_ti (y := (nI 0)) (nI_0.symm) ?_
        refine lv_istore_n (lv' := [(2, .int (nI 0)), (0, .ref mo), (1, .int bd)]) hx hb dX5_keep_45 rfl hl (by decide) rfl (fun ls hl => ?_)
        have loop : ∀ (d k : Nat) (w1 : xM) (i2 : Nat → xP) (ls : Array Slot) (H : Heap) (locs : List Loc), k + d = 21 → xML G w1 mo la ia rq 0 mn i2 lr ro me wr → i2 0 = xpt (im 0) mn a k → i2 1 = xpt (im 1) mn b k → i2 2 = im 2 → i2 3 = im 3 → xW G B w1 H → va_S (xA B) s.heap H locs → lv_has ls 3 [(2, .int (nI k)), (0, .ref mo), (1, .int bd)] → W p l ev rmX5_keep s m [.ref mo, .int bd].toArray below meth cd H locs 0 0 (MQ below (va_Qi (fun r u => xKe G mo la ia rq mn im wr (a) (b) bd r u) (xE G B) (xA B)) [.ref mo, .int bd].toArray s 0 0 (xA B)) (F0 m 46 ls []) := by
          intro d
          induction d with
          | zero =>
            intro k w1 i2 ls H locs hk hC j0 j1 j2 j3 hw hS hl
            refine lv_iload_n hx hb dX5_keep_46 rfl (lv_at hl 0 rfl) ?_
            refine lv_bipush (v := 20) hx hb dX5_keep_47 (by decide) ?_
            refine xw_ti (y := (nI 20)) (by decide) ?_
            refine lv_icmp_gt (tgt := 100) hx hb dX5_keep_49 (by decide) (fun _ => ?_) (fun hc => absurd ((nI_ltI (by omega) (by omega)).mpr (by omega)) hc)
            refine lv_aload_n hx hb dX5_keep_100 rfl (lv_at hl 1 rfl) ?_
            refine lv_dup hx hb dX5_keep_101 rfl ?_
            refine xw_get C hw hC.o (ci := 4) rfl iX5_keep_X5 1 (by decide) (by decide +kernel) rfl dX5_keep_102 ?_
            refine lv_iconst (v := 1) hx hb dX5_keep_105 (by decide) ?_
            refine lv_iadd hx hb dX5_keep_106 ?_
            refine xw_ti (y := (nI (mn + 1))) (nI_1 mn) ?_
            refine xw_put C hw hS hC.o (ci := 4) rfl iX5_keep_X5 tyX5 tyX5_ok nmX5 1 (by decide) (by decide +kernel) rfl (ty := .int) (by decide +kernel) rfl rfl (Nat.le_of_ble_eq_true rfl) dX5_keep_107 (fun H locs hw hS => ?_)
            have hC := hC.setO 0 (mn + 1) me (by omega)
            refine lv_aload_n hx hb dX5_keep_110 rfl (lv_at hl 1 rfl) ?_
            refine xw_get C hw hC.o (ci := 4) rfl iX5_keep_X5 1 (by decide) (by decide +kernel) rfl dX5_keep_111 ?_
            refine lv_iconst (v := 1) hx hb dX5_keep_114 (by decide) ?_
            refine lv_isub hx hb dX5_keep_115 ?_
            refine xw_ti (y := (nI mn)) (nI_pred mn) ?_
            exact xw_iret C hw hS (Nat.le_of_ble_eq_true rfl) (Nat.le_of_ble_eq_true rfl) (Or.inr ⟨rfl, hc, hc2, hc3, i2, by rw [j0, show k = 21 by omega], by rw [j1, show k = 21 by omega], j2, j3, _, _, _, hC⟩) dX5_keep_116
          | succ d ih =>
            intro k w1 i2 ls H locs hk hC j0 j1 j2 j3 hw hS hl
            refine lv_iload_n hx hb dX5_keep_46 rfl (lv_at hl 0 rfl) ?_
            refine lv_bipush (v := 20) hx hb dX5_keep_47 (by decide) ?_
            refine xw_ti (y := (nI 20)) (by decide) ?_
            refine lv_icmp_gt (tgt := 100) hx hb dX5_keep_49 (by decide) (fun hc => absurd hc (fun q => absurd ((nI_ltI (by omega) (by omega)).mp q) (by omega))) (fun _ => ?_)
            refine lv_aload_n hx hb dX5_keep_52 rfl (lv_at hl 1 rfl) ?_
            refine xw_get C hw hC.o (ci := 4) rfl iX5_keep_X5 2 (by decide) (by decide +kernel) rfl dX5_keep_53 ?_
            refine lv_bipush (v := 21) hx hb dX5_keep_56 (by decide) ?_
            refine xw_ti (y := (nI 21)) (by decide) ?_
            refine lv_aload_n hx hb dX5_keep_58 rfl (lv_at hl 1 rfl) ?_
            refine xw_get C hw hC.o (ci := 4) rfl iX5_keep_X5 1 (by decide) (by decide +kernel) rfl dX5_keep_59 ?_
            refine lv_imul hx hb dX5_keep_62 ?_
            refine xw_ti (y := (nI (21 * mn))) (pk_mul _ _) ?_
            refine lv_iload_n hx hb dX5_keep_63 rfl (lv_at hl 0 rfl) ?_
            refine lv_iadd hx hb dX5_keep_64 ?_
            refine xw_ti (y := (nI (21 * mn + k))) (nI_add _ _) ?_
            refine lv_aload_n hx hb dX5_keep_65 rfl (lv_at hl 1 rfl) ?_
            refine xw_get C hw hC.o (ci := 4) rfl iX5_keep_X5 6 (by decide) (by decide +kernel) rfl dX5_keep_66 ?_
            refine lv_iload_n hx hb dX5_keep_69 rfl (lv_at hl 0 rfl) ?_
            refine xw_laldN C hw (hC.r 0 (by decide) ea) (show k < 64 by omega) (by decide) dX5_keep_70 ?_
            refine lv_l2i (v := ((xJ (a k))).toInt32) hx hb dX5_keep_71 rfl ?_
            refine xw_ti (y := (xI (a k))) (xJ_i _) ?_
            refine xw_iastN C hw hS (hC.i 0 (by decide) j0) (show 21 * mn + k < 1050 by omega) (by decide) dX5_keep_72 (fun H locs hw hS => ?_)
            rw [xrow_up, xpt_s] at hw
            have hC := hC.setI (i := 0) (by decide) (show xic 0 = 1050 by decide) (f := xpt (im 0) mn a (k + 1)) (xpt_sup (hC0.2.1 0 (by decide)).2 (by omega))
            obtain ⟨i3, hi3⟩ : ∃ zz, zz = va_up i2 0 (xpt (im 0) mn a (k + 1)) := ⟨_, rfl⟩
            rw [← hi3] at hC
            have j0 : i3 0 = xpt (im 0) mn a (k + 1) := (congrFun hi3 _).trans (va_up_self _ _ _)
            have j1 : i3 1 = _ := (congrFun hi3 _).trans ((va_up_ne _ _ (by decide)).trans j1)
            have j2 : i3 2 = _ := (congrFun hi3 _).trans ((va_up_ne _ _ (by decide)).trans j2)
            have j3 : i3 3 = _ := (congrFun hi3 _).trans ((va_up_ne _ _ (by decide)).trans j3)
            refine lv_aload_n hx hb dX5_keep_73 rfl (lv_at hl 1 rfl) ?_
            refine xw_get C hw hC.o (ci := 4) rfl iX5_keep_X5 3 (by decide) (by decide +kernel) rfl dX5_keep_74 ?_
            refine lv_bipush (v := 21) hx hb dX5_keep_77 (by decide) ?_
            refine xw_ti (y := (nI 21)) (by decide) ?_
            refine lv_aload_n hx hb dX5_keep_79 rfl (lv_at hl 1 rfl) ?_
            refine xw_get C hw hC.o (ci := 4) rfl iX5_keep_X5 1 (by decide) (by decide +kernel) rfl dX5_keep_80 ?_
            refine lv_imul hx hb dX5_keep_83 ?_
            refine xw_ti (y := (nI (21 * mn))) (pk_mul _ _) ?_
            refine lv_iload_n hx hb dX5_keep_84 rfl (lv_at hl 0 rfl) ?_
            refine lv_iadd hx hb dX5_keep_85 ?_
            refine xw_ti (y := (nI (21 * mn + k))) (nI_add _ _) ?_
            refine lv_aload_n hx hb dX5_keep_86 rfl (lv_at hl 1 rfl) ?_
            refine xw_get C hw hC.o (ci := 4) rfl iX5_keep_X5 7 (by decide) (by decide +kernel) rfl dX5_keep_87 ?_
            refine lv_iload_n hx hb dX5_keep_90 rfl (lv_at hl 0 rfl) ?_
            refine xw_laldN C hw (hC.r 1 (by decide) eb) (show k < 64 by omega) (by decide) dX5_keep_91 ?_
            refine lv_l2i (v := ((xJ (b k))).toInt32) hx hb dX5_keep_92 rfl ?_
            refine xw_ti (y := (xI (b k))) (xJ_i _) ?_
            refine xw_iastN C hw hS (hC.i 1 (by decide) j1) (show 21 * mn + k < 1050 by omega) (by decide) dX5_keep_93 (fun H locs hw hS => ?_)
            rw [xrow_up, xpt_s] at hw
            have hC := hC.setI (i := 1) (by decide) (show xic 1 = 1050 by decide) (f := xpt (im 1) mn b (k + 1)) (xpt_sup (hC0.2.1 1 (by decide)).2 (by omega))
            obtain ⟨i4, hi4⟩ : ∃ zz, zz = va_up i3 1 (xpt (im 1) mn b (k + 1)) := ⟨_, rfl⟩
            rw [← hi4] at hC
            have j0 : i4 0 = _ := (congrFun hi4 _).trans ((va_up_ne _ _ (by decide)).trans j0)
            have j1 : i4 1 = xpt (im 1) mn b (k + 1) := (congrFun hi4 _).trans (va_up_self _ _ _)
            have j2 : i4 2 = _ := (congrFun hi4 _).trans ((va_up_ne _ _ (by decide)).trans j2)
            have j3 : i4 3 = _ := (congrFun hi4 _).trans ((va_up_ne _ _ (by decide)).trans j3)
            refine lv_iinc (v := (nI (k + 1))) (lv' := [(2, .int (nI (k + 1))), (0, .ref mo), (1, .int bd)]) hx hb dX5_keep_94 hl (k := 0) rfl (x_inc k) (by decide) rfl (fun ls hl => ?_)
            refine lv_goto (tgt := 46) hx hb dX5_keep_97 (by decide) ?_
            exact ih (k + 1) _ _ ls _ _ (by omega) hC j0 j1 j2 j3 hw hS (lv_sub hl [0, 1, 2] rfl)
        exact loop 21 0 _ im ls _ _ rfl hC (xpt_0 _ _ _).symm (xpt_0 _ _ _).symm rfl rfl hw hS (lv_sub hl [0, 1, 2] rfl)
      · skip
        refine lv_aload_n hx hb dX5_keep_33 rfl (lv_at hl 0 rfl) ?_
        refine lv_iload_n hx hb dX5_keep_34 rfl (lv_at hl 1 rfl) ?_
        refine xw_ci (xw_V (n := 1) (rest := []) C hw (kX5_raise l G B _ mo la ia rq co mn im lr ro me wr hC bd) gX5_keep_X5_raise rfl rfl rfl (by decide +kernel) ⟨Nat.le_of_ble_eq_true rfl, Nat.le_of_ble_eq_true rfl⟩ hC.o rfl rfl hl.1 rfl (Nat.le_of_ble_eq_true rfl) dX5_keep_35 ⟨Nat.le_of_ble_eq_true rfl, Nat.le_of_ble_eq_true rfl⟩ hS) hS (fun ru u H locs hp hw hS => ?_)
        obtain ⟨hr, hu⟩ := hp
        rw [hu] at hw
        refine xw_ti (y := 0) (hr) ?_
        have hC := hC.setO bd mn me hC.m50
        exact xw_iret C hw hS (Nat.le_of_ble_eq_true rfl) (Nat.le_of_ble_eq_true rfl) (Or.inl ⟨rfl, Or.inr (Or.inr (Nat.lt_of_not_le fun q => hc3 ((x_ge_hi (by omega) (by omega)).mpr q))), _, _, _, hC⟩) dX5_keep_38
