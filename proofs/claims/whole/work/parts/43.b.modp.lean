/-! ===== the reference: mayBe, free; least; find; its constructor (laid by wip/whole/m_modp.py) ===== -/
theorem xeo1_nm {e : Nat} (h : e < 2 ^ 31) : xeo1 (some e) ≠ -1 := fun q => nI_pos h (by show nI e < 0; rw [show nI e = -1 from q]; decide)
theorem xrow_1 : upd (fun _ => (0 : Int32)) 0 1 = xrow x1 := by
  funext k
  by_cases h : k = 0
  · subst h; show upd _ 0 1 0 = xI (x1 0); rw [pk_us]; exact xI_1.symm
  · show upd _ 0 1 k = xI (x1 k); rw [pk_un h]; exact (congrArg xI (va_up_ne _ _ h)).trans xI_0 |>.symm
theorem xz_row : (fun _ => (0 : Int32)) = xrow (fun _ => 0) := by funext k; exact xI_0.symm
theorem xz_rowJ : (fun _ => (0 : Int64)) = xrowJ (fun _ => 0) := by funext k; exact xJ_0.symm
theorem xel_z {G : xG} (n : Nat) : (.inl (G.2 0, n, .inl (fun _ => 0)) : va_E) = xIr G n (fun _ => 0) := congrArg (fun f => (.inl (G.2 0, n, .inl f) : va_E)) xz_row
theorem xel_zl {G : xG} (n : Nat) : (.inl (G.2 1, n, .inr (.inl (fun _ => 0))) : va_E) = xJr G n (fun _ => 0) := congrArg (fun f => (.inl (G.2 1, n, .inr (.inl f)) : va_E)) xz_rowJ
abbrev rmX5_mayBe : Room := { frames := 3, cells := 0, slots := 0, locals := 68 }
theorem iX5_mayBe_X5 : ∀ w ∈ wsX50, w ∈ wsX5_mayBe := by decide +kernel
set_option maxHeartbeats 4000000 in
set_option maxRecDepth 100000 in
theorem kX5_mayBe (l : Launch) (G : xG) (B : Nat) (w : xM) (mo : Nat) (la ia : Nat → Nat) (rq : Nat) (co : Int32) (mn : Nat) (im lr : Nat → xP) (ro : Nat → Option Nat) (me : Int32) (wr : xM) (hC : xML G w mo la ia rq co mn im lr ro me wr) (x y : Int32) : Met l yX5_mayBe wsX5_mayBe rmX5_mayBe (va_Pc [.ref mo, .int x, .int y] (xB G B w)) (va_Qi (fun r u => (r = 0 ∧ ¬ (xIs mn x ∧ xIs mn y) ∧ xMK G mo la ia rq 1 mn im wr u) ∨ (r = 0 ∧ (∃ k1 k2, k1 < mn ∧ k2 < mn ∧ x = nI k1 ∧ y = nI k2 ∧ (xlen (xTm im k2) 64 = 0 ∨ xlen (im 3) 64 = 0)) ∧ xMK G mo la ia rq 2 mn im wr u) ∨ (r = 1 ∧ (∃ k1 k2, k1 < mn ∧ k2 < mn ∧ x = nI k1 ∧ y = nI k2 ∧ xlen (xTm im k2) 64 ≠ 0 ∧ xlen (im 3) 64 ≠ 0) ∧ xMK G mo la ia rq 0 mn im wr u)) (xE G B) (xA B)) 0 0 (xA B) := by
  refine xw_start (own := RX5) (mn := "mayBe") (cc := cX5_mayBe) (nL := 3) (rt := (some .boolean)) (by decide) rfl rfl rfl (Nat.le_of_ble_eq_true rfl) ?_
  intro p ev s m below meth cd ls C hl hw hS
  obtain ⟨hx, hb, -, -, -, hts, -, -, -, -⟩ := id C
  have hl : lv_has ls 3 [(0, .ref mo), (1, .int x), (2, .int y)] := hl
  refine lv_aload_n hx hb dX5_mayBe_0 rfl (lv_at hl 0 rfl) ?_
  refine lv_iload_n hx hb dX5_mayBe_1 rfl (lv_at hl 1 rfl) ?_
  refine lv_iload_n hx hb dX5_mayBe_2 rfl (lv_at hl 2 rfl) ?_
  refine xw_ci (xw_V (n := 2) (rest := []) C hw (kX5_are l G B _ mo la ia rq co mn im lr ro me wr hC x y) gX5_mayBe_X5_are rfl rfl rfl (by decide +kernel) ⟨Nat.le_of_ble_eq_true rfl, Nat.le_of_ble_eq_true rfl⟩ hC.o rfl rfl hl.1 rfl (Nat.le_of_ble_eq_true rfl) dX5_mayBe_3 ⟨Nat.le_of_ble_eq_true rfl, Nat.le_of_ble_eq_true rfl⟩ hS) hS (fun rq9 q9 H locs hq hw hS => ?_)
  rcases hq with ⟨hz, hy, hu⟩ | ⟨hz, hy, hu⟩
  · skip
    rw [hu] at hw
    refine xw_ti (y := 1) (hz) ?_
    have hC := hC.setO 0 mn me hC.m50
    obtain ⟨⟨k1, hk1, rfl⟩, ⟨k2, hk2, rfl⟩⟩ := hy
    refine lv_if_ne (tgt := 11) hx hb dX5_mayBe_6 (by decide) (fun _ => ?_) (fun hc => absurd hc (by decide))
    refine lv_aload_n hx hb dX5_mayBe_11 rfl (lv_at hl 0 rfl) ?_
    refine lv_aload_n hx hb dX5_mayBe_12 rfl (lv_at hl 0 rfl) ?_
    refine xw_get C hw hC.o (ci := 4) rfl iX5_mayBe_X5 8 (by decide) (by decide +kernel) rfl dX5_mayBe_13 ?_
    refine lv_iload_n hx hb dX5_mayBe_16 rfl (lv_at hl 2 rfl) ?_
    refine xw_cv (xw_V (n := 2) (rest := []) C hw (kX5_loadTop l G B _ mo la ia rq 0 mn im lr ro me wr hC 2 (by decide) (lr 2) rfl k2 hk2) gX5_mayBe_X5_loadTop rfl rfl rfl (by decide +kernel) ⟨Nat.le_of_ble_eq_true rfl, Nat.le_of_ble_eq_true rfl⟩ hC.o rfl rfl hl.1 rfl (Nat.le_of_ble_eq_true rfl) dX5_mayBe_17 ⟨Nat.le_of_ble_eq_true rfl, Nat.le_of_ble_eq_true rfl⟩ hS) hS (fun u H locs hpp hw hS => ?_)
    rw [hpp] at hw
    have hC := hC.set (i := 2) (by decide) (show xlc 2 = 64 by decide) (f := xTm im k2) (xld_sup _ _ (by decide))
    obtain ⟨lr1, hlr⟩ : ∃ zz9, zz9 = va_up lr (2) (xTm im k2) := ⟨_, rfl⟩
    rw [← hlr] at hC
    have e2 : lr1 2 = xTm im k2 := (congrFun hlr _).trans (va_up_self _ _ _)
    have lT := xlen_le (xTm im k2) 64
    refine lv_aload_n hx hb dX5_mayBe_20 rfl (lv_at hl 0 rfl) ?_
    refine lv_aload_n hx hb dX5_mayBe_21 rfl (lv_at hl 0 rfl) ?_
    refine xw_get C hw hC.o (ci := 4) rfl iX5_mayBe_X5 8 (by decide) (by decide +kernel) rfl dX5_mayBe_22 ?_
    refine xw_ci (xw_S (n := 1) (rest := [.ref mo]) C hw (kX5_high l G B _ (la 2) (xTm im k2) (hC.r 2 (by decide) e2)) gX5_mayBe_X5_high rfl rfl rfl (by decide +kernel) ⟨Nat.le_of_ble_eq_true rfl, Nat.le_of_ble_eq_true rfl⟩ rfl hl.1 rfl (Nat.le_of_ble_eq_true rfl) dX5_mayBe_25 ⟨Nat.le_of_ble_eq_true rfl, Nat.le_of_ble_eq_true rfl⟩ hS) hS (fun ru u H locs hp hw hS => ?_)
    obtain ⟨hr, hu⟩ := hp
    rw [hu] at hw
    refine xw_ti (y := (nI (xlen (xTm im k2) 64) - 1)) (hr) ?_
    refine lv_if_lt (tgt := 38) hx hb dX5_mayBe_28 (by decide) (fun hc => ?_) (fun hc => ?_)
    · skip
      refine lv_iconst (v := 2) hx hb dX5_mayBe_38 (by decide) ?_
      refine lv_goto (tgt := 43) hx hb dX5_mayBe_39 (by decide) ?_
      refine xw_put C hw hS hC.o (ci := 4) rfl iX5_mayBe_X5 tyX5 tyX5_ok nmX5 0 (by decide) (by decide +kernel) rfl (ty := .int) (by decide +kernel) rfl rfl (Nat.le_of_ble_eq_true rfl) dX5_mayBe_43 (fun H locs hw hS => ?_)
      have hw : xW G B (xu _ mo (.inr (4, xMf la ia rq 2 mn me))) H := hw
      have hC := hC.setO 2 mn me hC.m50
      refine lv_aload_n hx hb dX5_mayBe_46 rfl (lv_at hl 0 rfl) ?_
      refine xw_get C hw hC.o (ci := 4) rfl iX5_mayBe_X5 0 (by decide) (by decide +kernel) rfl dX5_mayBe_47 ?_
      refine lv_if_ne (tgt := 57) hx hb dX5_mayBe_50 (by decide) (fun _ => ?_) (fun hc => absurd hc (by decide))
      refine lv_iconst (v := 0) hx hb dX5_mayBe_57 (by decide) ?_
      exact xw_zret C hw hS (Nat.le_of_ble_eq_true rfl) (Nat.le_of_ble_eq_true rfl) (Or.inl rfl) (Or.inr (Or.inl ⟨rfl, ⟨k1, k2, hk1, hk2, rfl, rfl, Or.inl ((x_hi_lt (by omega)).mp hc)⟩, _, _, _, hC⟩)) dX5_mayBe_58
    · skip
      refine lv_aload_n hx hb dX5_mayBe_31 rfl (lv_at hl 0 rfl) ?_
      refine xw_ci (xw_V (n := 0) (rest := [.ref mo]) C hw (kX5_isNoRatio l G B _ mo la ia rq 0 mn im lr1 ro me wr hC) gX5_mayBe_X5_isNoRatio rfl rfl rfl (by decide +kernel) ⟨Nat.le_of_ble_eq_true rfl, Nat.le_of_ble_eq_true rfl⟩ hC.o rfl rfl hl.1 rfl (Nat.le_of_ble_eq_true rfl) dX5_mayBe_32 ⟨Nat.le_of_ble_eq_true rfl, Nat.le_of_ble_eq_true rfl⟩ hS) hS (fun rq9 q9 H locs hq hw hS => ?_)
      obtain ⟨hq, hu⟩ := hq
      rw [hu] at hw
      rcases hq with ⟨hz, hyr⟩ | ⟨hz, hyr⟩
      · skip
        refine xw_ti (y := 1) (hz) ?_
        refine lv_if_eq (tgt := 42) hx hb dX5_mayBe_35 (by decide) (fun hc => absurd hc (by decide)) (fun _ => ?_)
        refine lv_iconst (v := 2) hx hb dX5_mayBe_38 (by decide) ?_
        refine lv_goto (tgt := 43) hx hb dX5_mayBe_39 (by decide) ?_
        refine xw_put C hw hS hC.o (ci := 4) rfl iX5_mayBe_X5 tyX5 tyX5_ok nmX5 0 (by decide) (by decide +kernel) rfl (ty := .int) (by decide +kernel) rfl rfl (Nat.le_of_ble_eq_true rfl) dX5_mayBe_43 (fun H locs hw hS => ?_)
        have hw : xW G B (xu _ mo (.inr (4, xMf la ia rq 2 mn me))) H := hw
        have hC := hC.setO 2 mn me hC.m50
        refine lv_aload_n hx hb dX5_mayBe_46 rfl (lv_at hl 0 rfl) ?_
        refine xw_get C hw hC.o (ci := 4) rfl iX5_mayBe_X5 0 (by decide) (by decide +kernel) rfl dX5_mayBe_47 ?_
        refine lv_if_ne (tgt := 57) hx hb dX5_mayBe_50 (by decide) (fun _ => ?_) (fun hc => absurd hc (by decide))
        refine lv_iconst (v := 0) hx hb dX5_mayBe_57 (by decide) ?_
        exact xw_zret C hw hS (Nat.le_of_ble_eq_true rfl) (Nat.le_of_ble_eq_true rfl) (Or.inl rfl) (Or.inr (Or.inl ⟨rfl, ⟨k1, k2, hk1, hk2, rfl, rfl, Or.inr hyr⟩, _, _, _, hC⟩)) dX5_mayBe_58
      · skip
        refine xw_ti (y := 0) (hz) ?_
        refine lv_if_eq (tgt := 42) hx hb dX5_mayBe_35 (by decide) (fun _ => ?_) (fun hc => absurd (rfl) hc)
        refine lv_iconst (v := 0) hx hb dX5_mayBe_42 (by decide) ?_
        refine xw_put C hw hS hC.o (ci := 4) rfl iX5_mayBe_X5 tyX5 tyX5_ok nmX5 0 (by decide) (by decide +kernel) rfl (ty := .int) (by decide +kernel) rfl rfl (Nat.le_of_ble_eq_true rfl) dX5_mayBe_43 (fun H locs hw hS => ?_)
        have hw : xW G B (xu _ mo (.inr (4, xMf la ia rq 0 mn me))) H := hw
        have hC := hC.setO 0 mn me hC.m50
        refine lv_aload_n hx hb dX5_mayBe_46 rfl (lv_at hl 0 rfl) ?_
        refine xw_get C hw hC.o (ci := 4) rfl iX5_mayBe_X5 0 (by decide) (by decide +kernel) rfl dX5_mayBe_47 ?_
        refine lv_if_ne (tgt := 57) hx hb dX5_mayBe_50 (by decide) (fun hc => absurd (rfl) hc) (fun _ => ?_)
        refine lv_iconst (v := 1) hx hb dX5_mayBe_53 (by decide) ?_
        refine lv_goto (tgt := 58) hx hb dX5_mayBe_54 (by decide) ?_
        exact xw_zret C hw hS (Nat.le_of_ble_eq_true rfl) (Nat.le_of_ble_eq_true rfl) (Or.inr rfl) (Or.inr (Or.inr ⟨rfl, ⟨k1, k2, hk1, hk2, rfl, rfl, fun q => hc ((x_hi_lt (by omega)).mpr q), hyr⟩, _, _, _, hC⟩)) dX5_mayBe_58
  · skip
    rw [hu] at hw
    refine xw_ti (y := 0) (hz) ?_
    have hC := hC.setO 1 mn me hC.m50
    refine lv_if_ne (tgt := 11) hx hb dX5_mayBe_6 (by decide) (fun hc => absurd (rfl) hc) (fun _ => ?_)
    refine lv_iconst (v := 0) hx hb dX5_mayBe_9 (by decide) ?_
    exact xw_zret C hw hS (Nat.le_of_ble_eq_true rfl) (Nat.le_of_ble_eq_true rfl) (Or.inl rfl) (Or.inl ⟨rfl, hy, _, _, _, hC⟩) dX5_mayBe_10

abbrev rmX5_free : Room := { frames := 4, cells := 0, slots := 0, locals := 90 }
set_option maxHeartbeats 4000000 in
set_option maxRecDepth 100000 in
theorem kX5_free (l : Launch) (G : xG) (B : Nat) (w : xM) (mo : Nat) (la ia : Nat → Nat) (rq : Nat) (co : Int32) (mn : Nat) (im lr : Nat → xP) (ro : Nat → Option Nat) (me : Int32) (wr : xM) (hC : xML G w mo la ia rq co mn im lr ro me wr) (x y : Int32) : Met l yX5_free wsX5_free rmX5_free (va_Pc [.ref mo, .int x, .int y] (xB G B w)) (va_Qi (fun r u => (r = 0 ∧ ¬ xIs mn x ∧ xMK G mo la ia rq 1 mn im wr u) ∨ (r = 0 ∧ (∃ k1, k1 < mn ∧ x = nI k1 ∧ (xlen (xTm im k1) 64 = 0 ∨ xlen (im 3) 64 = 0)) ∧ xMK G mo la ia rq 2 mn im wr u) ∨ (r = 0 ∧ (∃ k1, k1 < mn ∧ x = nI k1 ∧ xlen (xTm im k1) 64 ≠ 0 ∧ xlen (im 3) 64 ≠ 0) ∧ ¬ xIs 9 y ∧ xMK G mo la ia rq 3 mn im wr u) ∨ ∃ k1 dd e9, k1 < mn ∧ x = nI k1 ∧ xlen (xTm im k1) 64 ≠ 0 ∧ xlen (im 3) 64 ≠ 0 ∧ dd < 9 ∧ y = nI dd ∧ r = nI (xnn e9 (dd + 1)) ∧ (∀ k, k < dd + 1 → (e9 k = none ↔ xDep (fun k => xMcol (xBm im k1) (im 2) (im 3) (xTm im k1) k) k)) ∧ xMK G mo la ia rq 0 mn im wr u) (xE G B) (xA B)) 0 0 (xA B) := by
  refine xw_start (own := RX5) (mn := "free") (cc := cX5_free) (nL := 3) (rt := (some .int)) (by decide) rfl rfl rfl (Nat.le_of_ble_eq_true rfl) ?_
  intro p ev s m below meth cd ls C hl hw hS
  obtain ⟨hx, hb, -, -, -, hts, -, -, -, -⟩ := id C
  have hl : lv_has ls 3 [(0, .ref mo), (1, .int x), (2, .int y)] := hl
  refine lv_aload_n hx hb dX5_free_0 rfl (lv_at hl 0 rfl) ?_
  refine lv_iload_n hx hb dX5_free_1 rfl (lv_at hl 1 rfl) ?_
  refine lv_iload_n hx hb dX5_free_2 rfl (lv_at hl 1 rfl) ?_
  refine xw_ci (xw_V (n := 2) (rest := []) C hw (kX5_mayBe l G B _ mo la ia rq co mn im lr ro me wr hC x x) gX5_free_X5_mayBe rfl rfl rfl (by decide +kernel) ⟨Nat.le_of_ble_eq_true rfl, Nat.le_of_ble_eq_true rfl⟩ hC.o rfl rfl hl.1 rfl (Nat.le_of_ble_eq_true rfl) dX5_free_3 ⟨Nat.le_of_ble_eq_true rfl, Nat.le_of_ble_eq_true rfl⟩ hS) hS (fun rq9 q9 H locs hq hw hS => ?_)
  rcases hq with ⟨hz, hy, lr1, ro1, me1, hC⟩ | ⟨hz, hy, lr1, ro1, me1, hC⟩ | ⟨hz, hy, lr1, ro1, me1, hC⟩
  · skip
    refine xw_ti (y := 0) (hz) ?_
    refine lv_if_ne (tgt := 11) hx hb dX5_free_6 (by decide) (fun hc => absurd (rfl) hc) (fun _ => ?_)
    refine lv_iconst (v := 0) hx hb dX5_free_9 (by decide) ?_
    exact xw_iret C hw hS (Nat.le_of_ble_eq_true rfl) (Nat.le_of_ble_eq_true rfl) (Or.inl ⟨rfl, fun q => hy ⟨q, q⟩, _, _, _, hC⟩) dX5_free_10
  · skip
    refine xw_ti (y := 0) (hz) ?_
    refine lv_if_ne (tgt := 11) hx hb dX5_free_6 (by decide) (fun hc => absurd (rfl) hc) (fun _ => ?_)
    refine lv_iconst (v := 0) hx hb dX5_free_9 (by decide) ?_
    obtain ⟨k1, k2, hk1, hk2, q1, q2, hzz⟩ := hy
    obtain rfl : k1 = k2 := by have h5 := hC.m50; exact (nI_eq (by omega) (by omega)).mp (q1.symm.trans q2)
    exact xw_iret C hw hS (Nat.le_of_ble_eq_true rfl) (Nat.le_of_ble_eq_true rfl) (Or.inr (Or.inl ⟨rfl, ⟨k1, hk1, q1, hzz⟩, _, _, _, hC⟩)) dX5_free_10
  · skip
    refine xw_ti (y := 1) (hz) ?_
    refine lv_if_ne (tgt := 11) hx hb dX5_free_6 (by decide) (fun _ => ?_) (fun hc => absurd hc (by decide))
    obtain ⟨k1, k2, hk1, hk2, rfl, q2, hn1, hn2⟩ := hy
    obtain rfl : k1 = k2 := by have h5 := hC.m50; exact (nI_eq (by omega) (by omega)).mp q2
    refine lv_iload_n hx hb dX5_free_11 rfl (lv_at hl 2 rfl) ?_
    refine lv_i2l (v := (y).toInt64) hx hb dX5_free_12 rfl ?_
    refine lv_lconst (v := 0) hx hb dX5_free_13 (by decide) ?_
    refine xw_ldc2 C (v := 8) (by decide +kernel) dX5_free_14 ?_
    refine xw_ci (xw_S (n := 3) (rest := []) C hw (kX5_in l G B _ (y.toInt64) 0 8) gX5_free_X5_in rfl rfl rfl (by decide +kernel) ⟨Nat.le_of_ble_eq_true rfl, Nat.le_of_ble_eq_true rfl⟩ rfl hl.1 rfl (Nat.le_of_ble_eq_true rfl) dX5_free_17 ⟨Nat.le_of_ble_eq_true rfl, Nat.le_of_ble_eq_true rfl⟩ hS) hS (fun rq9 q9 H locs hq hw hS => ?_)
    obtain ⟨hq, hu⟩ := hq
    rw [hu] at hw
    rw [show (8 : Int64) = lN 8 by decide, x_in (by decide)] at hq
    rcases hq with ⟨hz, hin⟩ | ⟨hz, hin⟩
    · skip
      refine xw_ti (y := 1) (hz) ?_
      refine lv_if_ne (tgt := 29) hx hb dX5_free_20 (by decide) (fun _ => ?_) (fun hc => absurd hc (by decide))
      obtain ⟨dd, hdd, rfl⟩ := hin
      refine lv_aload_n hx hb dX5_free_29 rfl (lv_at hl 0 rfl) ?_
      refine lv_iload_n hx hb dX5_free_30 rfl (lv_at hl 1 rfl) ?_
      refine lv_iload_n hx hb dX5_free_31 rfl (lv_at hl 1 rfl) ?_
      refine xw_cv (xw_V (n := 2) (rest := []) C hw (kX5_fill l G B _ mo la ia rq 0 mn im lr1 ro1 me1 wr hC k1 k1 hk1 hk1) gX5_free_X5_fill rfl rfl rfl (by decide +kernel) ⟨Nat.le_of_ble_eq_true rfl, Nat.le_of_ble_eq_true rfl⟩ hC.o rfl rfl hl.1 rfl (Nat.le_of_ble_eq_true rfl) dX5_free_32 ⟨Nat.le_of_ble_eq_true rfl, Nat.le_of_ble_eq_true rfl⟩ hS) hS (fun u2 H locs hq hw hS => ?_)
      obtain ⟨lr2, M0, hC, e11, hMc, hMt⟩ := hq
      refine lv_aload_n hx hb dX5_free_35 rfl (lv_at hl 0 rfl) ?_
      refine lv_iload_n hx hb dX5_free_36 rfl (lv_at hl 2 rfl) ?_
      refine xw_ci (xw_V (n := 1) (rest := []) C hw (kX5_clear l G B _ mo la ia rq 0 mn im lr2 ro1 me1 wr hC dd hdd M0 e11) gX5_free_X5_clear rfl rfl rfl (by decide +kernel) ⟨Nat.le_of_ble_eq_true rfl, Nat.le_of_ble_eq_true rfl⟩ hC.o rfl rfl hl.1 rfl (Nat.le_of_ble_eq_true rfl) dX5_free_37 ⟨Nat.le_of_ble_eq_true rfl, Nat.le_of_ble_eq_true rfl⟩ hS) hS (fun rc9 c9 H locs hq hw hS => ?_)
      obtain ⟨lr3, ro3, me3, M, hC, e11, hk11, hRd, hrc, hme⟩ := hq
      exact xw_iret C hw hS (Nat.le_of_ble_eq_true rfl) (Nat.le_of_ble_eq_true rfl) (Or.inr (Or.inr (Or.inr ⟨k1, dd, ro3, hk1, rfl, hn1, hn2, hdd, rfl, hrc, fun k hk => (xRd_dep hRd (by omega) hk).trans ⟨xDep_cg (fun j hj i hi => hMc j (by omega) i hi), xDep_cg (fun j hj i hi => (hMc j (by omega) i hi).symm)⟩, _, _, _, hC⟩))) dX5_free_40
    · skip
      refine xw_ti (y := 0) (hz) ?_
      refine lv_if_ne (tgt := 29) hx hb dX5_free_20 (by decide) (fun hc => absurd (rfl) hc) (fun _ => ?_)
      refine lv_aload_n hx hb dX5_free_23 rfl (lv_at hl 0 rfl) ?_
      refine lv_iconst (v := 3) hx hb dX5_free_24 (by decide) ?_
      refine xw_ci (xw_V (n := 1) (rest := []) C hw (kX5_raise l G B _ mo la ia rq 0 mn im lr1 ro1 me1 wr hC 3) gX5_free_X5_raise rfl rfl rfl (by decide +kernel) ⟨Nat.le_of_ble_eq_true rfl, Nat.le_of_ble_eq_true rfl⟩ hC.o rfl rfl hl.1 rfl (Nat.le_of_ble_eq_true rfl) dX5_free_25 ⟨Nat.le_of_ble_eq_true rfl, Nat.le_of_ble_eq_true rfl⟩ hS) hS (fun ru u H locs hp hw hS => ?_)
      obtain ⟨hr, hu⟩ := hp
      rw [hu] at hw
      refine xw_ti (y := 0) (hr) ?_
      have hC := hC.setO 3 mn me1 hC.m50
      exact xw_iret C hw hS (Nat.le_of_ble_eq_true rfl) (Nat.le_of_ble_eq_true rfl) (Or.inr (Or.inr (Or.inl ⟨rfl, ⟨k1, hk1, rfl, hn1, hn2⟩, hin, _, _, _, hC⟩))) dX5_free_28
