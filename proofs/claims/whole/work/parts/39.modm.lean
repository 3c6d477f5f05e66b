/-! ===== the reference: ratio, degree, at, value, same (laid by wip/whole/m_modm.py) ===== -/
theorem xcf_out {f : xP} {y : Int32} (hf : xsup f 21) (h : ¬ xIs 21 y) : xcf f y = 0 := by
  unfold xcf
  by_cases hy : y < 0
  · rw [if_pos hy]
  · rw [if_neg hy]
    obtain ⟨j, hj, rfl⟩ := nI_of hy
    rw [nI_clamp hj]
    exact hf j (Nat.not_lt.mp fun q => h ⟨j, q, rfl⟩)
theorem xld_eq {f : xP} {a b : Nat} (h : ∀ i, i < 21 → f (21 * a + i) = f (21 * b + i)) : xld f (21 * a) 21 = xld f (21 * b) 21 := by
  funext i; unfold xld
  by_cases hi : i < 21
  · rw [if_pos hi, if_pos hi, h i hi]
  · rw [if_neg hi, if_neg hi]
theorem xld_at {f : xP} {a b k : Nat} (h : xld f a 21 = xld f b 21) (hk : k < 21) : f (a + k) = f (b + k) := by
  have := congrFun h k
  unfold xld at this
  rw [if_pos hk, if_pos hk] at this
  exact this
abbrev rmX5_ratio : Room := { frames := 1, cells := 0, slots := 0, locals := 25 }
theorem iX5_ratio_X5 : ∀ w ∈ wsX50, w ∈ wsX5_ratio := by decide +kernel
set_option maxHeartbeats 4000000 in
set_option maxRecDepth 100000 in
theorem kX5_ratio (l : Launch) (G : xG) (B : Nat) (w : xM) (mo : Nat) (la ia : Nat → Nat) (rq : Nat) (co : Int32) (mn : Nat) (im lr : Nat → xP) (ro : Nat → Option Nat) (me : Int32) (wr : xM) (hC : xML G w mo la ia rq co mn im lr ro me wr) (z x : Int32) (v : Int64) : Met l yX5_ratio wsX5_ratio rmX5_ratio (va_Pc [.ref mo, .int z, .int x, .long v] (xB G B w)) (va_Qi (fun r u => (¬ xIs 4 x ∧ r = 0 ∧ xMK G mo la ia rq 1 mn im wr u) ∨ ∃ p1, p1 < 4 ∧ x = nI p1 ∧ ((r = 1 ∧ im (if z = 0 then 3 else 2) p1 ≠ xR v) ∨ (r = 0 ∧ im (if z = 0 then 3 else 2) p1 = xR v)) ∧ xMK G mo la ia rq 0 mn (va_up im (if z = 0 then 3 else 2) (va_up (im (if z = 0 then 3 else 2)) p1 (xR v))) wr u) (xE G B) (xA B)) 0 0 (xA B) := by
  refine xw_start (own := RX5) (mn := "ratio") (cc := cX5_ratio) (nL := 7) (rt := (some .boolean)) (by decide) rfl rfl rfl (Nat.le_of_ble_eq_true rfl) ?_
  intro p ev s m below meth cd ls C hl hw hS
  obtain ⟨hx, hb, -, -, -, hts, -, -, -, -⟩ := id C
  have hl : lv_has ls 7 [(0, .ref mo), (1, .int z), (2, .int x), (3, .long v)] := hl
  refine lv_aload_n hx hb dX5_ratio_0 rfl (lv_at hl 0 rfl) ?_
  refine lv_iload_n hx hb dX5_ratio_1 rfl (lv_at hl 2 rfl) ?_
  refine lv_i2l (v := (x).toInt64) hx hb dX5_ratio_2 rfl ?_
  refine lv_lconst (v := 0) hx hb dX5_ratio_3 (by decide) ?_
  refine xw_ldc2 C (v := 3) (by decide +kernel) dX5_ratio_4 ?_
  refine xw_ci (xw_S (n := 3) (rest := [.ref mo]) C hw (kX5_in l G B _ (x.toInt64) 0 3) gX5_ratio_X5_in rfl rfl rfl (by decide +kernel) ⟨Nat.le_of_ble_eq_true rfl, Nat.le_of_ble_eq_true rfl⟩ rfl hl.1 rfl (Nat.le_of_ble_eq_true rfl) dX5_ratio_7 ⟨Nat.le_of_ble_eq_true rfl, Nat.le_of_ble_eq_true rfl⟩ hS) hS (fun rq9 q9 H locs hq hw hS => ?_)
  obtain ⟨hq, hu⟩ := hq
  rw [hu] at hw
  rw [show (3 : Int64) = lN 3 by decide, x_in (by decide)] at hq
  rcases hq with ⟨hz, hin⟩ | ⟨hz, hin⟩
  · skip
    refine xw_ti (y := 1) (hz) ?_
    refine lv_if_eq (tgt := 17) hx hb dX5_ratio_10 (by decide) (fun hc => absurd hc (by decide)) (fun _ => ?_)
    refine lv_iconst (v := 0) hx hb dX5_ratio_13 (by decide) ?_
    refine lv_goto (tgt := 18) hx hb dX5_ratio_14 (by decide) ?_
    refine xw_put C hw hS hC.o (ci := 4) rfl iX5_ratio_X5 tyX5 tyX5_ok nmX5 0 (by decide) (by decide +kernel) rfl (ty := .int) (by decide +kernel) rfl rfl (Nat.le_of_ble_eq_true rfl) dX5_ratio_18 (fun H locs hw hS => ?_)
    have hw : xW G B (xu _ mo (.inr (4, xMf la ia rq 0 mn me))) H := hw
    have hC := hC.setO 0 mn me hC.m50
    refine lv_aload_n hx hb dX5_ratio_21 rfl (lv_at hl 0 rfl) ?_
    refine xw_get C hw hC.o (ci := 4) rfl iX5_ratio_X5 0 (by decide) (by decide +kernel) rfl dX5_ratio_22 ?_
    refine lv_if_le (tgt := 30) hx hb dX5_ratio_25 (by decide) (fun _ => ?_) (fun hc => absurd (by decide) hc)
    obtain ⟨c1, hc1, rfl⟩ := hin
    refine lv_iload_n hx hb dX5_ratio_30 rfl (lv_at hl 1 rfl) ?_
    refine lv_if_eq (tgt := 43) hx hb dX5_ratio_31 (by decide) (fun hz0 => ?_) (fun hz0 => ?_)
    · skip
      have si : xsup (im 3) 4 := (hC.2.1 3 (by decide)).2
      refine lv_aload_n hx hb dX5_ratio_43 rfl (lv_at hl 0 rfl) ?_
      refine xw_get C hw hC.o (ci := 4) rfl iX5_ratio_X5 5 (by decide) (by decide +kernel) rfl dX5_ratio_44 ?_
      refine lv_iload_n hx hb dX5_ratio_47 rfl (lv_at hl 2 rfl) ?_
      refine xw_ialdN C hw (hC.i 3 (by decide) rfl) hc1 (by decide) dX5_ratio_48 ?_
      refine lv_istore (lv' := [(5, .int (xI (im 3 c1))), (0, .ref mo), (1, .int z), (2, .int (nI c1)), (3, .long v)]) hx hb dX5_ratio_49 hl (by decide) rfl (fun ls hl => ?_)
      refine lv_lload_n hx hb dX5_ratio_51 rfl (lv_at hl 4 rfl) ?_
      refine xw_cl (xw_S (n := 1) (rest := []) C hw (kX5_modulo l G B _ v) gX5_ratio_X5_modulo rfl rfl rfl (by decide +kernel) ⟨Nat.le_of_ble_eq_true rfl, Nat.le_of_ble_eq_true rfl⟩ rfl hl.1 rfl (Nat.le_of_ble_eq_true rfl) dX5_ratio_52 ⟨Nat.le_of_ble_eq_true rfl, Nat.le_of_ble_eq_true rfl⟩ hS) hS (fun ru u H locs hp hw hS => ?_)
      obtain ⟨hr, hu⟩ := hp
      rw [hu] at hw
      refine xw_tl (y := (xJ (xR v))) (hr) ?_
      refine lv_l2i (v := ((xJ (xR v))).toInt32) hx hb dX5_ratio_55 rfl ?_
      refine xw_ti (y := (xI (xR v))) (xJ_i _) ?_
      refine lv_istore (lv' := [(6, .int (xI (xR v))), (5, .int (xI (im 3 c1))), (0, .ref mo), (1, .int z), (2, .int (nI c1)), (3, .long v)]) hx hb dX5_ratio_56 hl (by decide) rfl (fun ls hl => ?_)
      refine lv_iload_n hx hb dX5_ratio_58 rfl (lv_at hl 3 rfl) ?_
      refine lv_if_eq (tgt := 73) hx hb dX5_ratio_59 (by decide) (fun _ => ?_) (fun hc => absurd (hz0) hc)
      refine lv_aload_n hx hb dX5_ratio_73 rfl (lv_at hl 2 rfl) ?_
      refine xw_get C hw hC.o (ci := 4) rfl iX5_ratio_X5 5 (by decide) (by decide +kernel) rfl dX5_ratio_74 ?_
      refine lv_iload_n hx hb dX5_ratio_77 rfl (lv_at hl 4 rfl) ?_
      refine lv_iload hx hb dX5_ratio_78 (lv_at hl 0 rfl) ?_
      refine xw_iastN C hw hS (hC.i 3 (by decide) rfl) hc1 (by decide) dX5_ratio_80 (fun H locs hw hS => ?_)
      rw [xrow_up] at hw
      have hC := hC.setI (i := 3) (by decide) (show xic 3 = 4 by decide) (xsup_up (v := xR v) si hc1)
      refine lv_iload hx hb dX5_ratio_81 (lv_at hl 1 rfl) ?_
      refine lv_iload hx hb dX5_ratio_83 (lv_at hl 0 rfl) ?_
      refine lv_icmp_eq (tgt := 92) hx hb dX5_ratio_85 (by decide) (fun hq2 => ?_) (fun hq2 => ?_)
      · skip
        refine lv_iconst (v := 0) hx hb dX5_ratio_92 (by decide) ?_
        exact xw_zret C hw hS (Nat.le_of_ble_eq_true rfl) (Nat.le_of_ble_eq_true rfl) (Or.inl rfl) (Or.inr ⟨c1, hc1, rfl, by rw [if_pos hz0]; exact Or.inr ⟨rfl, xI_inj hq2⟩, by rw [if_pos hz0]; exact ⟨_, _, _, hC⟩⟩) dX5_ratio_93
      · skip
        refine lv_iconst (v := 1) hx hb dX5_ratio_88 (by decide) ?_
        refine lv_goto (tgt := 93) hx hb dX5_ratio_89 (by decide) ?_
        exact xw_zret C hw hS (Nat.le_of_ble_eq_true rfl) (Nat.le_of_ble_eq_true rfl) (Or.inr rfl) (Or.inr ⟨c1, hc1, rfl, by rw [if_pos hz0]; exact Or.inl ⟨rfl, fun q => hq2 (congrArg xI q)⟩, by rw [if_pos hz0]; exact ⟨_, _, _, hC⟩⟩) dX5_ratio_93
    · skip
      have si : xsup (im 2) 4 := (hC.2.1 2 (by decide)).2
      refine lv_aload_n hx hb dX5_ratio_34 rfl (lv_at hl 0 rfl) ?_
      refine xw_get C hw hC.o (ci := 4) rfl iX5_ratio_X5 4 (by decide) (by decide +kernel) rfl dX5_ratio_35 ?_
      refine lv_iload_n hx hb dX5_ratio_38 rfl (lv_at hl 2 rfl) ?_
      refine xw_ialdN C hw (hC.i 2 (by decide) rfl) hc1 (by decide) dX5_ratio_39 ?_
      refine lv_goto (tgt := 49) hx hb dX5_ratio_40 (by decide) ?_
      refine lv_istore (lv' := [(5, .int (xI (im 2 c1))), (0, .ref mo), (1, .int z), (2, .int (nI c1)), (3, .long v)]) hx hb dX5_ratio_49 hl (by decide) rfl (fun ls hl => ?_)
      refine lv_lload_n hx hb dX5_ratio_51 rfl (lv_at hl 4 rfl) ?_
      refine xw_cl (xw_S (n := 1) (rest := []) C hw (kX5_modulo l G B _ v) gX5_ratio_X5_modulo rfl rfl rfl (by decide +kernel) ⟨Nat.le_of_ble_eq_true rfl, Nat.le_of_ble_eq_true rfl⟩ rfl hl.1 rfl (Nat.le_of_ble_eq_true rfl) dX5_ratio_52 ⟨Nat.le_of_ble_eq_true rfl, Nat.le_of_ble_eq_true rfl⟩ hS) hS (fun ru u H locs hp hw hS => ?_)
      obtain ⟨hr, hu⟩ := hp
      rw [hu] at hw
      refine xw_tl (y := (xJ (xR v))) (hr) ?_
      refine lv_l2i (v := ((xJ (xR v))).toInt32) hx hb dX5_ratio_55 rfl ?_
      refine xw_ti (y := (xI (xR v))) (xJ_i _) ?_
      refine lv_istore (lv' := [(6, .int (xI (xR v))), (5, .int (xI (im 2 c1))), (0, .ref mo), (1, .int z), (2, .int (nI c1)), (3, .long v)]) hx hb dX5_ratio_56 hl (by decide) rfl (fun ls hl => ?_)
      refine lv_iload_n hx hb dX5_ratio_58 rfl (lv_at hl 3 rfl) ?_
      refine lv_if_eq (tgt := 73) hx hb dX5_ratio_59 (by decide) (fun hc => absurd hc (hz0)) (fun _ => ?_)
      refine lv_aload_n hx hb dX5_ratio_62 rfl (lv_at hl 2 rfl) ?_
      refine xw_get C hw hC.o (ci := 4) rfl iX5_ratio_X5 4 (by decide) (by decide +kernel) rfl dX5_ratio_63 ?_
      refine lv_iload_n hx hb dX5_ratio_66 rfl (lv_at hl 4 rfl) ?_
      refine lv_iload hx hb dX5_ratio_67 (lv_at hl 0 rfl) ?_
      refine xw_iastN C hw hS (hC.i 2 (by decide) rfl) hc1 (by decide) dX5_ratio_69 (fun H locs hw hS => ?_)
      rw [xrow_up] at hw
      have hC := hC.setI (i := 2) (by decide) (show xic 2 = 4 by decide) (xsup_up (v := xR v) si hc1)
      refine lv_goto (tgt := 81) hx hb dX5_ratio_70 (by decide) ?_
      refine lv_iload hx hb dX5_ratio_81 (lv_at hl 1 rfl) ?_
      refine lv_iload hx hb dX5_ratio_83 (lv_at hl 0 rfl) ?_
      refine lv_icmp_eq (tgt := 92) hx hb dX5_ratio_85 (by decide) (fun hq2 => ?_) (fun hq2 => ?_)
      · skip
        refine lv_iconst (v := 0) hx hb dX5_ratio_92 (by decide) ?_
        exact xw_zret C hw hS (Nat.le_of_ble_eq_true rfl) (Nat.le_of_ble_eq_true rfl) (Or.inl rfl) (Or.inr ⟨c1, hc1, rfl, by rw [if_neg hz0]; exact Or.inr ⟨rfl, xI_inj hq2⟩, by rw [if_neg hz0]; exact ⟨_, _, _, hC⟩⟩) dX5_ratio_93
      · skip
        refine lv_iconst (v := 1) hx hb dX5_ratio_88 (by decide) ?_
        refine lv_goto (tgt := 93) hx hb dX5_ratio_89 (by decide) ?_
        exact xw_zret C hw hS (Nat.le_of_ble_eq_true rfl) (Nat.le_of_ble_eq_true rfl) (Or.inr rfl) (Or.inr ⟨c1, hc1, rfl, by rw [if_neg hz0]; exact Or.inl ⟨rfl, fun q => hq2 (congrArg xI q)⟩, by rw [if_neg hz0]; exact ⟨_, _, _, hC⟩⟩) dX5_ratio_93
  · skip
    refine xw_ti (y := 0) (hz) ?_
    refine lv_if_eq (tgt := 17) hx hb dX5_ratio_10 (by decide) (fun _ => ?_) (fun hc => absurd (rfl) hc)
    refine lv_iconst (v := 1) hx hb dX5_ratio_17 (by decide) ?_
    refine xw_put C hw hS hC.o (ci := 4) rfl iX5_ratio_X5 tyX5 tyX5_ok nmX5 0 (by decide) (by decide +kernel) rfl (ty := .int) (by decide +kernel) rfl rfl (Nat.le_of_ble_eq_true rfl) dX5_ratio_18 (fun H locs hw hS => ?_)
    have hw : xW G B (xu _ mo (.inr (4, xMf la ia rq 1 mn me))) H := hw
    have hC := hC.setO 1 mn me hC.m50
    refine lv_aload_n hx hb dX5_ratio_21 rfl (lv_at hl 0 rfl) ?_
    refine xw_get C hw hC.o (ci := 4) rfl iX5_ratio_X5 0 (by decide) (by decide +kernel) rfl dX5_ratio_22 ?_
    refine lv_if_le (tgt := 30) hx hb dX5_ratio_25 (by decide) (fun hc => absurd hc (by decide)) (fun _ => ?_)
    refine lv_iconst (v := 0) hx hb dX5_ratio_28 (by decide) ?_
    exact xw_zret C hw hS (Nat.le_of_ble_eq_true rfl) (Nat.le_of_ble_eq_true rfl) (Or.inl rfl) (Or.inl ⟨hin, rfl, _, _, _, hC⟩) dX5_ratio_29

abbrev rmX5_degree : Room := { frames := 3, cells := 0, slots := 0, locals := 68 }
theorem iX5_degree_X5 : ∀ w ∈ wsX50, w ∈ wsX5_degree := by decide +kernel
set_option maxHeartbeats 4000000 in
set_option maxRecDepth 100000 in
theorem kX5_degree (l : Launch) (G : xG) (B : Nat) (w : xM) (mo : Nat) (la ia : Nat → Nat) (rq : Nat) (co : Int32) (mn : Nat) (im lr : Nat → xP) (ro : Nat → Option Nat) (me : Int32) (wr : xM) (hC : xML G w mo la ia rq co mn im lr ro me wr) (x z : Int32) : Met l yX5_degree wsX5_degree rmX5_degree (va_Pc [.ref mo, .int x, .int z] (xB G B w)) (va_Qi (fun r u => (¬ xIs mn x ∧ r = 0 ∧ xMK G mo la ia rq 1 mn im wr u) ∨ ∃ k1, k1 < mn ∧ x = nI k1 ∧ r = xhi (if z = 0 then xBm im k1 else xTm im k1) 64 ∧ xMK G mo la ia rq 0 mn im wr u) (xE G B) (xA B)) 0 0 (xA B) := by
  refine xw_start (own := RX5) (mn := "degree") (cc := cX5_degree) (nL := 3) (rt := (some .int)) (by decide) rfl rfl rfl (Nat.le_of_ble_eq_true rfl) ?_
  intro p ev s m below meth cd ls C hl hw hS
  obtain ⟨hx, hb, -, -, -, hts, -, -, -, -⟩ := id C
  have hl : lv_has ls 3 [(0, .ref mo), (1, .int x), (2, .int z)] := hl
  refine lv_aload_n hx hb dX5_degree_0 rfl (lv_at hl 0 rfl) ?_
  refine lv_iload_n hx hb dX5_degree_1 rfl (lv_at hl 1 rfl) ?_
  refine lv_iload_n hx hb dX5_degree_2 rfl (lv_at hl 1 rfl) ?_
  refine xw_ci (xw_V (n := 2) (rest := []) C hw (kX5_are l G B _ mo la ia rq co mn im lr ro me wr hC x x) gX5_degree_X5_are rfl rfl rfl (by decide +kernel) ⟨Nat.le_of_ble_eq_true rfl, Nat.le_of_ble_eq_true rfl⟩ hC.o rfl rfl hl.1 rfl (Nat.le_of_ble_eq_true rfl) dX5_degree_3 ⟨Nat.le_of_ble_eq_true rfl, Nat.le_of_ble_eq_true rfl⟩ hS) hS (fun rq9 q9 H locs hq hw hS => ?_)
  rcases hq with ⟨hz, hy, hu⟩ | ⟨hz, hy, hu⟩
  · skip
    rw [hu] at hw
    refine xw_ti (y := 1) (hz) ?_
    have hC := hC.setO 0 mn me hC.m50
    obtain ⟨⟨k1, hk1, rfl⟩, -⟩ := hy
    refine lv_if_ne (tgt := 11) hx hb dX5_degree_6 (by decide) (fun _ => ?_) (fun hc => absurd hc (by decide))
    refine lv_aload_n hx hb dX5_degree_11 rfl (lv_at hl 0 rfl) ?_
    refine lv_iload_n hx hb dX5_degree_12 rfl (lv_at hl 1 rfl) ?_
    refine lv_iload_n hx hb dX5_degree_13 rfl (lv_at hl 2 rfl) ?_
    refine xw_cv (xw_V (n := 2) (rest := []) C hw (kX5_loadPart l G B _ mo la ia rq 0 mn im lr ro me wr hC k1 hk1 z) gX5_degree_X5_loadPart rfl rfl rfl (by decide +kernel) ⟨Nat.le_of_ble_eq_true rfl, Nat.le_of_ble_eq_true rfl⟩ hC.o rfl rfl hl.1 rfl (Nat.le_of_ble_eq_true rfl) dX5_degree_14 ⟨Nat.le_of_ble_eq_true rfl, Nat.le_of_ble_eq_true rfl⟩ hS) hS (fun u H locs hpp hw hS => ?_)
    rw [hpp] at hw
    have spt : xsup (if z = 0 then xBm im k1 else xTm im k1) 21 := by split <;> exact xld_sup _ _ (Nat.le_refl _)
    have hC := hC.set (i := 0) (by decide) (show xlc 0 = 64 by decide) (f := (if z = 0 then xBm im k1 else xTm im k1)) (xsup_mono spt (by decide))
    obtain ⟨lr1, hlr⟩ : ∃ zz9, zz9 = va_up lr (0) ((if z = 0 then xBm im k1 else xTm im k1)) := ⟨_, rfl⟩
    rw [← hlr] at hC
    have e0 : lr1 0 = (if z = 0 then xBm im k1 else xTm im k1) := (congrFun hlr _).trans (va_up_self _ _ _)
    refine lv_aload_n hx hb dX5_degree_17 rfl (lv_at hl 0 rfl) ?_
    refine xw_get C hw hC.o (ci := 4) rfl iX5_degree_X5 6 (by decide) (by decide +kernel) rfl dX5_degree_18 ?_
    refine xw_ci (xw_S (n := 1) (rest := []) C hw (kX5_high l G B _ (la 0) (if z = 0 then xBm im k1 else xTm im k1) (hC.r 0 (by decide) e0)) gX5_degree_X5_high rfl rfl rfl (by decide +kernel) ⟨Nat.le_of_ble_eq_true rfl, Nat.le_of_ble_eq_true rfl⟩ rfl hl.1 rfl (Nat.le_of_ble_eq_true rfl) dX5_degree_21 ⟨Nat.le_of_ble_eq_true rfl, Nat.le_of_ble_eq_true rfl⟩ hS) hS (fun ru u H locs hp hw hS => ?_)
    obtain ⟨hr, hu⟩ := hp
    rw [hu] at hw
    refine xw_ti (y := (nI (xlen (if z = 0 then xBm im k1 else xTm im k1) 64) - 1)) (hr) ?_
    exact xw_iret C hw hS (Nat.le_of_ble_eq_true rfl) (Nat.le_of_ble_eq_true rfl) (Or.inr ⟨k1, hk1, rfl, rfl, _, _, _, hC⟩) dX5_degree_24
  · skip
    rw [hu] at hw
    refine xw_ti (y := 0) (hz) ?_
    have hC := hC.setO 1 mn me hC.m50
    refine lv_if_ne (tgt := 11) hx hb dX5_degree_6 (by decide) (fun hc => absurd (rfl) hc) (fun _ => ?_)
    refine lv_iconst (v := 0) hx hb dX5_degree_9 (by decide) ?_
    exact xw_iret C hw hS (Nat.le_of_ble_eq_true rfl) (Nat.le_of_ble_eq_true rfl) (Or.inl ⟨fun q => hy ⟨q, q⟩, rfl, _, _, _, hC⟩) dX5_degree_10

abbrev rmX5_at : Room := { frames := 3, cells := 0, slots := 0, locals := 68 }
theorem iX5_at_X5 : ∀ w ∈ wsX50, w ∈ wsX5_at := by decide +kernel
set_option maxHeartbeats 4000000 in
set_option maxRecDepth 100000 in
theorem kX5_at (l : Launch) (G : xG) (B : Nat) (w : xM) (mo : Nat) (la ia : Nat → Nat) (rq : Nat) (co : Int32) (mn : Nat) (im lr : Nat → xP) (ro : Nat → Option Nat) (me : Int32) (wr : xM) (hC : xML G w mo la ia rq co mn im lr ro me wr) (x z y : Int32) : Met l yX5_at wsX5_at rmX5_at (va_Pc [.ref mo, .int x, .int z, .int y] (xB G B w)) (va_Qi (fun r u => (¬ xIs mn x ∧ r = 0 ∧ xMK G mo la ia rq 1 mn im wr u) ∨ ∃ k1, k1 < mn ∧ x = nI k1 ∧ r = xI (xcf (if z = 0 then xBm im k1 else xTm im k1) y) ∧ xMK G mo la ia rq 0 mn im wr u) (xE G B) (xA B)) 0 0 (xA B) := by
  refine xw_start (own := RX5) (mn := "at") (cc := cX5_at) (nL := 4) (rt := (some .int)) (by decide) rfl rfl rfl (Nat.le_of_ble_eq_true rfl) ?_
  intro p ev s m below meth cd ls C hl hw hS
  obtain ⟨hx, hb, -, -, -, hts, -, -, -, -⟩ := id C
  have hl : lv_has ls 4 [(0, .ref mo), (1, .int x), (2, .int z), (3, .int y)] := hl
  refine lv_aload_n hx hb dX5_at_0 rfl (lv_at hl 0 rfl) ?_
  refine lv_iload_n hx hb dX5_at_1 rfl (lv_at hl 1 rfl) ?_
  refine lv_iload_n hx hb dX5_at_2 rfl (lv_at hl 1 rfl) ?_
  refine xw_ci (xw_V (n := 2) (rest := []) C hw (kX5_are l G B _ mo la ia rq co mn im lr ro me wr hC x x) gX5_at_X5_are rfl rfl rfl (by decide +kernel) ⟨Nat.le_of_ble_eq_true rfl, Nat.le_of_ble_eq_true rfl⟩ hC.o rfl rfl hl.1 rfl (Nat.le_of_ble_eq_true rfl) dX5_at_3 ⟨Nat.le_of_ble_eq_true rfl, Nat.le_of_ble_eq_true rfl⟩ hS) hS (fun rq9 q9 H locs hq hw hS => ?_)
  rcases hq with ⟨hz, hy, hu⟩ | ⟨hz, hy, hu⟩
  · skip
    rw [hu] at hw
    refine xw_ti (y := 1) (hz) ?_
    have hC := hC.setO 0 mn me hC.m50
    obtain ⟨⟨k1, hk1, rfl⟩, -⟩ := hy
    refine lv_if_eq (tgt := 21) hx hb dX5_at_6 (by decide) (fun hc => absurd hc (by decide)) (fun _ => ?_)
    refine lv_iload_n hx hb dX5_at_9 rfl (lv_at hl 3 rfl) ?_
    refine lv_i2l (v := (y).toInt64) hx hb dX5_at_10 rfl ?_
    refine lv_lconst (v := 0) hx hb dX5_at_11 (by decide) ?_
    refine xw_ldc2 C (v := 20) (by decide +kernel) dX5_at_12 ?_
    refine xw_ci (xw_S (n := 3) (rest := []) C hw (kX5_in l G B _ (y.toInt64) 0 20) gX5_at_X5_in rfl rfl rfl (by decide +kernel) ⟨Nat.le_of_ble_eq_true rfl, Nat.le_of_ble_eq_true rfl⟩ rfl hl.1 rfl (Nat.le_of_ble_eq_true rfl) dX5_at_15 ⟨Nat.le_of_ble_eq_true rfl, Nat.le_of_ble_eq_true rfl⟩ hS) hS (fun rq9 q9 H locs hq hw hS => ?_)
    obtain ⟨hq, hu⟩ := hq
    rw [hu] at hw
    rw [show (20 : Int64) = lN 20 by decide, x_in (by decide)] at hq
    rcases hq with ⟨hz, hin⟩ | ⟨hz, hin⟩
    · skip
      refine xw_ti (y := 1) (hz) ?_
      refine lv_if_ne (tgt := 23) hx hb dX5_at_18 (by decide) (fun _ => ?_) (fun hc => absurd hc (by decide))
      obtain ⟨c9, hc9, rfl⟩ := hin
      refine lv_aload_n hx hb dX5_at_23 rfl (lv_at hl 0 rfl) ?_
      refine lv_iload_n hx hb dX5_at_24 rfl (lv_at hl 1 rfl) ?_
      refine lv_iload_n hx hb dX5_at_25 rfl (lv_at hl 2 rfl) ?_
      refine xw_cv (xw_V (n := 2) (rest := []) C hw (kX5_loadPart l G B _ mo la ia rq 0 mn im lr ro me wr hC k1 hk1 z) gX5_at_X5_loadPart rfl rfl rfl (by decide +kernel) ⟨Nat.le_of_ble_eq_true rfl, Nat.le_of_ble_eq_true rfl⟩ hC.o rfl rfl hl.1 rfl (Nat.le_of_ble_eq_true rfl) dX5_at_26 ⟨Nat.le_of_ble_eq_true rfl, Nat.le_of_ble_eq_true rfl⟩ hS) hS (fun u H locs hpp hw hS => ?_)
      rw [hpp] at hw
      have spt : xsup (if z = 0 then xBm im k1 else xTm im k1) 21 := by split <;> exact xld_sup _ _ (Nat.le_refl _)
      have hC := hC.set (i := 0) (by decide) (show xlc 0 = 64 by decide) (f := (if z = 0 then xBm im k1 else xTm im k1)) (xsup_mono spt (by decide))
      obtain ⟨lr1, hlr⟩ : ∃ zz9, zz9 = va_up lr (0) ((if z = 0 then xBm im k1 else xTm im k1)) := ⟨_, rfl⟩
      rw [← hlr] at hC
      have e0 : lr1 0 = (if z = 0 then xBm im k1 else xTm im k1) := (congrFun hlr _).trans (va_up_self _ _ _)
      refine lv_aload_n hx hb dX5_at_29 rfl (lv_at hl 0 rfl) ?_
      refine xw_get C hw hC.o (ci := 4) rfl iX5_at_X5 6 (by decide) (by decide +kernel) rfl dX5_at_30 ?_
      refine lv_iload_n hx hb dX5_at_33 rfl (lv_at hl 3 rfl) ?_
      refine xw_laldN C hw (hC.r 0 (by decide) e0) (show c9 < 64 by omega) (by decide) dX5_at_34 ?_
      refine lv_l2i (v := ((xJ ((if z = 0 then xBm im k1 else xTm im k1) c9))).toInt32) hx hb dX5_at_35 rfl ?_
      refine xw_ti (y := (xI ((if z = 0 then xBm im k1 else xTm im k1) c9))) (xJ_i _) ?_
      exact xw_iret C hw hS (Nat.le_of_ble_eq_true rfl) (Nat.le_of_ble_eq_true rfl) (Or.inr ⟨k1, hk1, rfl, by rw [xcf_n _ (by omega)], _, _, _, hC⟩) dX5_at_36
    · skip
      refine xw_ti (y := 0) (hz) ?_
      refine lv_if_ne (tgt := 23) hx hb dX5_at_18 (by decide) (fun hc => absurd (rfl) hc) (fun _ => ?_)
      refine lv_iconst (v := 0) hx hb dX5_at_21 (by decide) ?_
      exact xw_iret C hw hS (Nat.le_of_ble_eq_true rfl) (Nat.le_of_ble_eq_true rfl) (Or.inr ⟨k1, hk1, rfl, (by rw [xcf_out (by split <;> exact xld_sup _ _ (Nat.le_refl _)) hin, xI_0]), _, _, _, hC⟩) dX5_at_22
  · skip
    rw [hu] at hw
    refine xw_ti (y := 0) (hz) ?_
    have hC := hC.setO 1 mn me hC.m50
    refine lv_if_eq (tgt := 21) hx hb dX5_at_6 (by decide) (fun _ => ?_) (fun hc => absurd (rfl) hc)
    refine lv_iconst (v := 0) hx hb dX5_at_21 (by decide) ?_
    exact xw_iret C hw hS (Nat.le_of_ble_eq_true rfl) (Nat.le_of_ble_eq_true rfl) (Or.inl ⟨fun q => hy ⟨q, q⟩, rfl, _, _, _, hC⟩) dX5_at_22

abbrev rmX5_value : Room := { frames := 3, cells := 0, slots := 0, locals := 68 }
theorem iX5_value_X5 : ∀ w ∈ wsX50, w ∈ wsX5_value := by decide +kernel
set_option maxHeartbeats 4000000 in
set_option maxRecDepth 100000 in
theorem kX5_value (l : Launch) (G : xG) (B : Nat) (w : xM) (mo : Nat) (la ia : Nat → Nat) (rq : Nat) (co : Int32) (mn : Nat) (im lr : Nat → xP) (ro : Nat → Option Nat) (me : Int32) (wr : xM) (hC : xML G w mo la ia rq co mn im lr ro me wr) (x : Int32) (v : Int64) : Met l yX5_value wsX5_value rmX5_value (va_Pc [.ref mo, .int x, .long v] (xB G B w)) (va_Qi (fun r u => (¬ xIs mn x ∧ r = 0 ∧ xMK G mo la ia rq 1 mn im wr u) ∨ ∃ k1, k1 < mn ∧ x = nI k1 ∧ ((xhor (xBm im k1) (xR v) 64 0 = 0 ∧ r = -1) ∨ (xhor (xBm im k1) (xR v) 64 0 ≠ 0 ∧ r = xI (xhor (xTm im k1) (xR v) 64 0 * xinv (xhor (xBm im k1) (xR v) 64 0)))) ∧ xMK G mo la ia rq 0 mn im wr u) (xE G B) (xA B)) 0 0 (xA B) := by
  refine xw_start (own := RX5) (mn := "value") (cc := cX5_value) (nL := 6) (rt := (some .int)) (by decide) rfl rfl rfl (Nat.le_of_ble_eq_true rfl) ?_
  intro p ev s m below meth cd ls C hl hw hS
  obtain ⟨hx, hb, -, -, -, hts, -, -, -, -⟩ := id C
  have hl : lv_has ls 6 [(0, .ref mo), (1, .int x), (2, .long v)] := hl
  refine lv_aload_n hx hb dX5_value_0 rfl (lv_at hl 0 rfl) ?_
  refine lv_iload_n hx hb dX5_value_1 rfl (lv_at hl 1 rfl) ?_
  refine lv_iload_n hx hb dX5_value_2 rfl (lv_at hl 1 rfl) ?_
  refine xw_ci (xw_V (n := 2) (rest := []) C hw (kX5_are l G B _ mo la ia rq co mn im lr ro me wr hC x x) gX5_value_X5_are rfl rfl rfl (by decide +kernel) ⟨Nat.le_of_ble_eq_true rfl, Nat.le_of_ble_eq_true rfl⟩ hC.o rfl rfl hl.1 rfl (Nat.le_of_ble_eq_true rfl) dX5_value_3 ⟨Nat.le_of_ble_eq_true rfl, Nat.le_of_ble_eq_true rfl⟩ hS) hS (fun rq9 q9 H locs hq hw hS => ?_)
  rcases hq with ⟨hz, hy, hu⟩ | ⟨hz, hy, hu⟩
  · skip
    rw [hu] at hw
    refine xw_ti (y := 1) (hz) ?_
    have hC := hC.setO 0 mn me hC.m50
    obtain ⟨⟨k1, hk1, rfl⟩, -⟩ := hy
    refine lv_if_ne (tgt := 11) hx hb dX5_value_6 (by decide) (fun _ => ?_) (fun hc => absurd hc (by decide))
    refine lv_aload_n hx hb dX5_value_11 rfl (lv_at hl 0 rfl) ?_
    refine lv_iload_n hx hb dX5_value_12 rfl (lv_at hl 1 rfl) ?_
    refine lv_iconst (v := 0) hx hb dX5_value_13 (by decide) ?_
    refine xw_cv (xw_V (n := 2) (rest := []) C hw (kX5_loadPart l G B _ mo la ia rq 0 mn im lr ro me wr hC k1 hk1 0) gX5_value_X5_loadPart rfl rfl rfl (by decide +kernel) ⟨Nat.le_of_ble_eq_true rfl, Nat.le_of_ble_eq_true rfl⟩ hC.o rfl rfl hl.1 rfl (Nat.le_of_ble_eq_true rfl) dX5_value_14 ⟨Nat.le_of_ble_eq_true rfl, Nat.le_of_ble_eq_true rfl⟩ hS) hS (fun u H locs hpp hw hS => ?_)
    rw [hpp] at hw
    have spt : xsup (if 0 = 0 then xBm im k1 else xTm im k1) 21 := by split <;> exact xld_sup _ _ (Nat.le_refl _)
    have hC := hC.set (i := 0) (by decide) (show xlc 0 = 64 by decide) (f := (if 0 = 0 then xBm im k1 else xTm im k1)) (xsup_mono spt (by decide))
    obtain ⟨lr1, hlr⟩ : ∃ zz9, zz9 = va_up lr (0) ((if 0 = 0 then xBm im k1 else xTm im k1)) := ⟨_, rfl⟩
    rw [← hlr] at hC
    have e0 : lr1 0 = (if 0 = 0 then xBm im k1 else xTm im k1) := (congrFun hlr _).trans (va_up_self _ _ _)
    rw [if_pos rfl] at e0
    refine lv_aload_n hx hb dX5_value_17 rfl (lv_at hl 0 rfl) ?_
    refine xw_get C hw hC.o (ci := 4) rfl iX5_value_X5 6 (by decide) (by decide +kernel) rfl dX5_value_18 ?_
    refine lv_lload_n hx hb dX5_value_21 rfl (lv_at hl 2 rfl) ?_
    refine xw_cl (xw_S (n := 1) (rest := [.ref (la 0)]) C hw (kX5_modulo l G B _ v) gX5_value_X5_modulo rfl rfl rfl (by decide +kernel) ⟨Nat.le_of_ble_eq_true rfl, Nat.le_of_ble_eq_true rfl⟩ rfl hl.1 rfl (Nat.le_of_ble_eq_true rfl) dX5_value_22 ⟨Nat.le_of_ble_eq_true rfl, Nat.le_of_ble_eq_true rfl⟩ hS) hS (fun ru u H locs hp hw hS => ?_)
    obtain ⟨hr, hu⟩ := hp
    rw [hu] at hw
    refine xw_tl (y := (xJ (xR v))) (hr) ?_
    refine xw_cl (xw_S (n := 2) (rest := []) C hw (kX5_valueAt l G B _ (la 0) (xBm im k1) (xR v) (hC.r 0 (by decide) e0)) gX5_value_X5_valueAt rfl rfl rfl (by decide +kernel) ⟨Nat.le_of_ble_eq_true rfl, Nat.le_of_ble_eq_true rfl⟩ rfl hl.1 rfl (Nat.le_of_ble_eq_true rfl) dX5_value_25 ⟨Nat.le_of_ble_eq_true rfl, Nat.le_of_ble_eq_true rfl⟩ hS) hS (fun ru u H locs hp hw hS => ?_)
    obtain ⟨hr, hu⟩ := hp
    rw [hu] at hw
    refine xw_tl (y := (xJ (xhor (xBm im k1) (xR v) 64 0))) (hr) ?_
    refine lv_lstore (lv' := [(4, .long (xJ (xhor (xBm im k1) (xR v) 64 0))), (0, .ref mo), (1, .int (nI k1)), (2, .long v)]) hx hb dX5_value_28 hl (by decide) rfl (fun ls hl => ?_)
    refine lv_lload hx hb dX5_value_30 (lv_at hl 0 rfl) ?_
    refine lv_lconst (v := 0) hx hb dX5_value_32 (by decide) ?_
    refine W.lcmp hx hb dX5_value_33 ?_
    refine lv_if_ne (tgt := 39) hx hb dX5_value_34 (by decide) (fun hc => ?_) (fun hc => ?_)
    · skip
      refine lv_aload_n hx hb dX5_value_39 rfl (lv_at hl 1 rfl) ?_
      refine lv_iload_n hx hb dX5_value_40 rfl (lv_at hl 2 rfl) ?_
      refine lv_iconst (v := 1) hx hb dX5_value_41 (by decide) ?_
      refine xw_cv (xw_V (n := 2) (rest := []) C hw (kX5_loadPart l G B _ mo la ia rq 0 mn im lr1 ro me wr hC k1 hk1 1) gX5_value_X5_loadPart rfl rfl rfl (by decide +kernel) ⟨Nat.le_of_ble_eq_true rfl, Nat.le_of_ble_eq_true rfl⟩ hC.o rfl rfl hl.1 rfl (Nat.le_of_ble_eq_true rfl) dX5_value_42 ⟨Nat.le_of_ble_eq_true rfl, Nat.le_of_ble_eq_true rfl⟩ hS) hS (fun u H locs hpp hw hS => ?_)
      rw [hpp] at hw
      have spt : xsup (if 1 = 0 then xBm im k1 else xTm im k1) 21 := by split <;> exact xld_sup _ _ (Nat.le_refl _)
      have hC := hC.set (i := 0) (by decide) (show xlc 0 = 64 by decide) (f := (if 1 = 0 then xBm im k1 else xTm im k1)) (xsup_mono spt (by decide))
      obtain ⟨lr2, hlr⟩ : ∃ zz9, zz9 = va_up lr1 (0) ((if 1 = 0 then xBm im k1 else xTm im k1)) := ⟨_, rfl⟩
      rw [← hlr] at hC
      have e0 : lr2 0 = (if 1 = 0 then xBm im k1 else xTm im k1) := (congrFun hlr _).trans (va_up_self _ _ _)
      rw [if_neg (by decide)] at e0
      refine lv_aload_n hx hb dX5_value_45 rfl (lv_at hl 1 rfl) ?_
      refine xw_get C hw hC.o (ci := 4) rfl iX5_value_X5 6 (by decide) (by decide +kernel) rfl dX5_value_46 ?_
      refine lv_lload_n hx hb dX5_value_49 rfl (lv_at hl 3 rfl) ?_
      refine xw_cl (xw_S (n := 1) (rest := [.ref (la 0)]) C hw (kX5_modulo l G B _ v) gX5_value_X5_modulo rfl rfl rfl (by decide +kernel) ⟨Nat.le_of_ble_eq_true rfl, Nat.le_of_ble_eq_true rfl⟩ rfl hl.1 rfl (Nat.le_of_ble_eq_true rfl) dX5_value_50 ⟨Nat.le_of_ble_eq_true rfl, Nat.le_of_ble_eq_true rfl⟩ hS) hS (fun ru u H locs hp hw hS => ?_)
      obtain ⟨hr, hu⟩ := hp
      rw [hu] at hw
      refine xw_tl (y := (xJ (xR v))) (hr) ?_
      refine xw_cl (xw_S (n := 2) (rest := []) C hw (kX5_valueAt l G B _ (la 0) (xTm im k1) (xR v) (hC.r 0 (by decide) e0)) gX5_value_X5_valueAt rfl rfl rfl (by decide +kernel) ⟨Nat.le_of_ble_eq_true rfl, Nat.le_of_ble_eq_true rfl⟩ rfl hl.1 rfl (Nat.le_of_ble_eq_true rfl) dX5_value_53 ⟨Nat.le_of_ble_eq_true rfl, Nat.le_of_ble_eq_true rfl⟩ hS) hS (fun ru u H locs hp hw hS => ?_)
      obtain ⟨hr, hu⟩ := hp
      rw [hu] at hw
      refine xw_tl (y := (xJ (xhor (xTm im k1) (xR v) 64 0))) (hr) ?_
      refine lv_lload hx hb dX5_value_56 (lv_at hl 0 rfl) ?_
      refine xw_cl (xw_S (n := 1) (rest := [.long (xJ (xhor (xTm im k1) (xR v) 64 0))]) C hw (kX5_inverse l G B _ (xhor (xBm im k1) (xR v) 64 0)) gX5_value_X5_inverse rfl rfl rfl (by decide +kernel) ⟨Nat.le_of_ble_eq_true rfl, Nat.le_of_ble_eq_true rfl⟩ rfl hl.1 rfl (Nat.le_of_ble_eq_true rfl) dX5_value_58 ⟨Nat.le_of_ble_eq_true rfl, Nat.le_of_ble_eq_true rfl⟩ hS) hS (fun ru u H locs hp hw hS => ?_)
      obtain ⟨hr, hu⟩ := hp
      rw [hu] at hw
      refine xw_tl (y := (xJ (xinv (xhor (xBm im k1) (xR v) 64 0)))) (hr) ?_
      refine lv_lmul hx hb dX5_value_61 ?_
      refine xw_ldc2 C (v := 32003) (by decide +kernel) dX5_value_62 ?_
      refine lv_lrem hx hb dX5_value_65 (by decide) ?_
      refine xw_tl (y := (xJ (xhor (xTm im k1) (xR v) 64 0 * xinv (xhor (xBm im k1) (xR v) 64 0)))) (xl_mul _ _) ?_
      refine lv_l2i (v := ((xJ (xhor (xTm im k1) (xR v) 64 0 * xinv (xhor (xBm im k1) (xR v) 64 0)))).toInt32) hx hb dX5_value_66 rfl ?_
      refine xw_ti (y := (xI (xhor (xTm im k1) (xR v) 64 0 * xinv (xhor (xBm im k1) (xR v) 64 0)))) (xJ_i _) ?_
      exact xw_iret C hw hS (Nat.le_of_ble_eq_true rfl) (Nat.le_of_ble_eq_true rfl) (Or.inr ⟨k1, hk1, rfl, Or.inr ⟨fun q => hc ((lg_cmp_eq _ _).mpr (xJ_z.mpr q)), rfl⟩, _, _, _, hC⟩) dX5_value_67
    · skip
      refine lv_iconst (v := (-1)) hx hb dX5_value_37 (by decide) ?_
      exact xw_iret C hw hS (Nat.le_of_ble_eq_true rfl) (Nat.le_of_ble_eq_true rfl) (Or.inr ⟨k1, hk1, rfl, Or.inl ⟨xJ_z.mp ((lg_cmp_eq _ _).mp hc), rfl⟩, _, _, _, hC⟩) dX5_value_38
  · skip
    rw [hu] at hw
    refine xw_ti (y := 0) (hz) ?_
    have hC := hC.setO 1 mn me hC.m50
    refine lv_if_ne (tgt := 11) hx hb dX5_value_6 (by decide) (fun hc => absurd (rfl) hc) (fun _ => ?_)
    refine lv_iconst (v := 0) hx hb dX5_value_9 (by decide) ?_
    exact xw_iret C hw hS (Nat.le_of_ble_eq_true rfl) (Nat.le_of_ble_eq_true rfl) (Or.inl ⟨fun q => hy ⟨q, q⟩, rfl, _, _, _, hC⟩) dX5_value_10

abbrev rmX5_same : Room := { frames := 3, cells := 0, slots := 0, locals := 68 }
theorem iX5_same_X5 : ∀ w ∈ wsX50, w ∈ wsX5_same := by decide +kernel
set_option maxHeartbeats 4000000 in
set_option maxRecDepth 100000 in
theorem kX5_same (l : Launch) (G : xG) (B : Nat) (w : xM) (mo : Nat) (la ia : Nat → Nat) (rq : Nat) (co : Int32) (mn : Nat) (im lr : Nat → xP) (ro : Nat → Option Nat) (me : Int32) (wr : xM) (hC : xML G w mo la ia rq co mn im lr ro me wr) (x y : Int32) : Met l yX5_same wsX5_same rmX5_same (va_Pc [.ref mo, .int x, .int y] (xB G B w)) (va_Qi (fun r u => (¬ (xIs mn x ∧ xIs mn y) ∧ r = 0 ∧ xMK G mo la ia rq 1 mn im wr u) ∨ ∃ k1 k2, k1 < mn ∧ k2 < mn ∧ x = nI k1 ∧ y = nI k2 ∧ ((r = 1 ∧ xTm im k1 = xTm im k2 ∧ xBm im k1 = xBm im k2) ∨ (r = 0 ∧ ¬ (xTm im k1 = xTm im k2 ∧ xBm im k1 = xBm im k2))) ∧ xMK G mo la ia rq 0 mn im wr u) (xE G B) (xA B)) 0 0 (xA B) := by
  refine xw_start (own := RX5) (mn := "same") (cc := cX5_same) (nL := 4) (rt := (some .boolean)) (by decide) rfl rfl rfl (Nat.le_of_ble_eq_true rfl) ?_
  intro p ev s m below meth cd ls C hl hw hS
  obtain ⟨hx, hb, -, -, -, hts, -, -, -, -⟩ := id C
  have hl : lv_has ls 4 [(0, .ref mo), (1, .int x), (2, .int y)] := hl
  refine lv_aload_n hx hb dX5_same_0 rfl (lv_at hl 0 rfl) ?_
  refine lv_iload_n hx hb dX5_same_1 rfl (lv_at hl 1 rfl) ?_
  refine lv_iload_n hx hb dX5_same_2 rfl (lv_at hl 2 rfl) ?_
  refine xw_ci (xw_V (n := 2) (rest := []) C hw (kX5_are l G B _ mo la ia rq co mn im lr ro me wr hC x y) gX5_same_X5_are rfl rfl rfl (by decide +kernel) ⟨Nat.le_of_ble_eq_true rfl, Nat.le_of_ble_eq_true rfl⟩ hC.o rfl rfl hl.1 rfl (Nat.le_of_ble_eq_true rfl) dX5_same_3 ⟨Nat.le_of_ble_eq_true rfl, Nat.le_of_ble_eq_true rfl⟩ hS) hS (fun rq9 q9 H locs hq hw hS => ?_)
  rcases hq with ⟨hz, hy, hu⟩ | ⟨hz, hy, hu⟩
  · skip
    rw [hu] at hw
    refine xw_ti (y := 1) (hz) ?_
    have hC := hC.setO 0 mn me hC.m50
    obtain ⟨⟨c1, hc1, rfl⟩, ⟨c2, hc2, rfl⟩⟩ := hy
    refine lv_if_ne (tgt := 11) hx hb dX5_same_6 (by decide) (fun _ => ?_) (fun hc => absurd hc (by decide))
    have h50 := hC.m50
    refine lv_iconst (v := 0) hx hb dX5_same_11 (by decide) ?_
    refine xw_ti (y := (nI 0)) (nI_0.symm) ?_
    refine lv_istore_n (lv' := [(3, .int (nI 0)), (0, .ref mo), (1, .int (nI c1)), (2, .int (nI c2))]) hx hb dX5_same_12 rfl hl (by decide) rfl (fun ls hl => ?_)
    have loop : ∀ (d k : Nat) (ls : Array Slot) (H : Heap) (locs : List Loc), k + d = 21 → (∀ i, i < k → im 0 (21 * c1 + i) = im 0 (21 * c2 + i) ∧ im 1 (21 * c1 + i) = im 1 (21 * c2 + i)) → xW G B (xu w mo (.inr (4, xMf la ia rq 0 mn me))) H → va_S (xA B) s.heap H locs → lv_has ls 4 [(3, .int (nI k)), (0, .ref mo), (1, .int (nI c1)), (2, .int (nI c2))] → W p l ev rmX5_same s m [.ref mo, .int (nI c1), .int (nI c2)].toArray below meth cd H locs 0 0 (MQ below (va_Qi (fun r u => (¬ (xIs mn (nI c1) ∧ xIs mn (nI c2)) ∧ r = 0 ∧ xMK G mo la ia rq 1 mn im wr u) ∨ ∃ k1 k2, k1 < mn ∧ k2 < mn ∧ (nI c1) = nI k1 ∧ (nI c2) = nI k2 ∧ ((r = 1 ∧ xTm im k1 = xTm im k2 ∧ xBm im k1 = xBm im k2) ∨ (r = 0 ∧ ¬ (xTm im k1 = xTm im k2 ∧ xBm im k1 = xBm im k2))) ∧ xMK G mo la ia rq 0 mn im wr u) (xE G B) (xA B)) [.ref mo, .int (nI c1), .int (nI c2)].toArray s 0 0 (xA B)) (F0 m 13 ls []) := by
      intro d
      induction d with
      | zero =>
        intro k ls H locs hk hko hw hS hl
        refine lv_iload_n hx hb dX5_same_13 rfl (lv_at hl 0 rfl) ?_
        refine lv_bipush (v := 21) hx hb dX5_same_14 (by decide) ?_
        refine xw_ti (y := (nI 21)) (by decide) ?_
        refine lv_icmp_ge (tgt := 77) hx hb dX5_same_16 (by decide) (fun _ => ?_) (fun hc => absurd ((nI_leI (by omega) (by omega)).mpr (by omega)) hc)
        refine lv_iconst (v := 1) hx hb dX5_same_77 (by decide) ?_
        exact xw_zret C hw hS (Nat.le_of_ble_eq_true rfl) (Nat.le_of_ble_eq_true rfl) (Or.inr rfl) (Or.inr ⟨c1, c2, hc1, hc2, rfl, rfl, Or.inl ⟨rfl, xld_eq (fun i hi => (hko i (by omega)).1), xld_eq (fun i hi => (hko i (by omega)).2)⟩, _, _, _, hC⟩) dX5_same_78
      | succ d ih =>
        intro k ls H locs hk hko hw hS hl
        refine lv_iload_n hx hb dX5_same_13 rfl (lv_at hl 0 rfl) ?_
        refine lv_bipush (v := 21) hx hb dX5_same_14 (by decide) ?_
        refine xw_ti (y := (nI 21)) (by decide) ?_
        refine lv_icmp_ge (tgt := 77) hx hb dX5_same_16 (by decide) (fun hc => absurd hc (fun q => absurd ((nI_leI (by omega) (by omega)).mp q) (by omega))) (fun _ => ?_)
        refine lv_aload_n hx hb dX5_same_19 rfl (lv_at hl 1 rfl) ?_
        refine xw_get C hw hC.o (ci := 4) rfl iX5_same_X5 2 (by decide) (by decide +kernel) rfl dX5_same_20 ?_
        refine lv_bipush (v := 21) hx hb dX5_same_23 (by decide) ?_
        refine xw_ti (y := (nI 21)) (by decide) ?_
        refine lv_iload_n hx hb dX5_same_25 rfl (lv_at hl 2 rfl) ?_
        refine lv_imul hx hb dX5_same_26 ?_
        refine xw_ti (y := (nI (21 * c1))) (pk_mul _ _) ?_
        refine lv_iload_n hx hb dX5_same_27 rfl (lv_at hl 0 rfl) ?_
        refine lv_iadd hx hb dX5_same_28 ?_
        refine xw_ti (y := (nI (21 * c1 + k))) (nI_add _ _) ?_
        refine xw_ialdN C hw (hC.i 0 (by decide) rfl) (show 21 * c1 + k < 1050 by omega) (by decide) dX5_same_29 ?_
        refine lv_aload_n hx hb dX5_same_30 rfl (lv_at hl 1 rfl) ?_
        refine xw_get C hw hC.o (ci := 4) rfl iX5_same_X5 2 (by decide) (by decide +kernel) rfl dX5_same_31 ?_
        refine lv_bipush (v := 21) hx hb dX5_same_34 (by decide) ?_
        refine xw_ti (y := (nI 21)) (by decide) ?_
        refine lv_iload_n hx hb dX5_same_36 rfl (lv_at hl 3 rfl) ?_
        refine lv_imul hx hb dX5_same_37 ?_
        refine xw_ti (y := (nI (21 * c2))) (pk_mul _ _) ?_
        refine lv_iload_n hx hb dX5_same_38 rfl (lv_at hl 0 rfl) ?_
        refine lv_iadd hx hb dX5_same_39 ?_
        refine xw_ti (y := (nI (21 * c2 + k))) (nI_add _ _) ?_
        refine xw_ialdN C hw (hC.i 0 (by decide) rfl) (show 21 * c2 + k < 1050 by omega) (by decide) dX5_same_40 ?_
        refine lv_icmp_ne (tgt := 69) hx hb dX5_same_41 (by decide) (fun hd0 => ?_) (fun hd0 => ?_)
        · skip
          refine lv_iconst (v := 0) hx hb dX5_same_69 (by decide) ?_
          exact xw_zret C hw hS (Nat.le_of_ble_eq_true rfl) (Nat.le_of_ble_eq_true rfl) (Or.inl rfl) (Or.inr ⟨c1, c2, hc1, hc2, rfl, rfl, Or.inr ⟨rfl, fun q => hd0 (congrArg xI (xld_at q.1 (show k < 21 by omega)))⟩, _, _, _, hC⟩) dX5_same_70
        · skip
          have hd0 := xI_inj hd0
          refine lv_aload_n hx hb dX5_same_44 rfl (lv_at hl 1 rfl) ?_
          refine xw_get C hw hC.o (ci := 4) rfl iX5_same_X5 3 (by decide) (by decide +kernel) rfl dX5_same_45 ?_
          refine lv_bipush (v := 21) hx hb dX5_same_48 (by decide) ?_
          refine xw_ti (y := (nI 21)) (by decide) ?_
          refine lv_iload_n hx hb dX5_same_50 rfl (lv_at hl 2 rfl) ?_
          refine lv_imul hx hb dX5_same_51 ?_
          refine xw_ti (y := (nI (21 * c1))) (pk_mul _ _) ?_
          refine lv_iload_n hx hb dX5_same_52 rfl (lv_at hl 0 rfl) ?_
          refine lv_iadd hx hb dX5_same_53 ?_
          refine xw_ti (y := (nI (21 * c1 + k))) (nI_add _ _) ?_
          refine xw_ialdN C hw (hC.i 1 (by decide) rfl) (show 21 * c1 + k < 1050 by omega) (by decide) dX5_same_54 ?_
          refine lv_aload_n hx hb dX5_same_55 rfl (lv_at hl 1 rfl) ?_
          refine xw_get C hw hC.o (ci := 4) rfl iX5_same_X5 3 (by decide) (by decide +kernel) rfl dX5_same_56 ?_
          refine lv_bipush (v := 21) hx hb dX5_same_59 (by decide) ?_
          refine xw_ti (y := (nI 21)) (by decide) ?_
          refine lv_iload_n hx hb dX5_same_61 rfl (lv_at hl 3 rfl) ?_
          refine lv_imul hx hb dX5_same_62 ?_
          refine xw_ti (y := (nI (21 * c2))) (pk_mul _ _) ?_
          refine lv_iload_n hx hb dX5_same_63 rfl (lv_at hl 0 rfl) ?_
          refine lv_iadd hx hb dX5_same_64 ?_
          refine xw_ti (y := (nI (21 * c2 + k))) (nI_add _ _) ?_
          refine xw_ialdN C hw (hC.i 1 (by decide) rfl) (show 21 * c2 + k < 1050 by omega) (by decide) dX5_same_65 ?_
          refine lv_icmp_eq (tgt := 71) hx hb dX5_same_66 (by decide) (fun hd1 => ?_) (fun hd1 => ?_)
          · skip
            have hd1 := xI_inj hd1
            refine lv_iinc (v := (nI (k + 1))) (lv' := [(3, .int (nI (k + 1))), (0, .ref mo), (1, .int (nI c1)), (2, .int (nI c2))]) hx hb dX5_same_71 hl (k := 0) rfl (x_inc k) (by decide) rfl (fun ls hl => ?_)
            refine lv_goto (tgt := 13) hx hb dX5_same_74 (by decide) ?_
            exact ih (k + 1) ls _ _ (by omega) (fun i hi => by by_cases hik : i = k; (subst hik; exact ⟨hd0, hd1⟩); exact hko i (by omega)) hw hS (lv_sub hl [0, 1, 2, 3] rfl)
          · skip
            refine lv_iconst (v := 0) hx hb dX5_same_69 (by decide) ?_
            exact xw_zret C hw hS (Nat.le_of_ble_eq_true rfl) (Nat.le_of_ble_eq_true rfl) (Or.inl rfl) (Or.inr ⟨c1, c2, hc1, hc2, rfl, rfl, Or.inr ⟨rfl, fun q => hd1 (congrArg xI (xld_at q.2 (show k < 21 by omega)))⟩, _, _, _, hC⟩) dX5_same_70
    exact loop 21 0 ls _ _ rfl (fun i hi => absurd hi (by omega)) hw hS (lv_sub hl [0, 1, 2, 3] rfl)
  · skip
    rw [hu] at hw
    refine xw_ti (y := 0) (hz) ?_
    have hC := hC.setO 1 mn me hC.m50
    refine lv_if_ne (tgt := 11) hx hb dX5_same_6 (by decide) (fun hc => absurd (rfl) hc) (fun _ => ?_)
    refine lv_iconst (v := 0) hx hb dX5_same_9 (by decide) ?_
    exact xw_zret C hw hS (Nat.le_of_ble_eq_true rfl) (Nat.le_of_ble_eq_true rfl) (Or.inl rfl) (Or.inl ⟨hy, rfl, _, _, _, hC⟩) dX5_same_10
