/-! ===== the reference: the methods that make functions, proves (laid by wip/whole/m_modl.py) ===== -/
theorem xsup_ad {f g : xP} {n : Nat} (hf : xsup f n) (hg : xsup g n) : xsup (xad f g) n := fun k hk => by show f k + g k = 0; rw [hf k hk, hg k hk]; grind
theorem xsup_sb {f g : xP} {n : Nat} (hf : xsup f n) (hg : xsup g n) : xsup (xsb f g) n := fun k hk => by show f k - g k = 0; rw [hf k hk, hg k hk]; grind
theorem x_ext64 {f g : xP} {n : Nat} (hf : xsup f n) (hg : xsup g n) (h : ∀ i, i < n → f i = g i) : f = g := by
  funext i
  by_cases hi : i < n
  · exact h i hi
  · rw [hf i (by omega), hg i (by omega)]
abbrev rmX5_number : Room := { frames := 2, cells := 0, slots := 0, locals := 43 }
theorem iX5_number_X5 : ∀ w ∈ wsX50, w ∈ wsX5_number := by decide +kernel
set_option maxHeartbeats 4000000 in
set_option maxRecDepth 100000 in
theorem kX5_number (l : Launch) (G : xG) (B : Nat) (w : xM) (mo : Nat) (la ia : Nat → Nat) (rq : Nat) (co : Int32) (mn : Nat) (im lr : Nat → xP) (ro : Nat → Option Nat) (me : Int32) (wr : xM) (hC : xML G w mo la ia rq co mn im lr ro me wr) (v : Int64) : Met l yX5_number wsX5_number rmX5_number (va_Pc [.ref mo, .long v] (xB G B w)) (va_Qi (fun r u => xKe G mo la ia rq mn im wr (va_up (fun _ => 0) 0 (xR v)) (va_up (fun _ => 0) 0 1) 1 r u) (xE G B) (xA B)) 0 0 (xA B) := by
  refine xw_start (own := RX5) (mn := "number") (cc := cX5_number) (nL := 3) (rt := (some .int)) (by decide) rfl rfl rfl (Nat.le_of_ble_eq_true rfl) ?_
  intro p ev s m below meth cd ls C hl hw hS
  obtain ⟨hx, hb, -, -, -, hts, -, -, -, -⟩ := id C
  have hl : lv_has ls 3 [(0, .ref mo), (1, .long v)] := hl
  refine lv_aload_n hx hb dX5_number_0 rfl (lv_at hl 0 rfl) ?_
  refine xw_get C hw hC.o (ci := 4) rfl iX5_number_X5 6 (by decide) (by decide +kernel) rfl dX5_number_1 ?_
  refine xw_cv (xw_S (n := 1) (rest := []) C hw (kX5_empty l G B _ (la 0) (lr 0) (hC.r 0 (by decide) rfl) (hC.rs 0 (by decide) rfl)) gX5_number_X5_empty rfl rfl rfl (by decide +kernel) ⟨Nat.le_of_ble_eq_true rfl, Nat.le_of_ble_eq_true rfl⟩ rfl hl.1 rfl (Nat.le_of_ble_eq_true rfl) dX5_number_4 ⟨Nat.le_of_ble_eq_true rfl, Nat.le_of_ble_eq_true rfl⟩ hS) hS (fun u H locs hpp hw hS => ?_)
  rw [hpp] at hw
  have hC := hC.set (i := 0) (by decide) (show xlc 0 = 64 by decide) (f := fun _ => 0) (xsup_z _)
  obtain ⟨lr1, hlr⟩ : ∃ zz9, zz9 = va_up lr (0) (fun _ => 0) := ⟨_, rfl⟩
  rw [← hlr] at hC
  have e0 : lr1 0 = fun _ => 0 := (congrFun hlr _).trans (va_up_self _ _ _)
  refine lv_aload_n hx hb dX5_number_7 rfl (lv_at hl 0 rfl) ?_
  refine xw_get C hw hC.o (ci := 4) rfl iX5_number_X5 7 (by decide) (by decide +kernel) rfl dX5_number_8 ?_
  refine xw_cv (xw_S (n := 1) (rest := []) C hw (kX5_empty l G B _ (la 1) (lr1 1) (hC.r 1 (by decide) rfl) (hC.rs 1 (by decide) rfl)) gX5_number_X5_empty rfl rfl rfl (by decide +kernel) ⟨Nat.le_of_ble_eq_true rfl, Nat.le_of_ble_eq_true rfl⟩ rfl hl.1 rfl (Nat.le_of_ble_eq_true rfl) dX5_number_11 ⟨Nat.le_of_ble_eq_true rfl, Nat.le_of_ble_eq_true rfl⟩ hS) hS (fun u H locs hpp hw hS => ?_)
  rw [hpp] at hw
  have hC := hC.set (i := 1) (by decide) (show xlc 1 = 64 by decide) (f := fun _ => 0) (xsup_z _)
  obtain ⟨lr2, hlr⟩ : ∃ zz9, zz9 = va_up lr1 (1) (fun _ => 0) := ⟨_, rfl⟩
  rw [← hlr] at hC
  have e0 : lr2 0 = fun _ => 0 := (congrFun hlr _).trans ((va_up_ne _ _ (by decide)).trans e0)
  have e1 : lr2 1 = fun _ => 0 := (congrFun hlr _).trans (va_up_self _ _ _)
  refine lv_aload_n hx hb dX5_number_14 rfl (lv_at hl 0 rfl) ?_
  refine xw_get C hw hC.o (ci := 4) rfl iX5_number_X5 6 (by decide) (by decide +kernel) rfl dX5_number_15 ?_
  refine lv_iconst (v := 0) hx hb dX5_number_18 (by decide) ?_
  refine xw_ti (y := (nI 0)) (nI_0.symm) ?_
  refine lv_lload_n hx hb dX5_number_19 rfl (lv_at hl 1 rfl) ?_
  refine xw_cl (xw_S (n := 1) (rest := [.int (nI 0), .ref (la 0)]) C hw (kX5_modulo l G B _ v) gX5_number_X5_modulo rfl rfl rfl (by decide +kernel) ⟨Nat.le_of_ble_eq_true rfl, Nat.le_of_ble_eq_true rfl⟩ rfl hl.1 rfl (Nat.le_of_ble_eq_true rfl) dX5_number_20 ⟨Nat.le_of_ble_eq_true rfl, Nat.le_of_ble_eq_true rfl⟩ hS) hS (fun ru u H locs hp hw hS => ?_)
  obtain ⟨hr, hu⟩ := hp
  rw [hu] at hw
  refine xw_tl (y := (xJ (xR v))) (hr) ?_
  refine xw_lastN C hw hS (hC.r 0 (by decide) e0) (show 0 < 64 by omega) (by decide) dX5_number_23 (fun H locs hw hS => ?_)
  rw [xrowJ_up] at hw
  have hC := hC.set (i := 0) (by decide) (show xlc 0 = 64 by decide) (f := va_up (fun _ => 0) 0 (xR v)) (xsup_up (hC.rs 0 (by decide) e0) (by omega))
  obtain ⟨lr3, hlr⟩ : ∃ zz9, zz9 = va_up lr2 (0) (va_up (fun _ => 0) 0 (xR v)) := ⟨_, rfl⟩
  rw [← hlr] at hC
  have e1 : lr3 1 = fun _ => 0 := (congrFun hlr _).trans ((va_up_ne _ _ (by decide)).trans e1)
  have e0 : lr3 0 = va_up (fun _ => 0) 0 (xR v) := (congrFun hlr _).trans (va_up_self _ _ _)
  refine lv_aload_n hx hb dX5_number_24 rfl (lv_at hl 0 rfl) ?_
  refine xw_get C hw hC.o (ci := 4) rfl iX5_number_X5 7 (by decide) (by decide +kernel) rfl dX5_number_25 ?_
  refine lv_iconst (v := 0) hx hb dX5_number_28 (by decide) ?_
  refine xw_ti (y := (nI 0)) (nI_0.symm) ?_
  refine lv_lconst (v := 1) hx hb dX5_number_29 (by decide) ?_
  refine xw_tl (y := (xJ 1)) (xJ_1.symm) ?_
  refine xw_lastN C hw hS (hC.r 1 (by decide) e1) (show 0 < 64 by omega) (by decide) dX5_number_30 (fun H locs hw hS => ?_)
  rw [xrowJ_up] at hw
  have hC := hC.set (i := 1) (by decide) (show xlc 1 = 64 by decide) (f := va_up (fun _ => 0) 0 1) (xsup_up (hC.rs 1 (by decide) e1) (by omega))
  obtain ⟨lr4, hlr⟩ : ∃ zz9, zz9 = va_up lr3 (1) (va_up (fun _ => 0) 0 1) := ⟨_, rfl⟩
  rw [← hlr] at hC
  have e0 : lr4 0 = va_up (fun _ => 0) 0 (xR v) := (congrFun hlr _).trans ((va_up_ne _ _ (by decide)).trans e0)
  have e1 : lr4 1 = va_up (fun _ => 0) 0 1 := (congrFun hlr _).trans (va_up_self _ _ _)
  refine lv_aload_n hx hb dX5_number_31 rfl (lv_at hl 0 rfl) ?_
  refine lv_iconst (v := 1) hx hb dX5_number_32 (by decide) ?_
  refine xw_ci (xw_V (n := 1) (rest := []) C hw (kX5_keep l G B _ mo la ia rq co mn im lr4 ro me wr hC (va_up (fun _ => 0) 0 (xR v)) (va_up (fun _ => 0) 0 1) e0 e1 1) gX5_number_X5_keep rfl rfl rfl (by decide +kernel) ⟨Nat.le_of_ble_eq_true rfl, Nat.le_of_ble_eq_true rfl⟩ hC.o rfl rfl hl.1 rfl (Nat.le_of_ble_eq_true rfl) dX5_number_33 ⟨Nat.le_of_ble_eq_true rfl, Nat.le_of_ble_eq_true rfl⟩ hS) hS (fun rz z H locs hz9 hw hS => ?_)
  exact xw_iret C hw hS (Nat.le_of_ble_eq_true rfl) (Nat.le_of_ble_eq_true rfl) (hz9) dX5_number_36

abbrev rmX5_letter : Room := { frames := 2, cells := 0, slots := 0, locals := 43 }
theorem iX5_letter_X5 : ∀ w ∈ wsX50, w ∈ wsX5_letter := by decide +kernel
set_option maxHeartbeats 4000000 in
set_option maxRecDepth 100000 in
theorem kX5_letter (l : Launch) (G : xG) (B : Nat) (w : xM) (mo : Nat) (la ia : Nat → Nat) (rq : Nat) (co : Int32) (mn : Nat) (im lr : Nat → xP) (ro : Nat → Option Nat) (me : Int32) (wr : xM) (hC : xML G w mo la ia rq co mn im lr ro me wr)  : Met l yX5_letter wsX5_letter rmX5_letter (va_Pc [.ref mo] (xB G B w)) (va_Qi (fun r u => xKe G mo la ia rq mn im wr (va_up (fun _ => 0) 1 1) (va_up (fun _ => 0) 0 1) 1 r u) (xE G B) (xA B)) 0 0 (xA B) := by
  refine xw_start (own := RX5) (mn := "letter") (cc := cX5_letter) (nL := 1) (rt := (some .int)) (by decide) rfl rfl rfl (Nat.le_of_ble_eq_true rfl) ?_
  intro p ev s m below meth cd ls C hl hw hS
  obtain ⟨hx, hb, -, -, -, hts, -, -, -, -⟩ := id C
  have hl : lv_has ls 1 [(0, .ref mo)] := hl
  refine lv_aload_n hx hb dX5_letter_0 rfl (lv_at hl 0 rfl) ?_
  refine xw_get C hw hC.o (ci := 4) rfl iX5_letter_X5 6 (by decide) (by decide +kernel) rfl dX5_letter_1 ?_
  refine xw_cv (xw_S (n := 1) (rest := []) C hw (kX5_empty l G B _ (la 0) (lr 0) (hC.r 0 (by decide) rfl) (hC.rs 0 (by decide) rfl)) gX5_letter_X5_empty rfl rfl rfl (by decide +kernel) ⟨Nat.le_of_ble_eq_true rfl, Nat.le_of_ble_eq_true rfl⟩ rfl hl.1 rfl (Nat.le_of_ble_eq_true rfl) dX5_letter_4 ⟨Nat.le_of_ble_eq_true rfl, Nat.le_of_ble_eq_true rfl⟩ hS) hS (fun u H locs hpp hw hS => ?_)
  rw [hpp] at hw
  have hC := hC.set (i := 0) (by decide) (show xlc 0 = 64 by decide) (f := fun _ => 0) (xsup_z _)
  obtain ⟨lr1, hlr⟩ : ∃ zz9, zz9 = va_up lr (0) (fun _ => 0) := ⟨_, rfl⟩
  rw [← hlr] at hC
  have e0 : lr1 0 = fun _ => 0 := (congrFun hlr _).trans (va_up_self _ _ _)
  refine lv_aload_n hx hb dX5_letter_7 rfl (lv_at hl 0 rfl) ?_
  refine xw_get C hw hC.o (ci := 4) rfl iX5_letter_X5 7 (by decide) (by decide +kernel) rfl dX5_letter_8 ?_
  refine xw_cv (xw_S (n := 1) (rest := []) C hw (kX5_empty l G B _ (la 1) (lr1 1) (hC.r 1 (by decide) rfl) (hC.rs 1 (by decide) rfl)) gX5_letter_X5_empty rfl rfl rfl (by decide +kernel) ⟨Nat.le_of_ble_eq_true rfl, Nat.le_of_ble_eq_true rfl⟩ rfl hl.1 rfl (Nat.le_of_ble_eq_true rfl) dX5_letter_11 ⟨Nat.le_of_ble_eq_true rfl, Nat.le_of_ble_eq_true rfl⟩ hS) hS (fun u H locs hpp hw hS => ?_)
  rw [hpp] at hw
  have hC := hC.set (i := 1) (by decide) (show xlc 1 = 64 by decide) (f := fun _ => 0) (xsup_z _)
  obtain ⟨lr2, hlr⟩ : ∃ zz9, zz9 = va_up lr1 (1) (fun _ => 0) := ⟨_, rfl⟩
  rw [← hlr] at hC
  have e0 : lr2 0 = fun _ => 0 := (congrFun hlr _).trans ((va_up_ne _ _ (by decide)).trans e0)
  have e1 : lr2 1 = fun _ => 0 := (congrFun hlr _).trans (va_up_self _ _ _)
  refine lv_aload_n hx hb dX5_letter_14 rfl (lv_at hl 0 rfl) ?_
  refine xw_get C hw hC.o (ci := 4) rfl iX5_letter_X5 6 (by decide) (by decide +kernel) rfl dX5_letter_15 ?_
  refine lv_iconst (v := 1) hx hb dX5_letter_18 (by decide) ?_
  refine xw_ti (y := (nI 1)) (by decide) ?_
  refine lv_lconst (v := 1) hx hb dX5_letter_19 (by decide) ?_
  refine xw_tl (y := (xJ 1)) (xJ_1.symm) ?_
  refine xw_lastN C hw hS (hC.r 0 (by decide) e0) (show 1 < 64 by omega) (by decide) dX5_letter_20 (fun H locs hw hS => ?_)
  rw [xrowJ_up] at hw
  have hC := hC.set (i := 0) (by decide) (show xlc 0 = 64 by decide) (f := va_up (fun _ => 0) 1 1) (xsup_up (hC.rs 0 (by decide) e0) (by omega))
  obtain ⟨lr3, hlr⟩ : ∃ zz9, zz9 = va_up lr2 (0) (va_up (fun _ => 0) 1 1) := ⟨_, rfl⟩
  rw [← hlr] at hC
  have e1 : lr3 1 = fun _ => 0 := (congrFun hlr _).trans ((va_up_ne _ _ (by decide)).trans e1)
  have e0 : lr3 0 = va_up (fun _ => 0) 1 1 := (congrFun hlr _).trans (va_up_self _ _ _)
  refine lv_aload_n hx hb dX5_letter_21 rfl (lv_at hl 0 rfl) ?_
  refine xw_get C hw hC.o (ci := 4) rfl iX5_letter_X5 7 (by decide) (by decide +kernel) rfl dX5_letter_22 ?_
  refine lv_iconst (v := 0) hx hb dX5_letter_25 (by decide) ?_
  refine xw_ti (y := (nI 0)) (nI_0.symm) ?_
  refine lv_lconst (v := 1) hx hb dX5_letter_26 (by decide) ?_
  refine xw_tl (y := (xJ 1)) (xJ_1.symm) ?_
  refine xw_lastN C hw hS (hC.r 1 (by decide) e1) (show 0 < 64 by omega) (by decide) dX5_letter_27 (fun H locs hw hS => ?_)
  rw [xrowJ_up] at hw
  have hC := hC.set (i := 1) (by decide) (show xlc 1 = 64 by decide) (f := va_up (fun _ => 0) 0 1) (xsup_up (hC.rs 1 (by decide) e1) (by omega))
  obtain ⟨lr4, hlr⟩ : ∃ zz9, zz9 = va_up lr3 (1) (va_up (fun _ => 0) 0 1) := ⟨_, rfl⟩
  rw [← hlr] at hC
  have e0 : lr4 0 = va_up (fun _ => 0) 1 1 := (congrFun hlr _).trans ((va_up_ne _ _ (by decide)).trans e0)
  have e1 : lr4 1 = va_up (fun _ => 0) 0 1 := (congrFun hlr _).trans (va_up_self _ _ _)
  refine lv_aload_n hx hb dX5_letter_28 rfl (lv_at hl 0 rfl) ?_
  refine lv_iconst (v := 1) hx hb dX5_letter_29 (by decide) ?_
  refine xw_ci (xw_V (n := 1) (rest := []) C hw (kX5_keep l G B _ mo la ia rq co mn im lr4 ro me wr hC (va_up (fun _ => 0) 1 1) (va_up (fun _ => 0) 0 1) e0 e1 1) gX5_letter_X5_keep rfl rfl rfl (by decide +kernel) ⟨Nat.le_of_ble_eq_true rfl, Nat.le_of_ble_eq_true rfl⟩ hC.o rfl rfl hl.1 rfl (Nat.le_of_ble_eq_true rfl) dX5_letter_30 ⟨Nat.le_of_ble_eq_true rfl, Nat.le_of_ble_eq_true rfl⟩ hS) hS (fun rz z H locs hz9 hw hS => ?_)
  exact xw_iret C hw hS (Nat.le_of_ble_eq_true rfl) (Nat.le_of_ble_eq_true rfl) (hz9) dX5_letter_33

abbrev rmX5_sum : Room := { frames := 3, cells := 0, slots := 0, locals := 78 }
theorem iX5_sum_X5 : ∀ w ∈ wsX50, w ∈ wsX5_sum := by decide +kernel
set_option maxHeartbeats 4000000 in
set_option maxRecDepth 100000 in
theorem kX5_sum (l : Launch) (G : xG) (B : Nat) (w : xM) (mo : Nat) (la ia : Nat → Nat) (rq : Nat) (co : Int32) (mn : Nat) (im lr : Nat → xP) (ro : Nat → Option Nat) (me : Int32) (wr : xM) (hC : xML G w mo la ia rq co mn im lr ro me wr) (hF : ∀ k, k < mn → xlen (xBm im k) 64 ≠ 0) (k1 k2 : Nat) (hk1 : k1 < mn) (hk2 : k2 < mn) : Met l yX5_sum wsX5_sum rmX5_sum (va_Pc [.ref mo, .int (nI k1), .int (nI k2)] (xB G B w)) (va_Qv (fun u => ∃ lr2, xML G u mo la ia rq co mn im lr2 ro me wr ∧ lr2 0 = xnT (xad (xmul (xTm im k2) (xBm im k1)) (xmul (xTm im k1) (xBm im k2))) (xmul (xBm im k2) (xBm im k1)) ∧ lr2 1 = xnB (xad (xmul (xTm im k2) (xBm im k1)) (xmul (xTm im k1) (xBm im k2))) (xmul (xBm im k2) (xBm im k1))) (xE G B) (xA B)) 0 0 (xA B) := by
  refine xw_start (own := RX5) (mn := "sum") (cc := cX5_sum) (nL := 4) (rt := none) (by decide) rfl rfl rfl (Nat.le_of_ble_eq_true rfl) ?_
  intro p ev s m below meth cd ls C hl hw hS
  obtain ⟨hx, hb, -, -, -, hts, -, -, -, -⟩ := id C
  have hl : lv_has ls 4 [(0, .ref mo), (1, .int (nI k1)), (2, .int (nI k2))] := hl
  have sTk1 : xsup (xTm im k1) 21 := xld_sup _ _ (Nat.le_refl _)
  have sBk1 : xsup (xBm im k1) 21 := xld_sup _ _ (Nat.le_refl _)
  have sTk2 : xsup (xTm im k2) 21 := xld_sup _ _ (Nat.le_refl _)
  have sBk2 : xsup (xBm im k2) 21 := xld_sup _ _ (Nat.le_refl _)
  refine lv_aload_n hx hb dX5_sum_0 rfl (lv_at hl 0 rfl) ?_
  refine lv_aload_n hx hb dX5_sum_1 rfl (lv_at hl 0 rfl) ?_
  refine xw_get C hw hC.o (ci := 4) rfl iX5_sum_X5 6 (by decide) (by decide +kernel) rfl dX5_sum_2 ?_
  refine lv_iload_n hx hb dX5_sum_5 rfl (lv_at hl 1 rfl) ?_
  refine xw_cv (xw_V (n := 2) (rest := []) C hw (kX5_loadTop l G B _ mo la ia rq co mn im lr ro me wr hC 0 (by decide) (lr 0) rfl k1 hk1) gX5_sum_X5_loadTop rfl rfl rfl (by decide +kernel) ⟨Nat.le_of_ble_eq_true rfl, Nat.le_of_ble_eq_true rfl⟩ hC.o rfl rfl hl.1 rfl (Nat.le_of_ble_eq_true rfl) dX5_sum_6 ⟨Nat.le_of_ble_eq_true rfl, Nat.le_of_ble_eq_true rfl⟩ hS) hS (fun u H locs hpp hw hS => ?_)
  rw [hpp] at hw
  have hC := hC.set (i := 0) (by decide) (show xlc 0 = 64 by decide) (f := xTm im k1) (xld_sup _ _ (by decide))
  obtain ⟨lr1, hlr⟩ : ∃ zz9, zz9 = va_up lr (0) (xTm im k1) := ⟨_, rfl⟩
  rw [← hlr] at hC
  have e0 : lr1 0 = xTm im k1 := (congrFun hlr _).trans (va_up_self _ _ _)
  refine lv_aload_n hx hb dX5_sum_9 rfl (lv_at hl 0 rfl) ?_
  refine lv_aload_n hx hb dX5_sum_10 rfl (lv_at hl 0 rfl) ?_
  refine xw_get C hw hC.o (ci := 4) rfl iX5_sum_X5 7 (by decide) (by decide +kernel) rfl dX5_sum_11 ?_
  refine lv_iload_n hx hb dX5_sum_14 rfl (lv_at hl 2 rfl) ?_
  refine xw_cv (xw_V (n := 2) (rest := []) C hw (kX5_loadBottom l G B _ mo la ia rq co mn im lr1 ro me wr hC 1 (by decide) (lr1 1) rfl k2 hk2) gX5_sum_X5_loadBottom rfl rfl rfl (by decide +kernel) ⟨Nat.le_of_ble_eq_true rfl, Nat.le_of_ble_eq_true rfl⟩ hC.o rfl rfl hl.1 rfl (Nat.le_of_ble_eq_true rfl) dX5_sum_15 ⟨Nat.le_of_ble_eq_true rfl, Nat.le_of_ble_eq_true rfl⟩ hS) hS (fun u H locs hpp hw hS => ?_)
  rw [hpp] at hw
  have hC := hC.set (i := 1) (by decide) (show xlc 1 = 64 by decide) (f := xBm im k2) (xld_sup _ _ (by decide))
  obtain ⟨lr2, hlr⟩ : ∃ zz9, zz9 = va_up lr1 (1) (xBm im k2) := ⟨_, rfl⟩
  rw [← hlr] at hC
  have e0 : lr2 0 = xTm im k1 := (congrFun hlr _).trans ((va_up_ne _ _ (by decide)).trans e0)
  have e1 : lr2 1 = xBm im k2 := (congrFun hlr _).trans (va_up_self _ _ _)
  refine lv_aload_n hx hb dX5_sum_18 rfl (lv_at hl 0 rfl) ?_
  refine lv_aload_n hx hb dX5_sum_19 rfl (lv_at hl 0 rfl) ?_
  refine xw_get C hw hC.o (ci := 4) rfl iX5_sum_X5 6 (by decide) (by decide +kernel) rfl dX5_sum_20 ?_
  refine lv_aload_n hx hb dX5_sum_23 rfl (lv_at hl 0 rfl) ?_
  refine xw_get C hw hC.o (ci := 4) rfl iX5_sum_X5 7 (by decide) (by decide +kernel) rfl dX5_sum_24 ?_
  refine xw_cv (xw_V (n := 2) (rest := []) C hw (kX5_multiply l G B _ mo la ia rq co mn im lr2 ro me wr hC 0 1 (by decide) (by decide) (by decide) (by decide) (xTm im k1) (xBm im k2) e0 e1 (Nat.le_trans (Nat.add_le_add (xlen_sle sTk1) (xlen_sle sBk2)) (by decide))) gX5_sum_X5_multiply rfl rfl rfl (by decide +kernel) ⟨Nat.le_of_ble_eq_true rfl, Nat.le_of_ble_eq_true rfl⟩ hC.o rfl rfl hl.1 rfl (Nat.le_of_ble_eq_true rfl) dX5_sum_27 ⟨Nat.le_of_ble_eq_true rfl, Nat.le_of_ble_eq_true rfl⟩ hS) hS (fun u H locs hpp hw hS => ?_)
  rw [hpp] at hw
  have hC := hC.set (i := 5) (by decide) (show xlc 5 = 64 by decide) (f := xmul (xTm im k1) (xBm im k2)) (xmul_s64 (hC.rs 0 (by decide) e0) (hC.rs 1 (by decide) e1) (Nat.le_trans (Nat.add_le_add (xlen_sle sTk1) (xlen_sle sBk2)) (by decide)))
  obtain ⟨lr3, hlr⟩ : ∃ zz9, zz9 = va_up lr2 (5) (xmul (xTm im k1) (xBm im k2)) := ⟨_, rfl⟩
  rw [← hlr] at hC
  have e0 : lr3 0 = xTm im k1 := (congrFun hlr _).trans ((va_up_ne _ _ (by decide)).trans e0)
  have e1 : lr3 1 = xBm im k2 := (congrFun hlr _).trans ((va_up_ne _ _ (by decide)).trans e1)
  have e5 : lr3 5 = xmul (xTm im k1) (xBm im k2) := (congrFun hlr _).trans (va_up_self _ _ _)
  refine lv_aload_n hx hb dX5_sum_30 rfl (lv_at hl 0 rfl) ?_
  refine xw_get C hw hC.o (ci := 4) rfl iX5_sum_X5 8 (by decide) (by decide +kernel) rfl dX5_sum_31 ?_
  refine lv_aload_n hx hb dX5_sum_34 rfl (lv_at hl 0 rfl) ?_
  refine xw_get C hw hC.o (ci := 4) rfl iX5_sum_X5 11 (by decide) (by decide +kernel) rfl dX5_sum_35 ?_
  refine xw_cv (xw_S (n := 2) (rest := []) C hw (kX5_copy l G B _ (la 2) (la 5) (lr3 2) (xmul (xTm im k1) (xBm im k2)) (hC.r 2 (by decide) rfl) (hC.r 5 (by decide) e5) (hC.ln (by decide) (by decide) (by decide)) (hC.rs 2 (by decide) rfl) (hC.rs 5 (by decide) e5)) gX5_sum_X5_copy rfl rfl rfl (by decide +kernel) ⟨Nat.le_of_ble_eq_true rfl, Nat.le_of_ble_eq_true rfl⟩ rfl hl.1 rfl (Nat.le_of_ble_eq_true rfl) dX5_sum_38 ⟨Nat.le_of_ble_eq_true rfl, Nat.le_of_ble_eq_true rfl⟩ hS) hS (fun u H locs hpp hw hS => ?_)
  rw [hpp] at hw
  have hC := hC.set (i := 2) (by decide) (show xlc 2 = 64 by decide) (f := xmul (xTm im k1) (xBm im k2)) ((hC.rs 5 (by decide) e5))
  obtain ⟨lr4, hlr⟩ : ∃ zz9, zz9 = va_up lr3 (2) (xmul (xTm im k1) (xBm im k2)) := ⟨_, rfl⟩
  rw [← hlr] at hC
  have e0 : lr4 0 = xTm im k1 := (congrFun hlr _).trans ((va_up_ne _ _ (by decide)).trans e0)
  have e1 : lr4 1 = xBm im k2 := (congrFun hlr _).trans ((va_up_ne _ _ (by decide)).trans e1)
  have e5 : lr4 5 = xmul (xTm im k1) (xBm im k2) := (congrFun hlr _).trans ((va_up_ne _ _ (by decide)).trans e5)
  have e2 : lr4 2 = xmul (xTm im k1) (xBm im k2) := (congrFun hlr _).trans (va_up_self _ _ _)
  refine lv_aload_n hx hb dX5_sum_41 rfl (lv_at hl 0 rfl) ?_
  refine lv_aload_n hx hb dX5_sum_42 rfl (lv_at hl 0 rfl) ?_
  refine xw_get C hw hC.o (ci := 4) rfl iX5_sum_X5 6 (by decide) (by decide +kernel) rfl dX5_sum_43 ?_
  refine lv_iload_n hx hb dX5_sum_46 rfl (lv_at hl 2 rfl) ?_
  refine xw_cv (xw_V (n := 2) (rest := []) C hw (kX5_loadTop l G B _ mo la ia rq co mn im lr4 ro me wr hC 0 (by decide) (xTm im k1) e0 k2 hk2) gX5_sum_X5_loadTop rfl rfl rfl (by decide +kernel) ⟨Nat.le_of_ble_eq_true rfl, Nat.le_of_ble_eq_true rfl⟩ hC.o rfl rfl hl.1 rfl (Nat.le_of_ble_eq_true rfl) dX5_sum_47 ⟨Nat.le_of_ble_eq_true rfl, Nat.le_of_ble_eq_true rfl⟩ hS) hS (fun u H locs hpp hw hS => ?_)
  rw [hpp] at hw
  have hC := hC.set (i := 0) (by decide) (show xlc 0 = 64 by decide) (f := xTm im k2) (xld_sup _ _ (by decide))
  obtain ⟨lr5, hlr⟩ : ∃ zz9, zz9 = va_up lr4 (0) (xTm im k2) := ⟨_, rfl⟩
  rw [← hlr] at hC
  have e1 : lr5 1 = xBm im k2 := (congrFun hlr _).trans ((va_up_ne _ _ (by decide)).trans e1)
  have e5 : lr5 5 = xmul (xTm im k1) (xBm im k2) := (congrFun hlr _).trans ((va_up_ne _ _ (by decide)).trans e5)
  have e2 : lr5 2 = xmul (xTm im k1) (xBm im k2) := (congrFun hlr _).trans ((va_up_ne _ _ (by decide)).trans e2)
  have e0 : lr5 0 = xTm im k2 := (congrFun hlr _).trans (va_up_self _ _ _)
  refine lv_aload_n hx hb dX5_sum_50 rfl (lv_at hl 0 rfl) ?_
  refine lv_aload_n hx hb dX5_sum_51 rfl (lv_at hl 0 rfl) ?_
  refine xw_get C hw hC.o (ci := 4) rfl iX5_sum_X5 9 (by decide) (by decide +kernel) rfl dX5_sum_52 ?_
  refine lv_iload_n hx hb dX5_sum_55 rfl (lv_at hl 1 rfl) ?_
  refine xw_cv (xw_V (n := 2) (rest := []) C hw (kX5_loadBottom l G B _ mo la ia rq co mn im lr5 ro me wr hC 3 (by decide) (lr5 3) rfl k1 hk1) gX5_sum_X5_loadBottom rfl rfl rfl (by decide +kernel) ⟨Nat.le_of_ble_eq_true rfl, Nat.le_of_ble_eq_true rfl⟩ hC.o rfl rfl hl.1 rfl (Nat.le_of_ble_eq_true rfl) dX5_sum_56 ⟨Nat.le_of_ble_eq_true rfl, Nat.le_of_ble_eq_true rfl⟩ hS) hS (fun u H locs hpp hw hS => ?_)
  rw [hpp] at hw
  have hC := hC.set (i := 3) (by decide) (show xlc 3 = 64 by decide) (f := xBm im k1) (xld_sup _ _ (by decide))
  obtain ⟨lr6, hlr⟩ : ∃ zz9, zz9 = va_up lr5 (3) (xBm im k1) := ⟨_, rfl⟩
  rw [← hlr] at hC
  have e1 : lr6 1 = xBm im k2 := (congrFun hlr _).trans ((va_up_ne _ _ (by decide)).trans e1)
  have e5 : lr6 5 = xmul (xTm im k1) (xBm im k2) := (congrFun hlr _).trans ((va_up_ne _ _ (by decide)).trans e5)
  have e2 : lr6 2 = xmul (xTm im k1) (xBm im k2) := (congrFun hlr _).trans ((va_up_ne _ _ (by decide)).trans e2)
  have e0 : lr6 0 = xTm im k2 := (congrFun hlr _).trans ((va_up_ne _ _ (by decide)).trans e0)
  have e3 : lr6 3 = xBm im k1 := (congrFun hlr _).trans (va_up_self _ _ _)
  refine lv_aload_n hx hb dX5_sum_59 rfl (lv_at hl 0 rfl) ?_
  refine lv_aload_n hx hb dX5_sum_60 rfl (lv_at hl 0 rfl) ?_
  refine xw_get C hw hC.o (ci := 4) rfl iX5_sum_X5 6 (by decide) (by decide +kernel) rfl dX5_sum_61 ?_
  refine lv_aload_n hx hb dX5_sum_64 rfl (lv_at hl 0 rfl) ?_
  refine xw_get C hw hC.o (ci := 4) rfl iX5_sum_X5 9 (by decide) (by decide +kernel) rfl dX5_sum_65 ?_
  refine xw_cv (xw_V (n := 2) (rest := []) C hw (kX5_multiply l G B _ mo la ia rq co mn im lr6 ro me wr hC 0 3 (by decide) (by decide) (by decide) (by decide) (xTm im k2) (xBm im k1) e0 e3 (Nat.le_trans (Nat.add_le_add (xlen_sle sTk2) (xlen_sle sBk1)) (by decide))) gX5_sum_X5_multiply rfl rfl rfl (by decide +kernel) ⟨Nat.le_of_ble_eq_true rfl, Nat.le_of_ble_eq_true rfl⟩ hC.o rfl rfl hl.1 rfl (Nat.le_of_ble_eq_true rfl) dX5_sum_68 ⟨Nat.le_of_ble_eq_true rfl, Nat.le_of_ble_eq_true rfl⟩ hS) hS (fun u H locs hpp hw hS => ?_)
  rw [hpp] at hw
  have hC := hC.set (i := 5) (by decide) (show xlc 5 = 64 by decide) (f := xmul (xTm im k2) (xBm im k1)) (xmul_s64 (hC.rs 0 (by decide) e0) (hC.rs 3 (by decide) e3) (Nat.le_trans (Nat.add_le_add (xlen_sle sTk2) (xlen_sle sBk1)) (by decide)))
  obtain ⟨lr7, hlr⟩ : ∃ zz9, zz9 = va_up lr6 (5) (xmul (xTm im k2) (xBm im k1)) := ⟨_, rfl⟩
  rw [← hlr] at hC
  have e1 : lr7 1 = xBm im k2 := (congrFun hlr _).trans ((va_up_ne _ _ (by decide)).trans e1)
  have e2 : lr7 2 = xmul (xTm im k1) (xBm im k2) := (congrFun hlr _).trans ((va_up_ne _ _ (by decide)).trans e2)
  have e0 : lr7 0 = xTm im k2 := (congrFun hlr _).trans ((va_up_ne _ _ (by decide)).trans e0)
  have e3 : lr7 3 = xBm im k1 := (congrFun hlr _).trans ((va_up_ne _ _ (by decide)).trans e3)
  have e5 : lr7 5 = xmul (xTm im k2) (xBm im k1) := (congrFun hlr _).trans (va_up_self _ _ _)
  refine lv_iconst (v := 0) hx hb dX5_sum_71 (by decide) ?_
  refine xw_ti (y := (nI 0)) (nI_0.symm) ?_
  refine lv_istore_n (lv' := [(3, .int (nI 0)), (0, .ref mo), (1, .int (nI k1)), (2, .int (nI k2))]) hx hb dX5_sum_72 rfl hl (by decide) rfl (fun ls hl => ?_)
  have sF : xsup (xad (xmul (xTm im k2) (xBm im k1)) (xmul (xTm im k1) (xBm im k2))) 64 := xsup_ad (hC.rs 5 (by decide) e5) (hC.rs 2 (by decide) e2)
  have sf0 : xsup (xTm im k2) 64 := (hC.rs 0 (by decide) e0)
  have loop73 : ∀ (d k : Nat) (w1 : xM) (lr5 : Nat → xP) (ls : Array Slot) (H : Heap) (locs : List Loc), k + d = 64 → xML G w1 mo la ia rq co mn im lr5 ro me wr → lr5 0 = xmix (xad (xmul (xTm im k2) (xBm im k1)) (xmul (xTm im k1) (xBm im k2))) (xTm im k2) k → lr5 1 = xBm im k2 → lr5 2 = xmul (xTm im k1) (xBm im k2) → lr5 3 = xBm im k1 → lr5 5 = xmul (xTm im k2) (xBm im k1) → xW G B w1 H → va_S (xA B) s.heap H locs → lv_has ls 4 [(3, .int (nI k)), (0, .ref mo), (1, .int (nI k1)), (2, .int (nI k2))] → W p l ev rmX5_sum s m [.ref mo, .int (nI k1), .int (nI k2)].toArray below meth cd H locs 0 0 (MQ below (va_Qv (fun u => ∃ lr2, xML G u mo la ia rq co mn im lr2 ro me wr ∧ lr2 0 = xnT (xad (xmul (xTm im k2) (xBm im k1)) (xmul (xTm im k1) (xBm im k2))) (xmul (xBm im k2) (xBm im k1)) ∧ lr2 1 = xnB (xad (xmul (xTm im k2) (xBm im k1)) (xmul (xTm im k1) (xBm im k2))) (xmul (xBm im k2) (xBm im k1))) (xE G B) (xA B)) [.ref mo, .int (nI k1), .int (nI k2)].toArray s 0 0 (xA B)) (F0 m 73 ls []) := by
    intro d
    induction d with
    | zero =>
      intro k w1 lr5 ls H locs hk hC ez e1 e2 e3 e5 hw hS hl
      refine lv_iload_n hx hb dX5_sum_73 rfl (lv_at hl 0 rfl) ?_
      refine lv_bipush (v := 64) hx hb dX5_sum_74 (by decide) ?_
      refine xw_ti (y := (nI 64)) (by decide) ?_
      refine lv_icmp_ge (tgt := 108) hx hb dX5_sum_76 (by decide) (fun _ => ?_) (fun hc => absurd ((nI_leI (by omega) (by omega)).mpr (by omega)) hc)
      have e0 : lr5 0 = xad (xmul (xTm im k2) (xBm im k1)) (xmul (xTm im k1) (xBm im k2)) := by rw [ez, show k = 64 by omega, xmix_e sF sf0]
      refine lv_aload_n hx hb dX5_sum_108 rfl (lv_at hl 1 rfl) ?_
      refine lv_aload_n hx hb dX5_sum_109 rfl (lv_at hl 1 rfl) ?_
      refine xw_get C hw hC.o (ci := 4) rfl iX5_sum_X5 7 (by decide) (by decide +kernel) rfl dX5_sum_110 ?_
      refine lv_aload_n hx hb dX5_sum_113 rfl (lv_at hl 1 rfl) ?_
      refine xw_get C hw hC.o (ci := 4) rfl iX5_sum_X5 9 (by decide) (by decide +kernel) rfl dX5_sum_114 ?_
      refine xw_cv (xw_V (n := 2) (rest := []) C hw (kX5_multiply l G B _ mo la ia rq co mn im lr5 ro me wr hC 1 3 (by decide) (by decide) (by decide) (by decide) (xBm im k2) (xBm im k1) e1 e3 (Nat.le_trans (Nat.add_le_add (xlen_sle sBk2) (xlen_sle sBk1)) (by decide))) gX5_sum_X5_multiply rfl rfl rfl (by decide +kernel) ⟨Nat.le_of_ble_eq_true rfl, Nat.le_of_ble_eq_true rfl⟩ hC.o rfl rfl hl.1 rfl (Nat.le_of_ble_eq_true rfl) dX5_sum_117 ⟨Nat.le_of_ble_eq_true rfl, Nat.le_of_ble_eq_true rfl⟩ hS) hS (fun u H locs hpp hw hS => ?_)
      rw [hpp] at hw
      have hC := hC.set (i := 5) (by decide) (show xlc 5 = 64 by decide) (f := xmul (xBm im k2) (xBm im k1)) (xmul_s64 (hC.rs 1 (by decide) e1) (hC.rs 3 (by decide) e3) (Nat.le_trans (Nat.add_le_add (xlen_sle sBk2) (xlen_sle sBk1)) (by decide)))
      obtain ⟨lr8, hlr⟩ : ∃ zz9, zz9 = va_up lr5 (5) (xmul (xBm im k2) (xBm im k1)) := ⟨_, rfl⟩
      rw [← hlr] at hC
      have e1 : lr8 1 = xBm im k2 := (congrFun hlr _).trans ((va_up_ne _ _ (by decide)).trans e1)
      have e2 : lr8 2 = xmul (xTm im k1) (xBm im k2) := (congrFun hlr _).trans ((va_up_ne _ _ (by decide)).trans e2)
      have e3 : lr8 3 = xBm im k1 := (congrFun hlr _).trans ((va_up_ne _ _ (by decide)).trans e3)
      have e0 : lr8 0 = xad (xmul (xTm im k2) (xBm im k1)) (xmul (xTm im k1) (xBm im k2)) := (congrFun hlr _).trans ((va_up_ne _ _ (by decide)).trans e0)
      have e5 : lr8 5 = xmul (xBm im k2) (xBm im k1) := (congrFun hlr _).trans (va_up_self _ _ _)
      refine lv_aload_n hx hb dX5_sum_120 rfl (lv_at hl 1 rfl) ?_
      refine xw_get C hw hC.o (ci := 4) rfl iX5_sum_X5 7 (by decide) (by decide +kernel) rfl dX5_sum_121 ?_
      refine lv_aload_n hx hb dX5_sum_124 rfl (lv_at hl 1 rfl) ?_
      refine xw_get C hw hC.o (ci := 4) rfl iX5_sum_X5 11 (by decide) (by decide +kernel) rfl dX5_sum_125 ?_
      refine xw_cv (xw_S (n := 2) (rest := []) C hw (kX5_copy l G B _ (la 1) (la 5) (xBm im k2) (xmul (xBm im k2) (xBm im k1)) (hC.r 1 (by decide) e1) (hC.r 5 (by decide) e5) (hC.ln (by decide) (by decide) (by decide)) (hC.rs 1 (by decide) e1) (hC.rs 5 (by decide) e5)) gX5_sum_X5_copy rfl rfl rfl (by decide +kernel) ⟨Nat.le_of_ble_eq_true rfl, Nat.le_of_ble_eq_true rfl⟩ rfl hl.1 rfl (Nat.le_of_ble_eq_true rfl) dX5_sum_128 ⟨Nat.le_of_ble_eq_true rfl, Nat.le_of_ble_eq_true rfl⟩ hS) hS (fun u H locs hpp hw hS => ?_)
      rw [hpp] at hw
      have hC := hC.set (i := 1) (by decide) (show xlc 1 = 64 by decide) (f := xmul (xBm im k2) (xBm im k1)) ((hC.rs 5 (by decide) e5))
      obtain ⟨lr9, hlr⟩ : ∃ zz9, zz9 = va_up lr8 (1) (xmul (xBm im k2) (xBm im k1)) := ⟨_, rfl⟩
      rw [← hlr] at hC
      have e2 : lr9 2 = xmul (xTm im k1) (xBm im k2) := (congrFun hlr _).trans ((va_up_ne _ _ (by decide)).trans e2)
      have e3 : lr9 3 = xBm im k1 := (congrFun hlr _).trans ((va_up_ne _ _ (by decide)).trans e3)
      have e0 : lr9 0 = xad (xmul (xTm im k2) (xBm im k1)) (xmul (xTm im k1) (xBm im k2)) := (congrFun hlr _).trans ((va_up_ne _ _ (by decide)).trans e0)
      have e5 : lr9 5 = xmul (xBm im k2) (xBm im k1) := (congrFun hlr _).trans ((va_up_ne _ _ (by decide)).trans e5)
      have e1 : lr9 1 = xmul (xBm im k2) (xBm im k1) := (congrFun hlr _).trans (va_up_self _ _ _)
      refine lv_aload_n hx hb dX5_sum_131 rfl (lv_at hl 1 rfl) ?_
      refine xw_cv (xw_V (n := 0) (rest := []) C hw (kX5_lowest l G B _ mo la ia rq co mn im lr9 ro me wr hC (xad (xmul (xTm im k2) (xBm im k1)) (xmul (xTm im k1) (xBm im k2))) (xmul (xBm im k2) (xBm im k1)) e0 e1 (xlen_mul_ne sBk2 sBk1 (by decide) (by decide) (by decide) (hF k2 hk2) (hF k1 hk1))) gX5_sum_X5_lowest rfl rfl rfl (by decide +kernel) ⟨Nat.le_of_ble_eq_true rfl, Nat.le_of_ble_eq_true rfl⟩ hC.o rfl rfl hl.1 rfl (Nat.le_of_ble_eq_true rfl) dX5_sum_132 ⟨Nat.le_of_ble_eq_true rfl, Nat.le_of_ble_eq_true rfl⟩ hS) hS (fun u9 H locs hq hw hS => ?_)
      obtain ⟨lr10, hC, e0, e1, hkl⟩ := hq
      exact xw_vret C hw hS (Nat.le_of_ble_eq_true rfl) (Nat.le_of_ble_eq_true rfl) (⟨_, hC, e0, e1⟩) dX5_sum_135
    | succ d ih73 =>
      intro k w1 lr5 ls H locs hk hC ez e1 e2 e3 e5 hw hS hl
      refine lv_iload_n hx hb dX5_sum_73 rfl (lv_at hl 0 rfl) ?_
      refine lv_bipush (v := 64) hx hb dX5_sum_74 (by decide) ?_
      refine xw_ti (y := (nI 64)) (by decide) ?_
      refine lv_icmp_ge (tgt := 108) hx hb dX5_sum_76 (by decide) (fun hc => absurd hc (fun q => absurd ((nI_leI (by omega) (by omega)).mp q) (by omega))) (fun _ => ?_)
      refine lv_aload_n hx hb dX5_sum_79 rfl (lv_at hl 1 rfl) ?_
      refine xw_get C hw hC.o (ci := 4) rfl iX5_sum_X5 6 (by decide) (by decide +kernel) rfl dX5_sum_80 ?_
      refine lv_iload_n hx hb dX5_sum_83 rfl (lv_at hl 0 rfl) ?_
      refine lv_aload_n hx hb dX5_sum_84 rfl (lv_at hl 1 rfl) ?_
      refine xw_get C hw hC.o (ci := 4) rfl iX5_sum_X5 11 (by decide) (by decide +kernel) rfl dX5_sum_85 ?_
      refine lv_iload_n hx hb dX5_sum_88 rfl (lv_at hl 0 rfl) ?_
      refine xw_laldN C hw (hC.r 5 (by decide) e5) (show k < 64 by omega) (by decide) dX5_sum_89 ?_
      refine lv_aload_n hx hb dX5_sum_90 rfl (lv_at hl 1 rfl) ?_
      refine xw_get C hw hC.o (ci := 4) rfl iX5_sum_X5 8 (by decide) (by decide +kernel) rfl dX5_sum_91 ?_
      refine lv_iload_n hx hb dX5_sum_94 rfl (lv_at hl 0 rfl) ?_
      refine xw_laldN C hw (hC.r 2 (by decide) e2) (show k < 64 by omega) (by decide) dX5_sum_95 ?_
      refine lv_ladd hx hb dX5_sum_96 ?_
      refine xw_ldc2 C (v := 32003) (by decide +kernel) dX5_sum_97 ?_
      refine lv_lrem hx hb dX5_sum_100 (by decide) ?_
      refine xw_tl (y := (xJ ((xad (xmul (xTm im k2) (xBm im k1)) (xmul (xTm im k1) (xBm im k2))) k))) (xl_add _ _) ?_
      refine xw_lastN C hw hS (hC.r 0 (by decide) ez) (show k < 64 by omega) (by decide) dX5_sum_101 (fun H locs hw hS => ?_)
      rw [xrowJ_up] at hw
      have hC := hC.set (i := 0) (by decide) (show xlc 0 = 64 by decide) (f := va_up (xmix (xad (xmul (xTm im k2) (xBm im k1)) (xmul (xTm im k1) (xBm im k2))) (xTm im k2) k) k ((xad (xmul (xTm im k2) (xBm im k1)) (xmul (xTm im k1) (xBm im k2))) k)) (xsup_up (hC.rs 0 (by decide) ez) (by omega))
      obtain ⟨lr81, hlr⟩ : ∃ zz9, zz9 = va_up lr5 (0) (va_up (xmix (xad (xmul (xTm im k2) (xBm im k1)) (xmul (xTm im k1) (xBm im k2))) (xTm im k2) k) k ((xad (xmul (xTm im k2) (xBm im k1)) (xmul (xTm im k1) (xBm im k2))) k)) := ⟨_, rfl⟩
      rw [← hlr] at hC
      have e1 : lr81 1 = xBm im k2 := (congrFun hlr _).trans ((va_up_ne _ _ (by decide)).trans e1)
      have e2 : lr81 2 = xmul (xTm im k1) (xBm im k2) := (congrFun hlr _).trans ((va_up_ne _ _ (by decide)).trans e2)
      have e3 : lr81 3 = xBm im k1 := (congrFun hlr _).trans ((va_up_ne _ _ (by decide)).trans e3)
      have e5 : lr81 5 = xmul (xTm im k2) (xBm im k1) := (congrFun hlr _).trans ((va_up_ne _ _ (by decide)).trans e5)
      have e0 : lr81 0 = va_up (xmix (xad (xmul (xTm im k2) (xBm im k1)) (xmul (xTm im k1) (xBm im k2))) (xTm im k2) k) k ((xad (xmul (xTm im k2) (xBm im k1)) (xmul (xTm im k1) (xBm im k2))) k) := (congrFun hlr _).trans (va_up_self _ _ _)
      refine lv_iinc (v := (nI (k + 1))) (lv' := [(3, .int (nI (k + 1))), (0, .ref mo), (1, .int (nI k1)), (2, .int (nI k2))]) hx hb dX5_sum_102 hl (k := 0) rfl (x_inc k) (by decide) rfl (fun ls hl => ?_)
      refine lv_goto (tgt := 73) hx hb dX5_sum_105 (by decide) ?_
      exact ih73 (k + 1) _ lr81 ls _ _ (by omega) hC (by rw [e0]; exact xmix_s (xad (xmul (xTm im k2) (xBm im k1)) (xmul (xTm im k1) (xBm im k2))) _ k) e1 e2 e3 e5 hw hS (lv_sub hl [0, 1, 2, 3] rfl)
  exact loop73 64 0 _ lr7 ls _ _ rfl hC (by rw [xmix_0]; exact e0) e1 e2 e3 e5 hw hS (lv_sub hl [0, 1, 2, 3] rfl)

abbrev rmX5_add : Room := { frames := 4, cells := 0, slots := 0, locals := 101 }
set_option maxHeartbeats 4000000 in
set_option maxRecDepth 100000 in
theorem kX5_add (l : Launch) (G : xG) (B : Nat) (w : xM) (mo : Nat) (la ia : Nat → Nat) (rq : Nat) (co : Int32) (mn : Nat) (im lr : Nat → xP) (ro : Nat → Option Nat) (me : Int32) (wr : xM) (hC : xML G w mo la ia rq co mn im lr ro me wr) (hF : ∀ k, k < mn → xlen (xBm im k) 64 ≠ 0) (x y : Int32) : Met l yX5_add wsX5_add rmX5_add (va_Pc [.ref mo, .int x, .int y] (xB G B w)) (va_Qi (fun r u => (¬ (xIs mn x ∧ xIs mn y) ∧ r = 0 ∧ xMK G mo la ia rq 1 mn im wr u) ∨ ∃ k1 k2, k1 < mn ∧ k2 < mn ∧ x = nI k1 ∧ y = nI k2 ∧ xKe G mo la ia rq mn im wr (xnT (xad (xmul (xTm im k2) (xBm im k1)) (xmul (xTm im k1) (xBm im k2))) (xmul (xBm im k2) (xBm im k1))) (xnB (xad (xmul (xTm im k2) (xBm im k1)) (xmul (xTm im k1) (xBm im k2))) (xmul (xBm im k2) (xBm im k1))) 2 r u) (xE G B) (xA B)) 0 0 (xA B) := by
  refine xw_start (own := RX5) (mn := "add") (cc := cX5_add) (nL := 3) (rt := (some .int)) (by decide) rfl rfl rfl (Nat.le_of_ble_eq_true rfl) ?_
  intro p ev s m below meth cd ls C hl hw hS
  obtain ⟨hx, hb, -, -, -, hts, -, -, -, -⟩ := id C
  have hl : lv_has ls 3 [(0, .ref mo), (1, .int x), (2, .int y)] := hl
  refine lv_aload_n hx hb dX5_add_0 rfl (lv_at hl 0 rfl) ?_
  refine lv_iload_n hx hb dX5_add_1 rfl (lv_at hl 1 rfl) ?_
  refine lv_iload_n hx hb dX5_add_2 rfl (lv_at hl 2 rfl) ?_
  refine xw_ci (xw_V (n := 2) (rest := []) C hw (kX5_are l G B _ mo la ia rq co mn im lr ro me wr hC x y) gX5_add_X5_are rfl rfl rfl (by decide +kernel) ⟨Nat.le_of_ble_eq_true rfl, Nat.le_of_ble_eq_true rfl⟩ hC.o rfl rfl hl.1 rfl (Nat.le_of_ble_eq_true rfl) dX5_add_3 ⟨Nat.le_of_ble_eq_true rfl, Nat.le_of_ble_eq_true rfl⟩ hS) hS (fun rq9 q9 H locs hq hw hS => ?_)
  rcases hq with ⟨hz, hy, hu⟩ | ⟨hz, hy, hu⟩
  · skip
    rw [hu] at hw
    refine xw_ti (y := 1) (hz) ?_
    have hC := hC.setO 0 mn me hC.m50
    obtain ⟨⟨k1, hk1, rfl⟩, ⟨k2, hk2, rfl⟩⟩ := hy
    refine lv_if_ne (tgt := 11) hx hb dX5_add_6 (by decide) (fun _ => ?_) (fun hc => absurd hc (by decide))
    refine lv_aload_n hx hb dX5_add_11 rfl (lv_at hl 0 rfl) ?_
    refine lv_iload_n hx hb dX5_add_12 rfl (lv_at hl 1 rfl) ?_
    refine lv_iload_n hx hb dX5_add_13 rfl (lv_at hl 2 rfl) ?_
    refine xw_cv (xw_V (n := 2) (rest := []) C hw (kX5_sum l G B _ mo la ia rq 0 mn im lr ro me wr hC hF k1 k2 hk1 hk2) gX5_add_X5_sum rfl rfl rfl (by decide +kernel) ⟨Nat.le_of_ble_eq_true rfl, Nat.le_of_ble_eq_true rfl⟩ hC.o rfl rfl hl.1 rfl (Nat.le_of_ble_eq_true rfl) dX5_add_14 ⟨Nat.le_of_ble_eq_true rfl, Nat.le_of_ble_eq_true rfl⟩ hS) hS (fun u9 H locs hq hw hS => ?_)
    obtain ⟨lr1, hC, e0, e1⟩ := hq
    refine lv_aload_n hx hb dX5_add_17 rfl (lv_at hl 0 rfl) ?_
    refine lv_iconst (v := 2) hx hb dX5_add_18 (by decide) ?_
    refine xw_ci (xw_V (n := 1) (rest := []) C hw (kX5_keep l G B _ mo la ia rq 0 mn im lr1 ro me wr hC (xnT (xad (xmul (xTm im k2) (xBm im k1)) (xmul (xTm im k1) (xBm im k2))) (xmul (xBm im k2) (xBm im k1))) (xnB (xad (xmul (xTm im k2) (xBm im k1)) (xmul (xTm im k1) (xBm im k2))) (xmul (xBm im k2) (xBm im k1))) e0 e1 2) gX5_add_X5_keep rfl rfl rfl (by decide +kernel) ⟨Nat.le_of_ble_eq_true rfl, Nat.le_of_ble_eq_true rfl⟩ hC.o rfl rfl hl.1 rfl (Nat.le_of_ble_eq_true rfl) dX5_add_19 ⟨Nat.le_of_ble_eq_true rfl, Nat.le_of_ble_eq_true rfl⟩ hS) hS (fun rz z H locs hz9 hw hS => ?_)
    exact xw_iret C hw hS (Nat.le_of_ble_eq_true rfl) (Nat.le_of_ble_eq_true rfl) (Or.inr ⟨k1, k2, hk1, hk2, rfl, rfl, hz9⟩) dX5_add_22
  · skip
    rw [hu] at hw
    refine xw_ti (y := 0) (hz) ?_
    have hC := hC.setO 1 mn me hC.m50
    refine lv_if_ne (tgt := 11) hx hb dX5_add_6 (by decide) (fun hc => absurd (rfl) hc) (fun _ => ?_)
    refine lv_iconst (v := 0) hx hb dX5_add_9 (by decide) ?_
    exact xw_iret C hw hS (Nat.le_of_ble_eq_true rfl) (Nat.le_of_ble_eq_true rfl) (Or.inl ⟨hy, rfl, _, _, _, hC⟩) dX5_add_10

abbrev rmX5_times : Room := { frames := 3, cells := 0, slots := 0, locals := 78 }
theorem iX5_times_X5 : ∀ w ∈ wsX50, w ∈ wsX5_times := by decide +kernel
set_option maxHeartbeats 4000000 in
set_option maxRecDepth 100000 in
theorem kX5_times (l : Launch) (G : xG) (B : Nat) (w : xM) (mo : Nat) (la ia : Nat → Nat) (rq : Nat) (co : Int32) (mn : Nat) (im lr : Nat → xP) (ro : Nat → Option Nat) (me : Int32) (wr : xM) (hC : xML G w mo la ia rq co mn im lr ro me wr) (hF : ∀ k, k < mn → xlen (xBm im k) 64 ≠ 0) (x y : Int32) : Met l yX5_times wsX5_times rmX5_times (va_Pc [.ref mo, .int x, .int y] (xB G B w)) (va_Qi (fun r u => (¬ (xIs mn x ∧ xIs mn y) ∧ r = 0 ∧ xMK G mo la ia rq 1 mn im wr u) ∨ ∃ k1 k2, k1 < mn ∧ k2 < mn ∧ x = nI k1 ∧ y = nI k2 ∧ xKe G mo la ia rq mn im wr (xnT (xmul (xTm im k1) (xTm im k2)) (xmul (xBm im k1) (xBm im k2))) (xnB (xmul (xTm im k1) (xTm im k2)) (xmul (xBm im k1) (xBm im k2))) 2 r u) (xE G B) (xA B)) 0 0 (xA B) := by
  refine xw_start (own := RX5) (mn := "times") (cc := cX5_times) (nL := 3) (rt := (some .int)) (by decide) rfl rfl rfl (Nat.le_of_ble_eq_true rfl) ?_
  intro p ev s m below meth cd ls C hl hw hS
  obtain ⟨hx, hb, -, -, -, hts, -, -, -, -⟩ := id C
  have hl : lv_has ls 3 [(0, .ref mo), (1, .int x), (2, .int y)] := hl
  refine lv_aload_n hx hb dX5_times_0 rfl (lv_at hl 0 rfl) ?_
  refine lv_iload_n hx hb dX5_times_1 rfl (lv_at hl 1 rfl) ?_
  refine lv_iload_n hx hb dX5_times_2 rfl (lv_at hl 2 rfl) ?_
  refine xw_ci (xw_V (n := 2) (rest := []) C hw (kX5_are l G B _ mo la ia rq co mn im lr ro me wr hC x y) gX5_times_X5_are rfl rfl rfl (by decide +kernel) ⟨Nat.le_of_ble_eq_true rfl, Nat.le_of_ble_eq_true rfl⟩ hC.o rfl rfl hl.1 rfl (Nat.le_of_ble_eq_true rfl) dX5_times_3 ⟨Nat.le_of_ble_eq_true rfl, Nat.le_of_ble_eq_true rfl⟩ hS) hS (fun rq9 q9 H locs hq hw hS => ?_)
  rcases hq with ⟨hz, hy, hu⟩ | ⟨hz, hy, hu⟩
  · skip
    rw [hu] at hw
    refine xw_ti (y := 1) (hz) ?_
    have hC := hC.setO 0 mn me hC.m50
    obtain ⟨⟨k1, hk1, rfl⟩, ⟨k2, hk2, rfl⟩⟩ := hy
    refine lv_if_ne (tgt := 11) hx hb dX5_times_6 (by decide) (fun _ => ?_) (fun hc => absurd hc (by decide))
    have sTk1 : xsup (xTm im k1) 21 := xld_sup _ _ (Nat.le_refl _)
    have sBk1 : xsup (xBm im k1) 21 := xld_sup _ _ (Nat.le_refl _)
    have sTk2 : xsup (xTm im k2) 21 := xld_sup _ _ (Nat.le_refl _)
    have sBk2 : xsup (xBm im k2) 21 := xld_sup _ _ (Nat.le_refl _)
    refine lv_aload_n hx hb dX5_times_11 rfl (lv_at hl 0 rfl) ?_
    refine lv_aload_n hx hb dX5_times_12 rfl (lv_at hl 0 rfl) ?_
    refine xw_get C hw hC.o (ci := 4) rfl iX5_times_X5 6 (by decide) (by decide +kernel) rfl dX5_times_13 ?_
    refine lv_iload_n hx hb dX5_times_16 rfl (lv_at hl 1 rfl) ?_
    refine xw_cv (xw_V (n := 2) (rest := []) C hw (kX5_loadTop l G B _ mo la ia rq 0 mn im lr ro me wr hC 0 (by decide) (lr 0) rfl k1 hk1) gX5_times_X5_loadTop rfl rfl rfl (by decide +kernel) ⟨Nat.le_of_ble_eq_true rfl, Nat.le_of_ble_eq_true rfl⟩ hC.o rfl rfl hl.1 rfl (Nat.le_of_ble_eq_true rfl) dX5_times_17 ⟨Nat.le_of_ble_eq_true rfl, Nat.le_of_ble_eq_true rfl⟩ hS) hS (fun u H locs hpp hw hS => ?_)
    rw [hpp] at hw
    have hC := hC.set (i := 0) (by decide) (show xlc 0 = 64 by decide) (f := xTm im k1) (xld_sup _ _ (by decide))
    obtain ⟨lr1, hlr⟩ : ∃ zz9, zz9 = va_up lr (0) (xTm im k1) := ⟨_, rfl⟩
    rw [← hlr] at hC
    have e0 : lr1 0 = xTm im k1 := (congrFun hlr _).trans (va_up_self _ _ _)
    refine lv_aload_n hx hb dX5_times_20 rfl (lv_at hl 0 rfl) ?_
    refine lv_aload_n hx hb dX5_times_21 rfl (lv_at hl 0 rfl) ?_
    refine xw_get C hw hC.o (ci := 4) rfl iX5_times_X5 8 (by decide) (by decide +kernel) rfl dX5_times_22 ?_
    refine lv_iload_n hx hb dX5_times_25 rfl (lv_at hl 2 rfl) ?_
    refine xw_cv (xw_V (n := 2) (rest := []) C hw (kX5_loadTop l G B _ mo la ia rq 0 mn im lr1 ro me wr hC 2 (by decide) (lr1 2) rfl k2 hk2) gX5_times_X5_loadTop rfl rfl rfl (by decide +kernel) ⟨Nat.le_of_ble_eq_true rfl, Nat.le_of_ble_eq_true rfl⟩ hC.o rfl rfl hl.1 rfl (Nat.le_of_ble_eq_true rfl) dX5_times_26 ⟨Nat.le_of_ble_eq_true rfl, Nat.le_of_ble_eq_true rfl⟩ hS) hS (fun u H locs hpp hw hS => ?_)
    rw [hpp] at hw
    have hC := hC.set (i := 2) (by decide) (show xlc 2 = 64 by decide) (f := xTm im k2) (xld_sup _ _ (by decide))
    obtain ⟨lr2, hlr⟩ : ∃ zz9, zz9 = va_up lr1 (2) (xTm im k2) := ⟨_, rfl⟩
    rw [← hlr] at hC
    have e0 : lr2 0 = xTm im k1 := (congrFun hlr _).trans ((va_up_ne _ _ (by decide)).trans e0)
    have e2 : lr2 2 = xTm im k2 := (congrFun hlr _).trans (va_up_self _ _ _)
    refine lv_aload_n hx hb dX5_times_29 rfl (lv_at hl 0 rfl) ?_
    refine lv_aload_n hx hb dX5_times_30 rfl (lv_at hl 0 rfl) ?_
    refine xw_get C hw hC.o (ci := 4) rfl iX5_times_X5 6 (by decide) (by decide +kernel) rfl dX5_times_31 ?_
    refine lv_aload_n hx hb dX5_times_34 rfl (lv_at hl 0 rfl) ?_
    refine xw_get C hw hC.o (ci := 4) rfl iX5_times_X5 8 (by decide) (by decide +kernel) rfl dX5_times_35 ?_
    refine xw_cv (xw_V (n := 2) (rest := []) C hw (kX5_multiply l G B _ mo la ia rq 0 mn im lr2 ro me wr hC 0 2 (by decide) (by decide) (by decide) (by decide) (xTm im k1) (xTm im k2) e0 e2 (Nat.le_trans (Nat.add_le_add (xlen_sle sTk1) (xlen_sle sTk2)) (by decide))) gX5_times_X5_multiply rfl rfl rfl (by decide +kernel) ⟨Nat.le_of_ble_eq_true rfl, Nat.le_of_ble_eq_true rfl⟩ hC.o rfl rfl hl.1 rfl (Nat.le_of_ble_eq_true rfl) dX5_times_38 ⟨Nat.le_of_ble_eq_true rfl, Nat.le_of_ble_eq_true rfl⟩ hS) hS (fun u H locs hpp hw hS => ?_)
    rw [hpp] at hw
    have hC := hC.set (i := 5) (by decide) (show xlc 5 = 64 by decide) (f := xmul (xTm im k1) (xTm im k2)) (xmul_s64 (hC.rs 0 (by decide) e0) (hC.rs 2 (by decide) e2) (Nat.le_trans (Nat.add_le_add (xlen_sle sTk1) (xlen_sle sTk2)) (by decide)))
    obtain ⟨lr3, hlr⟩ : ∃ zz9, zz9 = va_up lr2 (5) (xmul (xTm im k1) (xTm im k2)) := ⟨_, rfl⟩
    rw [← hlr] at hC
    have e0 : lr3 0 = xTm im k1 := (congrFun hlr _).trans ((va_up_ne _ _ (by decide)).trans e0)
    have e2 : lr3 2 = xTm im k2 := (congrFun hlr _).trans ((va_up_ne _ _ (by decide)).trans e2)
    have e5 : lr3 5 = xmul (xTm im k1) (xTm im k2) := (congrFun hlr _).trans (va_up_self _ _ _)
    refine lv_aload_n hx hb dX5_times_41 rfl (lv_at hl 0 rfl) ?_
    refine xw_get C hw hC.o (ci := 4) rfl iX5_times_X5 6 (by decide) (by decide +kernel) rfl dX5_times_42 ?_
    refine lv_aload_n hx hb dX5_times_45 rfl (lv_at hl 0 rfl) ?_
    refine xw_get C hw hC.o (ci := 4) rfl iX5_times_X5 11 (by decide) (by decide +kernel) rfl dX5_times_46 ?_
    refine xw_cv (xw_S (n := 2) (rest := []) C hw (kX5_copy l G B _ (la 0) (la 5) (xTm im k1) (xmul (xTm im k1) (xTm im k2)) (hC.r 0 (by decide) e0) (hC.r 5 (by decide) e5) (hC.ln (by decide) (by decide) (by decide)) (hC.rs 0 (by decide) e0) (hC.rs 5 (by decide) e5)) gX5_times_X5_copy rfl rfl rfl (by decide +kernel) ⟨Nat.le_of_ble_eq_true rfl, Nat.le_of_ble_eq_true rfl⟩ rfl hl.1 rfl (Nat.le_of_ble_eq_true rfl) dX5_times_49 ⟨Nat.le_of_ble_eq_true rfl, Nat.le_of_ble_eq_true rfl⟩ hS) hS (fun u H locs hpp hw hS => ?_)
    rw [hpp] at hw
    have hC := hC.set (i := 0) (by decide) (show xlc 0 = 64 by decide) (f := xmul (xTm im k1) (xTm im k2)) ((hC.rs 5 (by decide) e5))
    obtain ⟨lr4, hlr⟩ : ∃ zz9, zz9 = va_up lr3 (0) (xmul (xTm im k1) (xTm im k2)) := ⟨_, rfl⟩
    rw [← hlr] at hC
    have e2 : lr4 2 = xTm im k2 := (congrFun hlr _).trans ((va_up_ne _ _ (by decide)).trans e2)
    have e5 : lr4 5 = xmul (xTm im k1) (xTm im k2) := (congrFun hlr _).trans ((va_up_ne _ _ (by decide)).trans e5)
    have e0 : lr4 0 = xmul (xTm im k1) (xTm im k2) := (congrFun hlr _).trans (va_up_self _ _ _)
    refine lv_aload_n hx hb dX5_times_52 rfl (lv_at hl 0 rfl) ?_
    refine lv_aload_n hx hb dX5_times_53 rfl (lv_at hl 0 rfl) ?_
    refine xw_get C hw hC.o (ci := 4) rfl iX5_times_X5 7 (by decide) (by decide +kernel) rfl dX5_times_54 ?_
    refine lv_iload_n hx hb dX5_times_57 rfl (lv_at hl 1 rfl) ?_
    refine xw_cv (xw_V (n := 2) (rest := []) C hw (kX5_loadBottom l G B _ mo la ia rq 0 mn im lr4 ro me wr hC 1 (by decide) (lr4 1) rfl k1 hk1) gX5_times_X5_loadBottom rfl rfl rfl (by decide +kernel) ⟨Nat.le_of_ble_eq_true rfl, Nat.le_of_ble_eq_true rfl⟩ hC.o rfl rfl hl.1 rfl (Nat.le_of_ble_eq_true rfl) dX5_times_58 ⟨Nat.le_of_ble_eq_true rfl, Nat.le_of_ble_eq_true rfl⟩ hS) hS (fun u H locs hpp hw hS => ?_)
    rw [hpp] at hw
    have hC := hC.set (i := 1) (by decide) (show xlc 1 = 64 by decide) (f := xBm im k1) (xld_sup _ _ (by decide))
    obtain ⟨lr5, hlr⟩ : ∃ zz9, zz9 = va_up lr4 (1) (xBm im k1) := ⟨_, rfl⟩
    rw [← hlr] at hC
    have e2 : lr5 2 = xTm im k2 := (congrFun hlr _).trans ((va_up_ne _ _ (by decide)).trans e2)
    have e5 : lr5 5 = xmul (xTm im k1) (xTm im k2) := (congrFun hlr _).trans ((va_up_ne _ _ (by decide)).trans e5)
    have e0 : lr5 0 = xmul (xTm im k1) (xTm im k2) := (congrFun hlr _).trans ((va_up_ne _ _ (by decide)).trans e0)
    have e1 : lr5 1 = xBm im k1 := (congrFun hlr _).trans (va_up_self _ _ _)
    refine lv_aload_n hx hb dX5_times_61 rfl (lv_at hl 0 rfl) ?_
    refine lv_aload_n hx hb dX5_times_62 rfl (lv_at hl 0 rfl) ?_
    refine xw_get C hw hC.o (ci := 4) rfl iX5_times_X5 8 (by decide) (by decide +kernel) rfl dX5_times_63 ?_
    refine lv_iload_n hx hb dX5_times_66 rfl (lv_at hl 2 rfl) ?_
    refine xw_cv (xw_V (n := 2) (rest := []) C hw (kX5_loadBottom l G B _ mo la ia rq 0 mn im lr5 ro me wr hC 2 (by decide) (xTm im k2) e2 k2 hk2) gX5_times_X5_loadBottom rfl rfl rfl (by decide +kernel) ⟨Nat.le_of_ble_eq_true rfl, Nat.le_of_ble_eq_true rfl⟩ hC.o rfl rfl hl.1 rfl (Nat.le_of_ble_eq_true rfl) dX5_times_67 ⟨Nat.le_of_ble_eq_true rfl, Nat.le_of_ble_eq_true rfl⟩ hS) hS (fun u H locs hpp hw hS => ?_)
    rw [hpp] at hw
    have hC := hC.set (i := 2) (by decide) (show xlc 2 = 64 by decide) (f := xBm im k2) (xld_sup _ _ (by decide))
    obtain ⟨lr6, hlr⟩ : ∃ zz9, zz9 = va_up lr5 (2) (xBm im k2) := ⟨_, rfl⟩
    rw [← hlr] at hC
    have e5 : lr6 5 = xmul (xTm im k1) (xTm im k2) := (congrFun hlr _).trans ((va_up_ne _ _ (by decide)).trans e5)
    have e0 : lr6 0 = xmul (xTm im k1) (xTm im k2) := (congrFun hlr _).trans ((va_up_ne _ _ (by decide)).trans e0)
    have e1 : lr6 1 = xBm im k1 := (congrFun hlr _).trans ((va_up_ne _ _ (by decide)).trans e1)
    have e2 : lr6 2 = xBm im k2 := (congrFun hlr _).trans (va_up_self _ _ _)
    refine lv_aload_n hx hb dX5_times_70 rfl (lv_at hl 0 rfl) ?_
    refine lv_aload_n hx hb dX5_times_71 rfl (lv_at hl 0 rfl) ?_
    refine xw_get C hw hC.o (ci := 4) rfl iX5_times_X5 7 (by decide) (by decide +kernel) rfl dX5_times_72 ?_
    refine lv_aload_n hx hb dX5_times_75 rfl (lv_at hl 0 rfl) ?_
    refine xw_get C hw hC.o (ci := 4) rfl iX5_times_X5 8 (by decide) (by decide +kernel) rfl dX5_times_76 ?_
    refine xw_cv (xw_V (n := 2) (rest := []) C hw (kX5_multiply l G B _ mo la ia rq 0 mn im lr6 ro me wr hC 1 2 (by decide) (by decide) (by decide) (by decide) (xBm im k1) (xBm im k2) e1 e2 (Nat.le_trans (Nat.add_le_add (xlen_sle sBk1) (xlen_sle sBk2)) (by decide))) gX5_times_X5_multiply rfl rfl rfl (by decide +kernel) ⟨Nat.le_of_ble_eq_true rfl, Nat.le_of_ble_eq_true rfl⟩ hC.o rfl rfl hl.1 rfl (Nat.le_of_ble_eq_true rfl) dX5_times_79 ⟨Nat.le_of_ble_eq_true rfl, Nat.le_of_ble_eq_true rfl⟩ hS) hS (fun u H locs hpp hw hS => ?_)
    rw [hpp] at hw
    have hC := hC.set (i := 5) (by decide) (show xlc 5 = 64 by decide) (f := xmul (xBm im k1) (xBm im k2)) (xmul_s64 (hC.rs 1 (by decide) e1) (hC.rs 2 (by decide) e2) (Nat.le_trans (Nat.add_le_add (xlen_sle sBk1) (xlen_sle sBk2)) (by decide)))
    obtain ⟨lr7, hlr⟩ : ∃ zz9, zz9 = va_up lr6 (5) (xmul (xBm im k1) (xBm im k2)) := ⟨_, rfl⟩
    rw [← hlr] at hC
    have e0 : lr7 0 = xmul (xTm im k1) (xTm im k2) := (congrFun hlr _).trans ((va_up_ne _ _ (by decide)).trans e0)
    have e1 : lr7 1 = xBm im k1 := (congrFun hlr _).trans ((va_up_ne _ _ (by decide)).trans e1)
    have e2 : lr7 2 = xBm im k2 := (congrFun hlr _).trans ((va_up_ne _ _ (by decide)).trans e2)
    have e5 : lr7 5 = xmul (xBm im k1) (xBm im k2) := (congrFun hlr _).trans (va_up_self _ _ _)
    refine lv_aload_n hx hb dX5_times_82 rfl (lv_at hl 0 rfl) ?_
    refine xw_get C hw hC.o (ci := 4) rfl iX5_times_X5 7 (by decide) (by decide +kernel) rfl dX5_times_83 ?_
    refine lv_aload_n hx hb dX5_times_86 rfl (lv_at hl 0 rfl) ?_
    refine xw_get C hw hC.o (ci := 4) rfl iX5_times_X5 11 (by decide) (by decide +kernel) rfl dX5_times_87 ?_
    refine xw_cv (xw_S (n := 2) (rest := []) C hw (kX5_copy l G B _ (la 1) (la 5) (xBm im k1) (xmul (xBm im k1) (xBm im k2)) (hC.r 1 (by decide) e1) (hC.r 5 (by decide) e5) (hC.ln (by decide) (by decide) (by decide)) (hC.rs 1 (by decide) e1) (hC.rs 5 (by decide) e5)) gX5_times_X5_copy rfl rfl rfl (by decide +kernel) ⟨Nat.le_of_ble_eq_true rfl, Nat.le_of_ble_eq_true rfl⟩ rfl hl.1 rfl (Nat.le_of_ble_eq_true rfl) dX5_times_90 ⟨Nat.le_of_ble_eq_true rfl, Nat.le_of_ble_eq_true rfl⟩ hS) hS (fun u H locs hpp hw hS => ?_)
    rw [hpp] at hw
    have hC := hC.set (i := 1) (by decide) (show xlc 1 = 64 by decide) (f := xmul (xBm im k1) (xBm im k2)) ((hC.rs 5 (by decide) e5))
    obtain ⟨lr8, hlr⟩ : ∃ zz9, zz9 = va_up lr7 (1) (xmul (xBm im k1) (xBm im k2)) := ⟨_, rfl⟩
    rw [← hlr] at hC
    have e0 : lr8 0 = xmul (xTm im k1) (xTm im k2) := (congrFun hlr _).trans ((va_up_ne _ _ (by decide)).trans e0)
    have e2 : lr8 2 = xBm im k2 := (congrFun hlr _).trans ((va_up_ne _ _ (by decide)).trans e2)
    have e5 : lr8 5 = xmul (xBm im k1) (xBm im k2) := (congrFun hlr _).trans ((va_up_ne _ _ (by decide)).trans e5)
    have e1 : lr8 1 = xmul (xBm im k1) (xBm im k2) := (congrFun hlr _).trans (va_up_self _ _ _)
    refine lv_aload_n hx hb dX5_times_93 rfl (lv_at hl 0 rfl) ?_
    refine xw_cv (xw_V (n := 0) (rest := []) C hw (kX5_lowest l G B _ mo la ia rq 0 mn im lr8 ro me wr hC (xmul (xTm im k1) (xTm im k2)) (xmul (xBm im k1) (xBm im k2)) e0 e1 (xlen_mul_ne sBk1 sBk2 (by decide) (by decide) (by decide) (hF k1 hk1) (hF k2 hk2))) gX5_times_X5_lowest rfl rfl rfl (by decide +kernel) ⟨Nat.le_of_ble_eq_true rfl, Nat.le_of_ble_eq_true rfl⟩ hC.o rfl rfl hl.1 rfl (Nat.le_of_ble_eq_true rfl) dX5_times_94 ⟨Nat.le_of_ble_eq_true rfl, Nat.le_of_ble_eq_true rfl⟩ hS) hS (fun u9 H locs hq hw hS => ?_)
    obtain ⟨lr9, hC, e0, e1, hkl⟩ := hq
    refine lv_aload_n hx hb dX5_times_97 rfl (lv_at hl 0 rfl) ?_
    refine lv_iconst (v := 2) hx hb dX5_times_98 (by decide) ?_
    refine xw_ci (xw_V (n := 1) (rest := []) C hw (kX5_keep l G B _ mo la ia rq 0 mn im lr9 ro me wr hC (xnT (xmul (xTm im k1) (xTm im k2)) (xmul (xBm im k1) (xBm im k2))) (xnB (xmul (xTm im k1) (xTm im k2)) (xmul (xBm im k1) (xBm im k2))) e0 e1 2) gX5_times_X5_keep rfl rfl rfl (by decide +kernel) ⟨Nat.le_of_ble_eq_true rfl, Nat.le_of_ble_eq_true rfl⟩ hC.o rfl rfl hl.1 rfl (Nat.le_of_ble_eq_true rfl) dX5_times_99 ⟨Nat.le_of_ble_eq_true rfl, Nat.le_of_ble_eq_true rfl⟩ hS) hS (fun rz z H locs hz9 hw hS => ?_)
    exact xw_iret C hw hS (Nat.le_of_ble_eq_true rfl) (Nat.le_of_ble_eq_true rfl) (Or.inr ⟨k1, k2, hk1, hk2, rfl, rfl, hz9⟩) dX5_times_102
  · skip
    rw [hu] at hw
    refine xw_ti (y := 0) (hz) ?_
    have hC := hC.setO 1 mn me hC.m50
    refine lv_if_ne (tgt := 11) hx hb dX5_times_6 (by decide) (fun hc => absurd (rfl) hc) (fun _ => ?_)
    refine lv_iconst (v := 0) hx hb dX5_times_9 (by decide) ?_
    exact xw_iret C hw hS (Nat.le_of_ble_eq_true rfl) (Nat.le_of_ble_eq_true rfl) (Or.inl ⟨hy, rfl, _, _, _, hC⟩) dX5_times_10

abbrev rmX5_over : Room := { frames := 3, cells := 0, slots := 0, locals := 78 }
theorem iX5_over_X5 : ∀ w ∈ wsX50, w ∈ wsX5_over := by decide +kernel
set_option maxHeartbeats 4000000 in
set_option maxRecDepth 100000 in
theorem kX5_over (l : Launch) (G : xG) (B : Nat) (w : xM) (mo : Nat) (la ia : Nat → Nat) (rq : Nat) (co : Int32) (mn : Nat) (im lr : Nat → xP) (ro : Nat → Option Nat) (me : Int32) (wr : xM) (hC : xML G w mo la ia rq co mn im lr ro me wr) (hF : ∀ k, k < mn → xlen (xBm im k) 64 ≠ 0) (x y : Int32) : Met l yX5_over wsX5_over rmX5_over (va_Pc [.ref mo, .int x, .int y] (xB G B w)) (va_Qi (fun r u => (¬ (xIs mn x ∧ xIs mn y) ∧ r = 0 ∧ xMK G mo la ia rq 1 mn im wr u) ∨ (∃ k1 k2, k1 < mn ∧ k2 < mn ∧ x = nI k1 ∧ y = nI k2 ∧ xlen (xTm im k2) 64 = 0 ∧ r = 0 ∧ xMK G mo la ia rq 2 mn im wr u) ∨ ∃ k1 k2, k1 < mn ∧ k2 < mn ∧ x = nI k1 ∧ y = nI k2 ∧ xlen (xTm im k2) 64 ≠ 0 ∧ xKe G mo la ia rq mn im wr (xnT (xmul (xTm im k1) (xBm im k2)) (xmul (xBm im k1) (xTm im k2))) (xnB (xmul (xTm im k1) (xBm im k2)) (xmul (xBm im k1) (xTm im k2))) 3 r u) (xE G B) (xA B)) 0 0 (xA B) := by
  refine xw_start (own := RX5) (mn := "over") (cc := cX5_over) (nL := 3) (rt := (some .int)) (by decide) rfl rfl rfl (Nat.le_of_ble_eq_true rfl) ?_
  intro p ev s m below meth cd ls C hl hw hS
  obtain ⟨hx, hb, -, -, -, hts, -, -, -, -⟩ := id C
  have hl : lv_has ls 3 [(0, .ref mo), (1, .int x), (2, .int y)] := hl
  refine lv_aload_n hx hb dX5_over_0 rfl (lv_at hl 0 rfl) ?_
  refine lv_iload_n hx hb dX5_over_1 rfl (lv_at hl 1 rfl) ?_
  refine lv_iload_n hx hb dX5_over_2 rfl (lv_at hl 2 rfl) ?_
  refine xw_ci (xw_V (n := 2) (rest := []) C hw (kX5_are l G B _ mo la ia rq co mn im lr ro me wr hC x y) gX5_over_X5_are rfl rfl rfl (by decide +kernel) ⟨Nat.le_of_ble_eq_true rfl, Nat.le_of_ble_eq_true rfl⟩ hC.o rfl rfl hl.1 rfl (Nat.le_of_ble_eq_true rfl) dX5_over_3 ⟨Nat.le_of_ble_eq_true rfl, Nat.le_of_ble_eq_true rfl⟩ hS) hS (fun rq9 q9 H locs hq hw hS => ?_)
  rcases hq with ⟨hz, hy, hu⟩ | ⟨hz, hy, hu⟩
  · skip
    rw [hu] at hw
    refine xw_ti (y := 1) (hz) ?_
    have hC := hC.setO 0 mn me hC.m50
    obtain ⟨⟨k1, hk1, rfl⟩, ⟨k2, hk2, rfl⟩⟩ := hy
    refine lv_if_ne (tgt := 11) hx hb dX5_over_6 (by decide) (fun _ => ?_) (fun hc => absurd hc (by decide))
    have sTk1 : xsup (xTm im k1) 21 := xld_sup _ _ (Nat.le_refl _)
    have sBk1 : xsup (xBm im k1) 21 := xld_sup _ _ (Nat.le_refl _)
    have sTk2 : xsup (xTm im k2) 21 := xld_sup _ _ (Nat.le_refl _)
    have sBk2 : xsup (xBm im k2) 21 := xld_sup _ _ (Nat.le_refl _)
    refine lv_aload_n hx hb dX5_over_11 rfl (lv_at hl 0 rfl) ?_
    refine lv_aload_n hx hb dX5_over_12 rfl (lv_at hl 0 rfl) ?_
    refine xw_get C hw hC.o (ci := 4) rfl iX5_over_X5 8 (by decide) (by decide +kernel) rfl dX5_over_13 ?_
    refine lv_iload_n hx hb dX5_over_16 rfl (lv_at hl 2 rfl) ?_
    refine xw_cv (xw_V (n := 2) (rest := []) C hw (kX5_loadTop l G B _ mo la ia rq 0 mn im lr ro me wr hC 2 (by decide) (lr 2) rfl k2 hk2) gX5_over_X5_loadTop rfl rfl rfl (by decide +kernel) ⟨Nat.le_of_ble_eq_true rfl, Nat.le_of_ble_eq_true rfl⟩ hC.o rfl rfl hl.1 rfl (Nat.le_of_ble_eq_true rfl) dX5_over_17 ⟨Nat.le_of_ble_eq_true rfl, Nat.le_of_ble_eq_true rfl⟩ hS) hS (fun u H locs hpp hw hS => ?_)
    rw [hpp] at hw
    have hC := hC.set (i := 2) (by decide) (show xlc 2 = 64 by decide) (f := xTm im k2) (xld_sup _ _ (by decide))
    obtain ⟨lr1, hlr⟩ : ∃ zz9, zz9 = va_up lr (2) (xTm im k2) := ⟨_, rfl⟩
    rw [← hlr] at hC
    have e2 : lr1 2 = xTm im k2 := (congrFun hlr _).trans (va_up_self _ _ _)
    refine lv_aload_n hx hb dX5_over_20 rfl (lv_at hl 0 rfl) ?_
    refine xw_get C hw hC.o (ci := 4) rfl iX5_over_X5 8 (by decide) (by decide +kernel) rfl dX5_over_21 ?_
    refine xw_ci (xw_S (n := 1) (rest := []) C hw (kX5_high l G B _ (la 2) (xTm im k2) (hC.r 2 (by decide) e2)) gX5_over_X5_high rfl rfl rfl (by decide +kernel) ⟨Nat.le_of_ble_eq_true rfl, Nat.le_of_ble_eq_true rfl⟩ rfl hl.1 rfl (Nat.le_of_ble_eq_true rfl) dX5_over_24 ⟨Nat.le_of_ble_eq_true rfl, Nat.le_of_ble_eq_true rfl⟩ hS) hS (fun ru u H locs hp hw hS => ?_)
    obtain ⟨hr, hu⟩ := hp
    rw [hu] at hw
    refine xw_ti (y := (nI (xlen (xTm im k2) 64) - 1)) (hr) ?_
    have lT := xlen_le (xTm im k2) 64
    refine lv_if_ge (tgt := 36) hx hb dX5_over_27 (by decide) (fun hc => ?_) (fun hc => ?_)
    · skip
      have hc : xlen (xTm im k2) 64 ≠ 0 := fun q => by rw [q] at hc; exact absurd hc (by decide)
      refine lv_aload_n hx hb dX5_over_36 rfl (lv_at hl 0 rfl) ?_
      refine lv_aload_n hx hb dX5_over_37 rfl (lv_at hl 0 rfl) ?_
      refine xw_get C hw hC.o (ci := 4) rfl iX5_over_X5 7 (by decide) (by decide +kernel) rfl dX5_over_38 ?_
      refine lv_iload_n hx hb dX5_over_41 rfl (lv_at hl 1 rfl) ?_
      refine xw_cv (xw_V (n := 2) (rest := []) C hw (kX5_loadBottom l G B _ mo la ia rq 0 mn im lr1 ro me wr hC 1 (by decide) (lr1 1) rfl k1 hk1) gX5_over_X5_loadBottom rfl rfl rfl (by decide +kernel) ⟨Nat.le_of_ble_eq_true rfl, Nat.le_of_ble_eq_true rfl⟩ hC.o rfl rfl hl.1 rfl (Nat.le_of_ble_eq_true rfl) dX5_over_42 ⟨Nat.le_of_ble_eq_true rfl, Nat.le_of_ble_eq_true rfl⟩ hS) hS (fun u H locs hpp hw hS => ?_)
      rw [hpp] at hw
      have hC := hC.set (i := 1) (by decide) (show xlc 1 = 64 by decide) (f := xBm im k1) (xld_sup _ _ (by decide))
      obtain ⟨lr2, hlr⟩ : ∃ zz9, zz9 = va_up lr1 (1) (xBm im k1) := ⟨_, rfl⟩
      rw [← hlr] at hC
      have e2 : lr2 2 = xTm im k2 := (congrFun hlr _).trans ((va_up_ne _ _ (by decide)).trans e2)
      have e1 : lr2 1 = xBm im k1 := (congrFun hlr _).trans (va_up_self _ _ _)
      refine lv_aload_n hx hb dX5_over_45 rfl (lv_at hl 0 rfl) ?_
      refine lv_aload_n hx hb dX5_over_46 rfl (lv_at hl 0 rfl) ?_
      refine xw_get C hw hC.o (ci := 4) rfl iX5_over_X5 7 (by decide) (by decide +kernel) rfl dX5_over_47 ?_
      refine lv_aload_n hx hb dX5_over_50 rfl (lv_at hl 0 rfl) ?_
      refine xw_get C hw hC.o (ci := 4) rfl iX5_over_X5 8 (by decide) (by decide +kernel) rfl dX5_over_51 ?_
      refine xw_cv (xw_V (n := 2) (rest := []) C hw (kX5_multiply l G B _ mo la ia rq 0 mn im lr2 ro me wr hC 1 2 (by decide) (by decide) (by decide) (by decide) (xBm im k1) (xTm im k2) e1 e2 (Nat.le_trans (Nat.add_le_add (xlen_sle sBk1) (xlen_sle sTk2)) (by decide))) gX5_over_X5_multiply rfl rfl rfl (by decide +kernel) ⟨Nat.le_of_ble_eq_true rfl, Nat.le_of_ble_eq_true rfl⟩ hC.o rfl rfl hl.1 rfl (Nat.le_of_ble_eq_true rfl) dX5_over_54 ⟨Nat.le_of_ble_eq_true rfl, Nat.le_of_ble_eq_true rfl⟩ hS) hS (fun u H locs hpp hw hS => ?_)
      rw [hpp] at hw
      have hC := hC.set (i := 5) (by decide) (show xlc 5 = 64 by decide) (f := xmul (xBm im k1) (xTm im k2)) (xmul_s64 (hC.rs 1 (by decide) e1) (hC.rs 2 (by decide) e2) (Nat.le_trans (Nat.add_le_add (xlen_sle sBk1) (xlen_sle sTk2)) (by decide)))
      obtain ⟨lr3, hlr⟩ : ∃ zz9, zz9 = va_up lr2 (5) (xmul (xBm im k1) (xTm im k2)) := ⟨_, rfl⟩
      rw [← hlr] at hC
      have e2 : lr3 2 = xTm im k2 := (congrFun hlr _).trans ((va_up_ne _ _ (by decide)).trans e2)
      have e1 : lr3 1 = xBm im k1 := (congrFun hlr _).trans ((va_up_ne _ _ (by decide)).trans e1)
      have e5 : lr3 5 = xmul (xBm im k1) (xTm im k2) := (congrFun hlr _).trans (va_up_self _ _ _)
      refine lv_aload_n hx hb dX5_over_57 rfl (lv_at hl 0 rfl) ?_
      refine xw_get C hw hC.o (ci := 4) rfl iX5_over_X5 7 (by decide) (by decide +kernel) rfl dX5_over_58 ?_
      refine lv_aload_n hx hb dX5_over_61 rfl (lv_at hl 0 rfl) ?_
      refine xw_get C hw hC.o (ci := 4) rfl iX5_over_X5 11 (by decide) (by decide +kernel) rfl dX5_over_62 ?_
      refine xw_cv (xw_S (n := 2) (rest := []) C hw (kX5_copy l G B _ (la 1) (la 5) (xBm im k1) (xmul (xBm im k1) (xTm im k2)) (hC.r 1 (by decide) e1) (hC.r 5 (by decide) e5) (hC.ln (by decide) (by decide) (by decide)) (hC.rs 1 (by decide) e1) (hC.rs 5 (by decide) e5)) gX5_over_X5_copy rfl rfl rfl (by decide +kernel) ⟨Nat.le_of_ble_eq_true rfl, Nat.le_of_ble_eq_true rfl⟩ rfl hl.1 rfl (Nat.le_of_ble_eq_true rfl) dX5_over_65 ⟨Nat.le_of_ble_eq_true rfl, Nat.le_of_ble_eq_true rfl⟩ hS) hS (fun u H locs hpp hw hS => ?_)
      rw [hpp] at hw
      have hC := hC.set (i := 1) (by decide) (show xlc 1 = 64 by decide) (f := xmul (xBm im k1) (xTm im k2)) ((hC.rs 5 (by decide) e5))
      obtain ⟨lr4, hlr⟩ : ∃ zz9, zz9 = va_up lr3 (1) (xmul (xBm im k1) (xTm im k2)) := ⟨_, rfl⟩
      rw [← hlr] at hC
      have e2 : lr4 2 = xTm im k2 := (congrFun hlr _).trans ((va_up_ne _ _ (by decide)).trans e2)
      have e5 : lr4 5 = xmul (xBm im k1) (xTm im k2) := (congrFun hlr _).trans ((va_up_ne _ _ (by decide)).trans e5)
      have e1 : lr4 1 = xmul (xBm im k1) (xTm im k2) := (congrFun hlr _).trans (va_up_self _ _ _)
      refine lv_aload_n hx hb dX5_over_68 rfl (lv_at hl 0 rfl) ?_
      refine lv_aload_n hx hb dX5_over_69 rfl (lv_at hl 0 rfl) ?_
      refine xw_get C hw hC.o (ci := 4) rfl iX5_over_X5 6 (by decide) (by decide +kernel) rfl dX5_over_70 ?_
      refine lv_iload_n hx hb dX5_over_73 rfl (lv_at hl 1 rfl) ?_
      refine xw_cv (xw_V (n := 2) (rest := []) C hw (kX5_loadTop l G B _ mo la ia rq 0 mn im lr4 ro me wr hC 0 (by decide) (lr4 0) rfl k1 hk1) gX5_over_X5_loadTop rfl rfl rfl (by decide +kernel) ⟨Nat.le_of_ble_eq_true rfl, Nat.le_of_ble_eq_true rfl⟩ hC.o rfl rfl hl.1 rfl (Nat.le_of_ble_eq_true rfl) dX5_over_74 ⟨Nat.le_of_ble_eq_true rfl, Nat.le_of_ble_eq_true rfl⟩ hS) hS (fun u H locs hpp hw hS => ?_)
      rw [hpp] at hw
      have hC := hC.set (i := 0) (by decide) (show xlc 0 = 64 by decide) (f := xTm im k1) (xld_sup _ _ (by decide))
      obtain ⟨lr5, hlr⟩ : ∃ zz9, zz9 = va_up lr4 (0) (xTm im k1) := ⟨_, rfl⟩
      rw [← hlr] at hC
      have e2 : lr5 2 = xTm im k2 := (congrFun hlr _).trans ((va_up_ne _ _ (by decide)).trans e2)
      have e5 : lr5 5 = xmul (xBm im k1) (xTm im k2) := (congrFun hlr _).trans ((va_up_ne _ _ (by decide)).trans e5)
      have e1 : lr5 1 = xmul (xBm im k1) (xTm im k2) := (congrFun hlr _).trans ((va_up_ne _ _ (by decide)).trans e1)
      have e0 : lr5 0 = xTm im k1 := (congrFun hlr _).trans (va_up_self _ _ _)
      refine lv_aload_n hx hb dX5_over_77 rfl (lv_at hl 0 rfl) ?_
      refine lv_aload_n hx hb dX5_over_78 rfl (lv_at hl 0 rfl) ?_
      refine xw_get C hw hC.o (ci := 4) rfl iX5_over_X5 8 (by decide) (by decide +kernel) rfl dX5_over_79 ?_
      refine lv_iload_n hx hb dX5_over_82 rfl (lv_at hl 2 rfl) ?_
      refine xw_cv (xw_V (n := 2) (rest := []) C hw (kX5_loadBottom l G B _ mo la ia rq 0 mn im lr5 ro me wr hC 2 (by decide) (xTm im k2) e2 k2 hk2) gX5_over_X5_loadBottom rfl rfl rfl (by decide +kernel) ⟨Nat.le_of_ble_eq_true rfl, Nat.le_of_ble_eq_true rfl⟩ hC.o rfl rfl hl.1 rfl (Nat.le_of_ble_eq_true rfl) dX5_over_83 ⟨Nat.le_of_ble_eq_true rfl, Nat.le_of_ble_eq_true rfl⟩ hS) hS (fun u H locs hpp hw hS => ?_)
      rw [hpp] at hw
      have hC := hC.set (i := 2) (by decide) (show xlc 2 = 64 by decide) (f := xBm im k2) (xld_sup _ _ (by decide))
      obtain ⟨lr6, hlr⟩ : ∃ zz9, zz9 = va_up lr5 (2) (xBm im k2) := ⟨_, rfl⟩
      rw [← hlr] at hC
      have e5 : lr6 5 = xmul (xBm im k1) (xTm im k2) := (congrFun hlr _).trans ((va_up_ne _ _ (by decide)).trans e5)
      have e1 : lr6 1 = xmul (xBm im k1) (xTm im k2) := (congrFun hlr _).trans ((va_up_ne _ _ (by decide)).trans e1)
      have e0 : lr6 0 = xTm im k1 := (congrFun hlr _).trans ((va_up_ne _ _ (by decide)).trans e0)
      have e2 : lr6 2 = xBm im k2 := (congrFun hlr _).trans (va_up_self _ _ _)
      refine lv_aload_n hx hb dX5_over_86 rfl (lv_at hl 0 rfl) ?_
      refine lv_aload_n hx hb dX5_over_87 rfl (lv_at hl 0 rfl) ?_
      refine xw_get C hw hC.o (ci := 4) rfl iX5_over_X5 6 (by decide) (by decide +kernel) rfl dX5_over_88 ?_
      refine lv_aload_n hx hb dX5_over_91 rfl (lv_at hl 0 rfl) ?_
      refine xw_get C hw hC.o (ci := 4) rfl iX5_over_X5 8 (by decide) (by decide +kernel) rfl dX5_over_92 ?_
      refine xw_cv (xw_V (n := 2) (rest := []) C hw (kX5_multiply l G B _ mo la ia rq 0 mn im lr6 ro me wr hC 0 2 (by decide) (by decide) (by decide) (by decide) (xTm im k1) (xBm im k2) e0 e2 (Nat.le_trans (Nat.add_le_add (xlen_sle sTk1) (xlen_sle sBk2)) (by decide))) gX5_over_X5_multiply rfl rfl rfl (by decide +kernel) ⟨Nat.le_of_ble_eq_true rfl, Nat.le_of_ble_eq_true rfl⟩ hC.o rfl rfl hl.1 rfl (Nat.le_of_ble_eq_true rfl) dX5_over_95 ⟨Nat.le_of_ble_eq_true rfl, Nat.le_of_ble_eq_true rfl⟩ hS) hS (fun u H locs hpp hw hS => ?_)
      rw [hpp] at hw
      have hC := hC.set (i := 5) (by decide) (show xlc 5 = 64 by decide) (f := xmul (xTm im k1) (xBm im k2)) (xmul_s64 (hC.rs 0 (by decide) e0) (hC.rs 2 (by decide) e2) (Nat.le_trans (Nat.add_le_add (xlen_sle sTk1) (xlen_sle sBk2)) (by decide)))
      obtain ⟨lr7, hlr⟩ : ∃ zz9, zz9 = va_up lr6 (5) (xmul (xTm im k1) (xBm im k2)) := ⟨_, rfl⟩
      rw [← hlr] at hC
      have e1 : lr7 1 = xmul (xBm im k1) (xTm im k2) := (congrFun hlr _).trans ((va_up_ne _ _ (by decide)).trans e1)
      have e0 : lr7 0 = xTm im k1 := (congrFun hlr _).trans ((va_up_ne _ _ (by decide)).trans e0)
      have e2 : lr7 2 = xBm im k2 := (congrFun hlr _).trans ((va_up_ne _ _ (by decide)).trans e2)
      have e5 : lr7 5 = xmul (xTm im k1) (xBm im k2) := (congrFun hlr _).trans (va_up_self _ _ _)
      refine lv_aload_n hx hb dX5_over_98 rfl (lv_at hl 0 rfl) ?_
      refine xw_get C hw hC.o (ci := 4) rfl iX5_over_X5 6 (by decide) (by decide +kernel) rfl dX5_over_99 ?_
      refine lv_aload_n hx hb dX5_over_102 rfl (lv_at hl 0 rfl) ?_
      refine xw_get C hw hC.o (ci := 4) rfl iX5_over_X5 11 (by decide) (by decide +kernel) rfl dX5_over_103 ?_
      refine xw_cv (xw_S (n := 2) (rest := []) C hw (kX5_copy l G B _ (la 0) (la 5) (xTm im k1) (xmul (xTm im k1) (xBm im k2)) (hC.r 0 (by decide) e0) (hC.r 5 (by decide) e5) (hC.ln (by decide) (by decide) (by decide)) (hC.rs 0 (by decide) e0) (hC.rs 5 (by decide) e5)) gX5_over_X5_copy rfl rfl rfl (by decide +kernel) ⟨Nat.le_of_ble_eq_true rfl, Nat.le_of_ble_eq_true rfl⟩ rfl hl.1 rfl (Nat.le_of_ble_eq_true rfl) dX5_over_106 ⟨Nat.le_of_ble_eq_true rfl, Nat.le_of_ble_eq_true rfl⟩ hS) hS (fun u H locs hpp hw hS => ?_)
      rw [hpp] at hw
      have hC := hC.set (i := 0) (by decide) (show xlc 0 = 64 by decide) (f := xmul (xTm im k1) (xBm im k2)) ((hC.rs 5 (by decide) e5))
      obtain ⟨lr8, hlr⟩ : ∃ zz9, zz9 = va_up lr7 (0) (xmul (xTm im k1) (xBm im k2)) := ⟨_, rfl⟩
      rw [← hlr] at hC
      have e1 : lr8 1 = xmul (xBm im k1) (xTm im k2) := (congrFun hlr _).trans ((va_up_ne _ _ (by decide)).trans e1)
      have e2 : lr8 2 = xBm im k2 := (congrFun hlr _).trans ((va_up_ne _ _ (by decide)).trans e2)
      have e5 : lr8 5 = xmul (xTm im k1) (xBm im k2) := (congrFun hlr _).trans ((va_up_ne _ _ (by decide)).trans e5)
      have e0 : lr8 0 = xmul (xTm im k1) (xBm im k2) := (congrFun hlr _).trans (va_up_self _ _ _)
      refine lv_aload_n hx hb dX5_over_109 rfl (lv_at hl 0 rfl) ?_
      refine xw_cv (xw_V (n := 0) (rest := []) C hw (kX5_lowest l G B _ mo la ia rq 0 mn im lr8 ro me wr hC (xmul (xTm im k1) (xBm im k2)) (xmul (xBm im k1) (xTm im k2)) e0 e1 (xlen_mul_ne sBk1 sTk2 (by decide) (by decide) (by decide) (hF k1 hk1) hc)) gX5_over_X5_lowest rfl rfl rfl (by decide +kernel) ⟨Nat.le_of_ble_eq_true rfl, Nat.le_of_ble_eq_true rfl⟩ hC.o rfl rfl hl.1 rfl (Nat.le_of_ble_eq_true rfl) dX5_over_110 ⟨Nat.le_of_ble_eq_true rfl, Nat.le_of_ble_eq_true rfl⟩ hS) hS (fun u9 H locs hq hw hS => ?_)
      obtain ⟨lr9, hC, e0, e1, hkl⟩ := hq
      refine lv_aload_n hx hb dX5_over_113 rfl (lv_at hl 0 rfl) ?_
      refine lv_iconst (v := 3) hx hb dX5_over_114 (by decide) ?_
      refine xw_ci (xw_V (n := 1) (rest := []) C hw (kX5_keep l G B _ mo la ia rq 0 mn im lr9 ro me wr hC (xnT (xmul (xTm im k1) (xBm im k2)) (xmul (xBm im k1) (xTm im k2))) (xnB (xmul (xTm im k1) (xBm im k2)) (xmul (xBm im k1) (xTm im k2))) e0 e1 3) gX5_over_X5_keep rfl rfl rfl (by decide +kernel) ⟨Nat.le_of_ble_eq_true rfl, Nat.le_of_ble_eq_true rfl⟩ hC.o rfl rfl hl.1 rfl (Nat.le_of_ble_eq_true rfl) dX5_over_115 ⟨Nat.le_of_ble_eq_true rfl, Nat.le_of_ble_eq_true rfl⟩ hS) hS (fun rz z H locs hz9 hw hS => ?_)
      exact xw_iret C hw hS (Nat.le_of_ble_eq_true rfl) (Nat.le_of_ble_eq_true rfl) (Or.inr (Or.inr ⟨k1, k2, hk1, hk2, rfl, rfl, hc, hz9⟩)) dX5_over_118
    · skip
      have hc : xlen (xTm im k2) 64 = 0 := Classical.byContradiction fun q => hc (by obtain ⟨i, hi⟩ : ∃ i, xlen (xTm im k2) 64 = i + 1 := ⟨xlen (xTm im k2) 64 - 1, by omega⟩; rw [hi, x_m1]; exact nI_pos' (by omega))
      refine lv_aload_n hx hb dX5_over_30 rfl (lv_at hl 0 rfl) ?_
      refine lv_iconst (v := 2) hx hb dX5_over_31 (by decide) ?_
      refine xw_ci (xw_V (n := 1) (rest := []) C hw (kX5_raise l G B _ mo la ia rq 0 mn im lr1 ro me wr hC 2) gX5_over_X5_raise rfl rfl rfl (by decide +kernel) ⟨Nat.le_of_ble_eq_true rfl, Nat.le_of_ble_eq_true rfl⟩ hC.o rfl rfl hl.1 rfl (Nat.le_of_ble_eq_true rfl) dX5_over_32 ⟨Nat.le_of_ble_eq_true rfl, Nat.le_of_ble_eq_true rfl⟩ hS) hS (fun ru u H locs hp hw hS => ?_)
      obtain ⟨hr, hu⟩ := hp
      rw [hu] at hw
      refine xw_ti (y := 0) (hr) ?_
      have hC := hC.setO 2 mn me hC.m50
      exact xw_iret C hw hS (Nat.le_of_ble_eq_true rfl) (Nat.le_of_ble_eq_true rfl) (Or.inr (Or.inl ⟨k1, k2, hk1, hk2, rfl, rfl, hc, rfl, _, _, _, hC⟩)) dX5_over_35
  · skip
    rw [hu] at hw
    refine xw_ti (y := 0) (hz) ?_
    have hC := hC.setO 1 mn me hC.m50
    refine lv_if_ne (tgt := 11) hx hb dX5_over_6 (by decide) (fun hc => absurd (rfl) hc) (fun _ => ?_)
    refine lv_iconst (v := 0) hx hb dX5_over_9 (by decide) ?_
    exact xw_iret C hw hS (Nat.le_of_ble_eq_true rfl) (Nat.le_of_ble_eq_true rfl) (Or.inl ⟨hy, rfl, _, _, _, hC⟩) dX5_over_10

abbrev rmX5_moved : Room := { frames := 3, cells := 0, slots := 0, locals := 68 }
theorem iX5_moved_X5 : ∀ w ∈ wsX50, w ∈ wsX5_moved := by decide +kernel
set_option maxHeartbeats 4000000 in
set_option maxRecDepth 100000 in
theorem kX5_moved (l : Launch) (G : xG) (B : Nat) (w : xM) (mo : Nat) (la ia : Nat → Nat) (rq : Nat) (co : Int32) (mn : Nat) (im lr : Nat → xP) (ro : Nat → Option Nat) (me : Int32) (wr : xM) (hC : xML G w mo la ia rq co mn im lr ro me wr) (x : Int32) : Met l yX5_moved wsX5_moved rmX5_moved (va_Pc [.ref mo, .int x] (xB G B w)) (va_Qi (fun r u => (¬ xIs mn x ∧ r = 0 ∧ xMK G mo la ia rq 1 mn im wr u) ∨ ∃ k1, k1 < mn ∧ x = nI k1 ∧ xKe G mo la ia rq mn im wr (xmM 63 (xTm im k1)) (xmM 63 (xBm im k1)) 2 r u) (xE G B) (xA B)) 0 0 (xA B) := by
  refine xw_start (own := RX5) (mn := "moved") (cc := cX5_moved) (nL := 2) (rt := (some .int)) (by decide) rfl rfl rfl (Nat.le_of_ble_eq_true rfl) ?_
  intro p ev s m below meth cd ls C hl hw hS
  obtain ⟨hx, hb, -, -, -, hts, -, -, -, -⟩ := id C
  have hl : lv_has ls 2 [(0, .ref mo), (1, .int x)] := hl
  refine lv_aload_n hx hb dX5_moved_0 rfl (lv_at hl 0 rfl) ?_
  refine lv_iload_n hx hb dX5_moved_1 rfl (lv_at hl 1 rfl) ?_
  refine lv_iload_n hx hb dX5_moved_2 rfl (lv_at hl 1 rfl) ?_
  refine xw_ci (xw_V (n := 2) (rest := []) C hw (kX5_are l G B _ mo la ia rq co mn im lr ro me wr hC x x) gX5_moved_X5_are rfl rfl rfl (by decide +kernel) ⟨Nat.le_of_ble_eq_true rfl, Nat.le_of_ble_eq_true rfl⟩ hC.o rfl rfl hl.1 rfl (Nat.le_of_ble_eq_true rfl) dX5_moved_3 ⟨Nat.le_of_ble_eq_true rfl, Nat.le_of_ble_eq_true rfl⟩ hS) hS (fun rq9 q9 H locs hq hw hS => ?_)
  rcases hq with ⟨hz, hy, hu⟩ | ⟨hz, hy, hu⟩
  · skip
    rw [hu] at hw
    refine xw_ti (y := 1) (hz) ?_
    have hC := hC.setO 0 mn me hC.m50
    obtain ⟨⟨k1, hk1, rfl⟩, -⟩ := hy
    refine lv_if_ne (tgt := 11) hx hb dX5_moved_6 (by decide) (fun _ => ?_) (fun hc => absurd hc (by decide))
    refine lv_aload_n hx hb dX5_moved_11 rfl (lv_at hl 0 rfl) ?_
    refine lv_aload_n hx hb dX5_moved_12 rfl (lv_at hl 0 rfl) ?_
    refine xw_get C hw hC.o (ci := 4) rfl iX5_moved_X5 6 (by decide) (by decide +kernel) rfl dX5_moved_13 ?_
    refine lv_iload_n hx hb dX5_moved_16 rfl (lv_at hl 1 rfl) ?_
    refine xw_cv (xw_V (n := 2) (rest := []) C hw (kX5_loadTop l G B _ mo la ia rq 0 mn im lr ro me wr hC 0 (by decide) (lr 0) rfl k1 hk1) gX5_moved_X5_loadTop rfl rfl rfl (by decide +kernel) ⟨Nat.le_of_ble_eq_true rfl, Nat.le_of_ble_eq_true rfl⟩ hC.o rfl rfl hl.1 rfl (Nat.le_of_ble_eq_true rfl) dX5_moved_17 ⟨Nat.le_of_ble_eq_true rfl, Nat.le_of_ble_eq_true rfl⟩ hS) hS (fun u H locs hpp hw hS => ?_)
    rw [hpp] at hw
    have hC := hC.set (i := 0) (by decide) (show xlc 0 = 64 by decide) (f := xTm im k1) (xld_sup _ _ (by decide))
    obtain ⟨lr1, hlr⟩ : ∃ zz9, zz9 = va_up lr (0) (xTm im k1) := ⟨_, rfl⟩
    rw [← hlr] at hC
    have e0 : lr1 0 = xTm im k1 := (congrFun hlr _).trans (va_up_self _ _ _)
    refine lv_aload_n hx hb dX5_moved_20 rfl (lv_at hl 0 rfl) ?_
    refine lv_aload_n hx hb dX5_moved_21 rfl (lv_at hl 0 rfl) ?_
    refine xw_get C hw hC.o (ci := 4) rfl iX5_moved_X5 7 (by decide) (by decide +kernel) rfl dX5_moved_22 ?_
    refine lv_iload_n hx hb dX5_moved_25 rfl (lv_at hl 1 rfl) ?_
    refine xw_cv (xw_V (n := 2) (rest := []) C hw (kX5_loadBottom l G B _ mo la ia rq 0 mn im lr1 ro me wr hC 1 (by decide) (lr1 1) rfl k1 hk1) gX5_moved_X5_loadBottom rfl rfl rfl (by decide +kernel) ⟨Nat.le_of_ble_eq_true rfl, Nat.le_of_ble_eq_true rfl⟩ hC.o rfl rfl hl.1 rfl (Nat.le_of_ble_eq_true rfl) dX5_moved_26 ⟨Nat.le_of_ble_eq_true rfl, Nat.le_of_ble_eq_true rfl⟩ hS) hS (fun u H locs hpp hw hS => ?_)
    rw [hpp] at hw
    have hC := hC.set (i := 1) (by decide) (show xlc 1 = 64 by decide) (f := xBm im k1) (xld_sup _ _ (by decide))
    obtain ⟨lr2, hlr⟩ : ∃ zz9, zz9 = va_up lr1 (1) (xBm im k1) := ⟨_, rfl⟩
    rw [← hlr] at hC
    have e0 : lr2 0 = xTm im k1 := (congrFun hlr _).trans ((va_up_ne _ _ (by decide)).trans e0)
    have e1 : lr2 1 = xBm im k1 := (congrFun hlr _).trans (va_up_self _ _ _)
    refine lv_aload_n hx hb dX5_moved_29 rfl (lv_at hl 0 rfl) ?_
    refine xw_get C hw hC.o (ci := 4) rfl iX5_moved_X5 6 (by decide) (by decide +kernel) rfl dX5_moved_30 ?_
    refine xw_cv (xw_S (n := 1) (rest := []) C hw (kX5_move l G B _ (la 0) (xTm im k1) (hC.r 0 (by decide) e0) (hC.rs 0 (by decide) e0)) gX5_moved_X5_move rfl rfl rfl (by decide +kernel) ⟨Nat.le_of_ble_eq_true rfl, Nat.le_of_ble_eq_true rfl⟩ rfl hl.1 rfl (Nat.le_of_ble_eq_true rfl) dX5_moved_33 ⟨Nat.le_of_ble_eq_true rfl, Nat.le_of_ble_eq_true rfl⟩ hS) hS (fun u H locs hpp hw hS => ?_)
    rw [hpp] at hw
    have hC := hC.set (i := 0) (by decide) (show xlc 0 = 64 by decide) (f := xmM 63 (xTm im k1)) (xmM_sup (hC.rs 0 (by decide) e0) 63)
    obtain ⟨lr3, hlr⟩ : ∃ zz9, zz9 = va_up lr2 (0) (xmM 63 (xTm im k1)) := ⟨_, rfl⟩
    rw [← hlr] at hC
    have e1 : lr3 1 = xBm im k1 := (congrFun hlr _).trans ((va_up_ne _ _ (by decide)).trans e1)
    have e0 : lr3 0 = xmM 63 (xTm im k1) := (congrFun hlr _).trans (va_up_self _ _ _)
    refine lv_aload_n hx hb dX5_moved_36 rfl (lv_at hl 0 rfl) ?_
    refine xw_get C hw hC.o (ci := 4) rfl iX5_moved_X5 7 (by decide) (by decide +kernel) rfl dX5_moved_37 ?_
    refine xw_cv (xw_S (n := 1) (rest := []) C hw (kX5_move l G B _ (la 1) (xBm im k1) (hC.r 1 (by decide) e1) (hC.rs 1 (by decide) e1)) gX5_moved_X5_move rfl rfl rfl (by decide +kernel) ⟨Nat.le_of_ble_eq_true rfl, Nat.le_of_ble_eq_true rfl⟩ rfl hl.1 rfl (Nat.le_of_ble_eq_true rfl) dX5_moved_40 ⟨Nat.le_of_ble_eq_true rfl, Nat.le_of_ble_eq_true rfl⟩ hS) hS (fun u H locs hpp hw hS => ?_)
    rw [hpp] at hw
    have hC := hC.set (i := 1) (by decide) (show xlc 1 = 64 by decide) (f := xmM 63 (xBm im k1)) (xmM_sup (hC.rs 1 (by decide) e1) 63)
    obtain ⟨lr4, hlr⟩ : ∃ zz9, zz9 = va_up lr3 (1) (xmM 63 (xBm im k1)) := ⟨_, rfl⟩
    rw [← hlr] at hC
    have e0 : lr4 0 = xmM 63 (xTm im k1) := (congrFun hlr _).trans ((va_up_ne _ _ (by decide)).trans e0)
    have e1 : lr4 1 = xmM 63 (xBm im k1) := (congrFun hlr _).trans (va_up_self _ _ _)
    refine lv_aload_n hx hb dX5_moved_43 rfl (lv_at hl 0 rfl) ?_
    refine lv_iconst (v := 2) hx hb dX5_moved_44 (by decide) ?_
    refine xw_ci (xw_V (n := 1) (rest := []) C hw (kX5_keep l G B _ mo la ia rq 0 mn im lr4 ro me wr hC (xmM 63 (xTm im k1)) (xmM 63 (xBm im k1)) e0 e1 2) gX5_moved_X5_keep rfl rfl rfl (by decide +kernel) ⟨Nat.le_of_ble_eq_true rfl, Nat.le_of_ble_eq_true rfl⟩ hC.o rfl rfl hl.1 rfl (Nat.le_of_ble_eq_true rfl) dX5_moved_45 ⟨Nat.le_of_ble_eq_true rfl, Nat.le_of_ble_eq_true rfl⟩ hS) hS (fun rz z H locs hz9 hw hS => ?_)
    exact xw_iret C hw hS (Nat.le_of_ble_eq_true rfl) (Nat.le_of_ble_eq_true rfl) (Or.inr ⟨k1, hk1, rfl, hz9⟩) dX5_moved_48
  · skip
    rw [hu] at hw
    refine xw_ti (y := 0) (hz) ?_
    have hC := hC.setO 1 mn me hC.m50
    refine lv_if_ne (tgt := 11) hx hb dX5_moved_6 (by decide) (fun hc => absurd (rfl) hc) (fun _ => ?_)
    refine lv_iconst (v := 0) hx hb dX5_moved_9 (by decide) ?_
    exact xw_iret C hw hS (Nat.le_of_ble_eq_true rfl) (Nat.le_of_ble_eq_true rfl) (Or.inl ⟨fun q => hy ⟨q, q⟩, rfl, _, _, _, hC⟩) dX5_moved_10

abbrev rmX5_makeStep : Room := { frames := 3, cells := 0, slots := 0, locals := 78 }
theorem iX5_makeStep_X5 : ∀ w ∈ wsX50, w ∈ wsX5_makeStep := by decide +kernel
set_option maxHeartbeats 4000000 in
set_option maxRecDepth 100000 in
theorem kX5_makeStep (l : Launch) (G : xG) (B : Nat) (w : xM) (mo : Nat) (la ia : Nat → Nat) (rq : Nat) (co : Int32) (mn : Nat) (im lr : Nat → xP) (ro : Nat → Option Nat) (me : Int32) (wr : xM) (hC : xML G w mo la ia rq co mn im lr ro me wr) (t b : xP) (et : lr 0 = t) (eb : lr 1 = b) (st : xsup t 21) (sb : xsup b 21) (hb0 : xlen b 64 ≠ 0) (hr0 : xlen (im 3) 64 ≠ 0) : Met l yX5_makeStep wsX5_makeStep rmX5_makeStep (va_Pc [.ref mo] (xB G B w)) (va_Qv (fun u => ∃ lr2, xML G u mo la ia rq co mn im lr2 ro me wr ∧ lr2 0 = xnT (xstN t b (im 2) (im 3)) (xstD b (im 3)) ∧ lr2 1 = xnB (xstN t b (im 2) (im 3)) (xstD b (im 3))) (xE G B) (xA B)) 0 0 (xA B) := by
  refine xw_start (own := RX5) (mn := "makeStep") (cc := cX5_makeStep) (nL := 2) (rt := none) (by decide) rfl rfl rfl (Nat.le_of_ble_eq_true rfl) ?_
  intro p ev s m below meth cd ls C hl hw hS
  obtain ⟨hx, hb, -, -, -, hts, -, -, -, -⟩ := id C
  have hl : lv_has ls 2 [(0, .ref mo)] := hl
  have sr2 : xsup (im 2) 4 := (hC.2.1 2 (by decide)).2
  have sr3 : xsup (im 3) 4 := (hC.2.1 3 (by decide)).2
  have sMt := xmM_sup2 st 63
  have sMb := xmM_sup2 sb 63
  have sb64 : xsup b 64 := xsup_mono sb (by decide)
  have s1 := xmul_sup sMt sr2
  have s2 := xmul_sup sMb sr3
  refine lv_aload_n hx hb dX5_makeStep_0 rfl (lv_at hl 0 rfl) ?_
  refine xw_get C hw hC.o (ci := 4) rfl iX5_makeStep_X5 9 (by decide) (by decide +kernel) rfl dX5_makeStep_1 ?_
  refine lv_aload_n hx hb dX5_makeStep_4 rfl (lv_at hl 0 rfl) ?_
  refine xw_get C hw hC.o (ci := 4) rfl iX5_makeStep_X5 6 (by decide) (by decide +kernel) rfl dX5_makeStep_5 ?_
  refine xw_cv (xw_S (n := 2) (rest := []) C hw (kX5_copy l G B _ (la 3) (la 0) (lr 3) t (hC.r 3 (by decide) rfl) (hC.r 0 (by decide) et) (hC.ln (by decide) (by decide) (by decide)) (hC.rs 3 (by decide) rfl) (hC.rs 0 (by decide) et)) gX5_makeStep_X5_copy rfl rfl rfl (by decide +kernel) ⟨Nat.le_of_ble_eq_true rfl, Nat.le_of_ble_eq_true rfl⟩ rfl hl.1 rfl (Nat.le_of_ble_eq_true rfl) dX5_makeStep_8 ⟨Nat.le_of_ble_eq_true rfl, Nat.le_of_ble_eq_true rfl⟩ hS) hS (fun u H locs hpp hw hS => ?_)
  rw [hpp] at hw
  have hC := hC.set (i := 3) (by decide) (show xlc 3 = 64 by decide) (f := t) ((hC.rs 0 (by decide) et))
  obtain ⟨lr1, hlr⟩ : ∃ zz9, zz9 = va_up lr (3) (t) := ⟨_, rfl⟩
  rw [← hlr] at hC
  have et : lr1 0 = t := (congrFun hlr _).trans ((va_up_ne _ _ (by decide)).trans et)
  have eb : lr1 1 = b := (congrFun hlr _).trans ((va_up_ne _ _ (by decide)).trans eb)
  have e3 : lr1 3 = t := (congrFun hlr _).trans (va_up_self _ _ _)
  refine lv_aload_n hx hb dX5_makeStep_11 rfl (lv_at hl 0 rfl) ?_
  refine xw_get C hw hC.o (ci := 4) rfl iX5_makeStep_X5 10 (by decide) (by decide +kernel) rfl dX5_makeStep_12 ?_
  refine lv_aload_n hx hb dX5_makeStep_15 rfl (lv_at hl 0 rfl) ?_
  refine xw_get C hw hC.o (ci := 4) rfl iX5_makeStep_X5 7 (by decide) (by decide +kernel) rfl dX5_makeStep_16 ?_
  refine xw_cv (xw_S (n := 2) (rest := []) C hw (kX5_copy l G B _ (la 4) (la 1) (lr1 4) b (hC.r 4 (by decide) rfl) (hC.r 1 (by decide) eb) (hC.ln (by decide) (by decide) (by decide)) (hC.rs 4 (by decide) rfl) (hC.rs 1 (by decide) eb)) gX5_makeStep_X5_copy rfl rfl rfl (by decide +kernel) ⟨Nat.le_of_ble_eq_true rfl, Nat.le_of_ble_eq_true rfl⟩ rfl hl.1 rfl (Nat.le_of_ble_eq_true rfl) dX5_makeStep_19 ⟨Nat.le_of_ble_eq_true rfl, Nat.le_of_ble_eq_true rfl⟩ hS) hS (fun u H locs hpp hw hS => ?_)
  rw [hpp] at hw
  have hC := hC.set (i := 4) (by decide) (show xlc 4 = 64 by decide) (f := b) ((hC.rs 1 (by decide) eb))
  obtain ⟨lr2, hlr⟩ : ∃ zz9, zz9 = va_up lr1 (4) (b) := ⟨_, rfl⟩
  rw [← hlr] at hC
  have et : lr2 0 = t := (congrFun hlr _).trans ((va_up_ne _ _ (by decide)).trans et)
  have eb : lr2 1 = b := (congrFun hlr _).trans ((va_up_ne _ _ (by decide)).trans eb)
  have e3 : lr2 3 = t := (congrFun hlr _).trans ((va_up_ne _ _ (by decide)).trans e3)
  have e4 : lr2 4 = b := (congrFun hlr _).trans (va_up_self _ _ _)
  refine lv_aload_n hx hb dX5_makeStep_22 rfl (lv_at hl 0 rfl) ?_
  refine xw_get C hw hC.o (ci := 4) rfl iX5_makeStep_X5 6 (by decide) (by decide +kernel) rfl dX5_makeStep_23 ?_
  refine xw_cv (xw_S (n := 1) (rest := []) C hw (kX5_move l G B _ (la 0) t (hC.r 0 (by decide) et) (hC.rs 0 (by decide) et)) gX5_makeStep_X5_move rfl rfl rfl (by decide +kernel) ⟨Nat.le_of_ble_eq_true rfl, Nat.le_of_ble_eq_true rfl⟩ rfl hl.1 rfl (Nat.le_of_ble_eq_true rfl) dX5_makeStep_26 ⟨Nat.le_of_ble_eq_true rfl, Nat.le_of_ble_eq_true rfl⟩ hS) hS (fun u H locs hpp hw hS => ?_)
  rw [hpp] at hw
  have hC := hC.set (i := 0) (by decide) (show xlc 0 = 64 by decide) (f := xmM 63 t) (xmM_sup (hC.rs 0 (by decide) et) 63)
  obtain ⟨lr3, hlr⟩ : ∃ zz9, zz9 = va_up lr2 (0) (xmM 63 t) := ⟨_, rfl⟩
  rw [← hlr] at hC
  have eb : lr3 1 = b := (congrFun hlr _).trans ((va_up_ne _ _ (by decide)).trans eb)
  have e3 : lr3 3 = t := (congrFun hlr _).trans ((va_up_ne _ _ (by decide)).trans e3)
  have e4 : lr3 4 = b := (congrFun hlr _).trans ((va_up_ne _ _ (by decide)).trans e4)
  have e0 : lr3 0 = xmM 63 t := (congrFun hlr _).trans (va_up_self _ _ _)
  refine lv_aload_n hx hb dX5_makeStep_29 rfl (lv_at hl 0 rfl) ?_
  refine xw_get C hw hC.o (ci := 4) rfl iX5_makeStep_X5 7 (by decide) (by decide +kernel) rfl dX5_makeStep_30 ?_
  refine xw_cv (xw_S (n := 1) (rest := []) C hw (kX5_move l G B _ (la 1) b (hC.r 1 (by decide) eb) (hC.rs 1 (by decide) eb)) gX5_makeStep_X5_move rfl rfl rfl (by decide +kernel) ⟨Nat.le_of_ble_eq_true rfl, Nat.le_of_ble_eq_true rfl⟩ rfl hl.1 rfl (Nat.le_of_ble_eq_true rfl) dX5_makeStep_33 ⟨Nat.le_of_ble_eq_true rfl, Nat.le_of_ble_eq_true rfl⟩ hS) hS (fun u H locs hpp hw hS => ?_)
  rw [hpp] at hw
  have hC := hC.set (i := 1) (by decide) (show xlc 1 = 64 by decide) (f := xmM 63 b) (xmM_sup (hC.rs 1 (by decide) eb) 63)
  obtain ⟨lr4, hlr⟩ : ∃ zz9, zz9 = va_up lr3 (1) (xmM 63 b) := ⟨_, rfl⟩
  rw [← hlr] at hC
  have e3 : lr4 3 = t := (congrFun hlr _).trans ((va_up_ne _ _ (by decide)).trans e3)
  have e4 : lr4 4 = b := (congrFun hlr _).trans ((va_up_ne _ _ (by decide)).trans e4)
  have e0 : lr4 0 = xmM 63 t := (congrFun hlr _).trans ((va_up_ne _ _ (by decide)).trans e0)
  have e1 : lr4 1 = xmM 63 b := (congrFun hlr _).trans (va_up_self _ _ _)
  refine lv_aload_n hx hb dX5_makeStep_36 rfl (lv_at hl 0 rfl) ?_
  refine xw_get C hw hC.o (ci := 4) rfl iX5_makeStep_X5 8 (by decide) (by decide +kernel) rfl dX5_makeStep_37 ?_
  refine lv_aload_n hx hb dX5_makeStep_40 rfl (lv_at hl 0 rfl) ?_
  refine xw_get C hw hC.o (ci := 4) rfl iX5_makeStep_X5 4 (by decide) (by decide +kernel) rfl dX5_makeStep_41 ?_
  refine lv_iconst (v := 0) hx hb dX5_makeStep_44 (by decide) ?_
  refine xw_ti (y := (nI 0)) (nI_0.symm) ?_
  refine lv_iconst (v := 4) hx hb dX5_makeStep_45 (by decide) ?_
  refine xw_ti (y := (nI 4)) (by decide) ?_
  refine xw_cv (xw_S (n := 4) (rest := []) C hw (kX5_load l G B _ (la 2) (ia 2) (lr4 2) (im 2) 4 0 4 (hC.r 2 (by decide) rfl) (hC.i 2 (by decide) rfl) (hC.rs 2 (by decide) rfl) (by decide) (by decide) (by decide)) gX5_makeStep_X5_load rfl rfl rfl (by decide +kernel) ⟨Nat.le_of_ble_eq_true rfl, Nat.le_of_ble_eq_true rfl⟩ rfl hl.1 rfl (Nat.le_of_ble_eq_true rfl) dX5_makeStep_46 ⟨Nat.le_of_ble_eq_true rfl, Nat.le_of_ble_eq_true rfl⟩ hS) hS (fun u H locs hpp hw hS => ?_)
  rw [hpp] at hw
  rw [xld_id sr2] at hw
  have hC := hC.set (i := 2) (by decide) (show xlc 2 = 64 by decide) (f := im 2) (xsup_mono sr2 (by decide))
  obtain ⟨lr5, hlr⟩ : ∃ zz9, zz9 = va_up lr4 (2) (im 2) := ⟨_, rfl⟩
  rw [← hlr] at hC
  have e3 : lr5 3 = t := (congrFun hlr _).trans ((va_up_ne _ _ (by decide)).trans e3)
  have e4 : lr5 4 = b := (congrFun hlr _).trans ((va_up_ne _ _ (by decide)).trans e4)
  have e0 : lr5 0 = xmM 63 t := (congrFun hlr _).trans ((va_up_ne _ _ (by decide)).trans e0)
  have e1 : lr5 1 = xmM 63 b := (congrFun hlr _).trans ((va_up_ne _ _ (by decide)).trans e1)
  have e2 : lr5 2 = im 2 := (congrFun hlr _).trans (va_up_self _ _ _)
  refine lv_aload_n hx hb dX5_makeStep_49 rfl (lv_at hl 0 rfl) ?_
  refine lv_aload_n hx hb dX5_makeStep_50 rfl (lv_at hl 0 rfl) ?_
  refine xw_get C hw hC.o (ci := 4) rfl iX5_makeStep_X5 6 (by decide) (by decide +kernel) rfl dX5_makeStep_51 ?_
  refine lv_aload_n hx hb dX5_makeStep_54 rfl (lv_at hl 0 rfl) ?_
  refine xw_get C hw hC.o (ci := 4) rfl iX5_makeStep_X5 8 (by decide) (by decide +kernel) rfl dX5_makeStep_55 ?_
  refine xw_cv (xw_V (n := 2) (rest := []) C hw (kX5_multiply l G B _ mo la ia rq co mn im lr5 ro me wr hC 0 2 (by decide) (by decide) (by decide) (by decide) (xmM 63 t) (im 2) e0 e2 (Nat.le_trans (Nat.add_le_add (xlen_sle sMt) (xlen_sle sr2)) (by decide))) gX5_makeStep_X5_multiply rfl rfl rfl (by decide +kernel) ⟨Nat.le_of_ble_eq_true rfl, Nat.le_of_ble_eq_true rfl⟩ hC.o rfl rfl hl.1 rfl (Nat.le_of_ble_eq_true rfl) dX5_makeStep_58 ⟨Nat.le_of_ble_eq_true rfl, Nat.le_of_ble_eq_true rfl⟩ hS) hS (fun u H locs hpp hw hS => ?_)
  rw [hpp] at hw
  have hC := hC.set (i := 5) (by decide) (show xlc 5 = 64 by decide) (f := xmul (xmM 63 t) (im 2)) (xmul_s64 (hC.rs 0 (by decide) e0) (hC.rs 2 (by decide) e2) (Nat.le_trans (Nat.add_le_add (xlen_sle sMt) (xlen_sle sr2)) (by decide)))
  obtain ⟨lr6, hlr⟩ : ∃ zz9, zz9 = va_up lr5 (5) (xmul (xmM 63 t) (im 2)) := ⟨_, rfl⟩
  rw [← hlr] at hC
  have e3 : lr6 3 = t := (congrFun hlr _).trans ((va_up_ne _ _ (by decide)).trans e3)
  have e4 : lr6 4 = b := (congrFun hlr _).trans ((va_up_ne _ _ (by decide)).trans e4)
  have e0 : lr6 0 = xmM 63 t := (congrFun hlr _).trans ((va_up_ne _ _ (by decide)).trans e0)
  have e1 : lr6 1 = xmM 63 b := (congrFun hlr _).trans ((va_up_ne _ _ (by decide)).trans e1)
  have e2 : lr6 2 = im 2 := (congrFun hlr _).trans ((va_up_ne _ _ (by decide)).trans e2)
  have e5 : lr6 5 = xmul (xmM 63 t) (im 2) := (congrFun hlr _).trans (va_up_self _ _ _)
  refine lv_aload_n hx hb dX5_makeStep_61 rfl (lv_at hl 0 rfl) ?_
  refine xw_get C hw hC.o (ci := 4) rfl iX5_makeStep_X5 6 (by decide) (by decide +kernel) rfl dX5_makeStep_62 ?_
  refine lv_aload_n hx hb dX5_makeStep_65 rfl (lv_at hl 0 rfl) ?_
  refine xw_get C hw hC.o (ci := 4) rfl iX5_makeStep_X5 11 (by decide) (by decide +kernel) rfl dX5_makeStep_66 ?_
  refine xw_cv (xw_S (n := 2) (rest := []) C hw (kX5_copy l G B _ (la 0) (la 5) (xmM 63 t) (xmul (xmM 63 t) (im 2)) (hC.r 0 (by decide) e0) (hC.r 5 (by decide) e5) (hC.ln (by decide) (by decide) (by decide)) (hC.rs 0 (by decide) e0) (hC.rs 5 (by decide) e5)) gX5_makeStep_X5_copy rfl rfl rfl (by decide +kernel) ⟨Nat.le_of_ble_eq_true rfl, Nat.le_of_ble_eq_true rfl⟩ rfl hl.1 rfl (Nat.le_of_ble_eq_true rfl) dX5_makeStep_69 ⟨Nat.le_of_ble_eq_true rfl, Nat.le_of_ble_eq_true rfl⟩ hS) hS (fun u H locs hpp hw hS => ?_)
  rw [hpp] at hw
  have hC := hC.set (i := 0) (by decide) (show xlc 0 = 64 by decide) (f := xmul (xmM 63 t) (im 2)) ((hC.rs 5 (by decide) e5))
  obtain ⟨lr7, hlr⟩ : ∃ zz9, zz9 = va_up lr6 (0) (xmul (xmM 63 t) (im 2)) := ⟨_, rfl⟩
  rw [← hlr] at hC
  have e3 : lr7 3 = t := (congrFun hlr _).trans ((va_up_ne _ _ (by decide)).trans e3)
  have e4 : lr7 4 = b := (congrFun hlr _).trans ((va_up_ne _ _ (by decide)).trans e4)
  have e1 : lr7 1 = xmM 63 b := (congrFun hlr _).trans ((va_up_ne _ _ (by decide)).trans e1)
  have e2 : lr7 2 = im 2 := (congrFun hlr _).trans ((va_up_ne _ _ (by decide)).trans e2)
  have e5 : lr7 5 = xmul (xmM 63 t) (im 2) := (congrFun hlr _).trans ((va_up_ne _ _ (by decide)).trans e5)
  have e0 : lr7 0 = xmul (xmM 63 t) (im 2) := (congrFun hlr _).trans (va_up_self _ _ _)
  refine lv_aload_n hx hb dX5_makeStep_72 rfl (lv_at hl 0 rfl) ?_
  refine xw_get C hw hC.o (ci := 4) rfl iX5_makeStep_X5 8 (by decide) (by decide +kernel) rfl dX5_makeStep_73 ?_
  refine lv_aload_n hx hb dX5_makeStep_76 rfl (lv_at hl 0 rfl) ?_
  refine xw_get C hw hC.o (ci := 4) rfl iX5_makeStep_X5 5 (by decide) (by decide +kernel) rfl dX5_makeStep_77 ?_
  refine lv_iconst (v := 0) hx hb dX5_makeStep_80 (by decide) ?_
  refine xw_ti (y := (nI 0)) (nI_0.symm) ?_
  refine lv_iconst (v := 4) hx hb dX5_makeStep_81 (by decide) ?_
  refine xw_ti (y := (nI 4)) (by decide) ?_
  refine xw_cv (xw_S (n := 4) (rest := []) C hw (kX5_load l G B _ (la 2) (ia 3) (im 2) (im 3) 4 0 4 (hC.r 2 (by decide) e2) (hC.i 3 (by decide) rfl) (hC.rs 2 (by decide) e2) (by decide) (by decide) (by decide)) gX5_makeStep_X5_load rfl rfl rfl (by decide +kernel) ⟨Nat.le_of_ble_eq_true rfl, Nat.le_of_ble_eq_true rfl⟩ rfl hl.1 rfl (Nat.le_of_ble_eq_true rfl) dX5_makeStep_82 ⟨Nat.le_of_ble_eq_true rfl, Nat.le_of_ble_eq_true rfl⟩ hS) hS (fun u H locs hpp hw hS => ?_)
  rw [hpp] at hw
  rw [xld_id sr3] at hw
  have hC := hC.set (i := 2) (by decide) (show xlc 2 = 64 by decide) (f := im 3) (xsup_mono sr3 (by decide))
  obtain ⟨lr8, hlr⟩ : ∃ zz9, zz9 = va_up lr7 (2) (im 3) := ⟨_, rfl⟩
  rw [← hlr] at hC
  have e3 : lr8 3 = t := (congrFun hlr _).trans ((va_up_ne _ _ (by decide)).trans e3)
  have e4 : lr8 4 = b := (congrFun hlr _).trans ((va_up_ne _ _ (by decide)).trans e4)
  have e1 : lr8 1 = xmM 63 b := (congrFun hlr _).trans ((va_up_ne _ _ (by decide)).trans e1)
  have e5 : lr8 5 = xmul (xmM 63 t) (im 2) := (congrFun hlr _).trans ((va_up_ne _ _ (by decide)).trans e5)
  have e0 : lr8 0 = xmul (xmM 63 t) (im 2) := (congrFun hlr _).trans ((va_up_ne _ _ (by decide)).trans e0)
  have e2 : lr8 2 = im 3 := (congrFun hlr _).trans (va_up_self _ _ _)
  refine lv_aload_n hx hb dX5_makeStep_85 rfl (lv_at hl 0 rfl) ?_
  refine lv_aload_n hx hb dX5_makeStep_86 rfl (lv_at hl 0 rfl) ?_
  refine xw_get C hw hC.o (ci := 4) rfl iX5_makeStep_X5 7 (by decide) (by decide +kernel) rfl dX5_makeStep_87 ?_
  refine lv_aload_n hx hb dX5_makeStep_90 rfl (lv_at hl 0 rfl) ?_
  refine xw_get C hw hC.o (ci := 4) rfl iX5_makeStep_X5 8 (by decide) (by decide +kernel) rfl dX5_makeStep_91 ?_
  refine xw_cv (xw_V (n := 2) (rest := []) C hw (kX5_multiply l G B _ mo la ia rq co mn im lr8 ro me wr hC 1 2 (by decide) (by decide) (by decide) (by decide) (xmM 63 b) (im 3) e1 e2 (Nat.le_trans (Nat.add_le_add (xlen_sle sMb) (xlen_sle sr3)) (by decide))) gX5_makeStep_X5_multiply rfl rfl rfl (by decide +kernel) ⟨Nat.le_of_ble_eq_true rfl, Nat.le_of_ble_eq_true rfl⟩ hC.o rfl rfl hl.1 rfl (Nat.le_of_ble_eq_true rfl) dX5_makeStep_94 ⟨Nat.le_of_ble_eq_true rfl, Nat.le_of_ble_eq_true rfl⟩ hS) hS (fun u H locs hpp hw hS => ?_)
  rw [hpp] at hw
  have hC := hC.set (i := 5) (by decide) (show xlc 5 = 64 by decide) (f := xmul (xmM 63 b) (im 3)) (xmul_s64 (hC.rs 1 (by decide) e1) (hC.rs 2 (by decide) e2) (Nat.le_trans (Nat.add_le_add (xlen_sle sMb) (xlen_sle sr3)) (by decide)))
  obtain ⟨lr9, hlr⟩ : ∃ zz9, zz9 = va_up lr8 (5) (xmul (xmM 63 b) (im 3)) := ⟨_, rfl⟩
  rw [← hlr] at hC
  have e3 : lr9 3 = t := (congrFun hlr _).trans ((va_up_ne _ _ (by decide)).trans e3)
  have e4 : lr9 4 = b := (congrFun hlr _).trans ((va_up_ne _ _ (by decide)).trans e4)
  have e1 : lr9 1 = xmM 63 b := (congrFun hlr _).trans ((va_up_ne _ _ (by decide)).trans e1)
  have e0 : lr9 0 = xmul (xmM 63 t) (im 2) := (congrFun hlr _).trans ((va_up_ne _ _ (by decide)).trans e0)
  have e2 : lr9 2 = im 3 := (congrFun hlr _).trans ((va_up_ne _ _ (by decide)).trans e2)
  have e5 : lr9 5 = xmul (xmM 63 b) (im 3) := (congrFun hlr _).trans (va_up_self _ _ _)
  refine lv_aload_n hx hb dX5_makeStep_97 rfl (lv_at hl 0 rfl) ?_
  refine xw_get C hw hC.o (ci := 4) rfl iX5_makeStep_X5 7 (by decide) (by decide +kernel) rfl dX5_makeStep_98 ?_
  refine lv_aload_n hx hb dX5_makeStep_101 rfl (lv_at hl 0 rfl) ?_
  refine xw_get C hw hC.o (ci := 4) rfl iX5_makeStep_X5 11 (by decide) (by decide +kernel) rfl dX5_makeStep_102 ?_
  refine xw_cv (xw_S (n := 2) (rest := []) C hw (kX5_copy l G B _ (la 1) (la 5) (xmM 63 b) (xmul (xmM 63 b) (im 3)) (hC.r 1 (by decide) e1) (hC.r 5 (by decide) e5) (hC.ln (by decide) (by decide) (by decide)) (hC.rs 1 (by decide) e1) (hC.rs 5 (by decide) e5)) gX5_makeStep_X5_copy rfl rfl rfl (by decide +kernel) ⟨Nat.le_of_ble_eq_true rfl, Nat.le_of_ble_eq_true rfl⟩ rfl hl.1 rfl (Nat.le_of_ble_eq_true rfl) dX5_makeStep_105 ⟨Nat.le_of_ble_eq_true rfl, Nat.le_of_ble_eq_true rfl⟩ hS) hS (fun u H locs hpp hw hS => ?_)
  rw [hpp] at hw
  have hC := hC.set (i := 1) (by decide) (show xlc 1 = 64 by decide) (f := xmul (xmM 63 b) (im 3)) ((hC.rs 5 (by decide) e5))
  obtain ⟨lr10, hlr⟩ : ∃ zz9, zz9 = va_up lr9 (1) (xmul (xmM 63 b) (im 3)) := ⟨_, rfl⟩
  rw [← hlr] at hC
  have e3 : lr10 3 = t := (congrFun hlr _).trans ((va_up_ne _ _ (by decide)).trans e3)
  have e4 : lr10 4 = b := (congrFun hlr _).trans ((va_up_ne _ _ (by decide)).trans e4)
  have e0 : lr10 0 = xmul (xmM 63 t) (im 2) := (congrFun hlr _).trans ((va_up_ne _ _ (by decide)).trans e0)
  have e2 : lr10 2 = im 3 := (congrFun hlr _).trans ((va_up_ne _ _ (by decide)).trans e2)
  have e5 : lr10 5 = xmul (xmM 63 b) (im 3) := (congrFun hlr _).trans ((va_up_ne _ _ (by decide)).trans e5)
  have e1 : lr10 1 = xmul (xmM 63 b) (im 3) := (congrFun hlr _).trans (va_up_self _ _ _)
  refine lv_aload_n hx hb dX5_makeStep_108 rfl (lv_at hl 0 rfl) ?_
  refine lv_aload_n hx hb dX5_makeStep_109 rfl (lv_at hl 0 rfl) ?_
  refine xw_get C hw hC.o (ci := 4) rfl iX5_makeStep_X5 6 (by decide) (by decide +kernel) rfl dX5_makeStep_110 ?_
  refine lv_aload_n hx hb dX5_makeStep_113 rfl (lv_at hl 0 rfl) ?_
  refine xw_get C hw hC.o (ci := 4) rfl iX5_makeStep_X5 10 (by decide) (by decide +kernel) rfl dX5_makeStep_114 ?_
  refine xw_cv (xw_V (n := 2) (rest := []) C hw (kX5_multiply l G B _ mo la ia rq co mn im lr10 ro me wr hC 0 4 (by decide) (by decide) (by decide) (by decide) (xmul (xmM 63 t) (im 2)) b e0 e4 (Nat.le_trans (Nat.add_le_add (xlen_sle s1) (xlen_sle sb)) (by decide))) gX5_makeStep_X5_multiply rfl rfl rfl (by decide +kernel) ⟨Nat.le_of_ble_eq_true rfl, Nat.le_of_ble_eq_true rfl⟩ hC.o rfl rfl hl.1 rfl (Nat.le_of_ble_eq_true rfl) dX5_makeStep_117 ⟨Nat.le_of_ble_eq_true rfl, Nat.le_of_ble_eq_true rfl⟩ hS) hS (fun u H locs hpp hw hS => ?_)
  rw [hpp] at hw
  have hC := hC.set (i := 5) (by decide) (show xlc 5 = 64 by decide) (f := xmul (xmul (xmM 63 t) (im 2)) b) (xmul_s64 (hC.rs 0 (by decide) e0) (hC.rs 4 (by decide) e4) (Nat.le_trans (Nat.add_le_add (xlen_sle s1) (xlen_sle sb)) (by decide)))
  obtain ⟨lr11, hlr⟩ : ∃ zz9, zz9 = va_up lr10 (5) (xmul (xmul (xmM 63 t) (im 2)) b) := ⟨_, rfl⟩
  rw [← hlr] at hC
  have e3 : lr11 3 = t := (congrFun hlr _).trans ((va_up_ne _ _ (by decide)).trans e3)
  have e4 : lr11 4 = b := (congrFun hlr _).trans ((va_up_ne _ _ (by decide)).trans e4)
  have e0 : lr11 0 = xmul (xmM 63 t) (im 2) := (congrFun hlr _).trans ((va_up_ne _ _ (by decide)).trans e0)
  have e2 : lr11 2 = im 3 := (congrFun hlr _).trans ((va_up_ne _ _ (by decide)).trans e2)
  have e1 : lr11 1 = xmul (xmM 63 b) (im 3) := (congrFun hlr _).trans ((va_up_ne _ _ (by decide)).trans e1)
  have e5 : lr11 5 = xmul (xmul (xmM 63 t) (im 2)) b := (congrFun hlr _).trans (va_up_self _ _ _)
  refine lv_aload_n hx hb dX5_makeStep_120 rfl (lv_at hl 0 rfl) ?_
  refine xw_get C hw hC.o (ci := 4) rfl iX5_makeStep_X5 6 (by decide) (by decide +kernel) rfl dX5_makeStep_121 ?_
  refine lv_aload_n hx hb dX5_makeStep_124 rfl (lv_at hl 0 rfl) ?_
  refine xw_get C hw hC.o (ci := 4) rfl iX5_makeStep_X5 11 (by decide) (by decide +kernel) rfl dX5_makeStep_125 ?_
  refine xw_cv (xw_S (n := 2) (rest := []) C hw (kX5_copy l G B _ (la 0) (la 5) (xmul (xmM 63 t) (im 2)) (xmul (xmul (xmM 63 t) (im 2)) b) (hC.r 0 (by decide) e0) (hC.r 5 (by decide) e5) (hC.ln (by decide) (by decide) (by decide)) (hC.rs 0 (by decide) e0) (hC.rs 5 (by decide) e5)) gX5_makeStep_X5_copy rfl rfl rfl (by decide +kernel) ⟨Nat.le_of_ble_eq_true rfl, Nat.le_of_ble_eq_true rfl⟩ rfl hl.1 rfl (Nat.le_of_ble_eq_true rfl) dX5_makeStep_128 ⟨Nat.le_of_ble_eq_true rfl, Nat.le_of_ble_eq_true rfl⟩ hS) hS (fun u H locs hpp hw hS => ?_)
  rw [hpp] at hw
  have hC := hC.set (i := 0) (by decide) (show xlc 0 = 64 by decide) (f := xmul (xmul (xmM 63 t) (im 2)) b) ((hC.rs 5 (by decide) e5))
  obtain ⟨lr12, hlr⟩ : ∃ zz9, zz9 = va_up lr11 (0) (xmul (xmul (xmM 63 t) (im 2)) b) := ⟨_, rfl⟩
  rw [← hlr] at hC
  have e3 : lr12 3 = t := (congrFun hlr _).trans ((va_up_ne _ _ (by decide)).trans e3)
  have e4 : lr12 4 = b := (congrFun hlr _).trans ((va_up_ne _ _ (by decide)).trans e4)
  have e2 : lr12 2 = im 3 := (congrFun hlr _).trans ((va_up_ne _ _ (by decide)).trans e2)
  have e1 : lr12 1 = xmul (xmM 63 b) (im 3) := (congrFun hlr _).trans ((va_up_ne _ _ (by decide)).trans e1)
  have e5 : lr12 5 = xmul (xmul (xmM 63 t) (im 2)) b := (congrFun hlr _).trans ((va_up_ne _ _ (by decide)).trans e5)
  have e0 : lr12 0 = xmul (xmul (xmM 63 t) (im 2)) b := (congrFun hlr _).trans (va_up_self _ _ _)
  refine lv_aload_n hx hb dX5_makeStep_131 rfl (lv_at hl 0 rfl) ?_
  refine lv_aload_n hx hb dX5_makeStep_132 rfl (lv_at hl 0 rfl) ?_
  refine xw_get C hw hC.o (ci := 4) rfl iX5_makeStep_X5 9 (by decide) (by decide +kernel) rfl dX5_makeStep_133 ?_
  refine lv_aload_n hx hb dX5_makeStep_136 rfl (lv_at hl 0 rfl) ?_
  refine xw_get C hw hC.o (ci := 4) rfl iX5_makeStep_X5 7 (by decide) (by decide +kernel) rfl dX5_makeStep_137 ?_
  refine xw_cv (xw_V (n := 2) (rest := []) C hw (kX5_multiply l G B _ mo la ia rq co mn im lr12 ro me wr hC 3 1 (by decide) (by decide) (by decide) (by decide) t (xmul (xmM 63 b) (im 3)) e3 e1 (Nat.le_trans (Nat.add_le_add (xlen_sle st) (xlen_sle s2)) (by decide))) gX5_makeStep_X5_multiply rfl rfl rfl (by decide +kernel) ⟨Nat.le_of_ble_eq_true rfl, Nat.le_of_ble_eq_true rfl⟩ hC.o rfl rfl hl.1 rfl (Nat.le_of_ble_eq_true rfl) dX5_makeStep_140 ⟨Nat.le_of_ble_eq_true rfl, Nat.le_of_ble_eq_true rfl⟩ hS) hS (fun u H locs hpp hw hS => ?_)
  rw [hpp] at hw
  have hC := hC.set (i := 5) (by decide) (show xlc 5 = 64 by decide) (f := xmul t (xmul (xmM 63 b) (im 3))) (xmul_s64 (hC.rs 3 (by decide) e3) (hC.rs 1 (by decide) e1) (Nat.le_trans (Nat.add_le_add (xlen_sle st) (xlen_sle s2)) (by decide)))
  obtain ⟨lr13, hlr⟩ : ∃ zz9, zz9 = va_up lr12 (5) (xmul t (xmul (xmM 63 b) (im 3))) := ⟨_, rfl⟩
  rw [← hlr] at hC
  have e3 : lr13 3 = t := (congrFun hlr _).trans ((va_up_ne _ _ (by decide)).trans e3)
  have e4 : lr13 4 = b := (congrFun hlr _).trans ((va_up_ne _ _ (by decide)).trans e4)
  have e2 : lr13 2 = im 3 := (congrFun hlr _).trans ((va_up_ne _ _ (by decide)).trans e2)
  have e1 : lr13 1 = xmul (xmM 63 b) (im 3) := (congrFun hlr _).trans ((va_up_ne _ _ (by decide)).trans e1)
  have e0 : lr13 0 = xmul (xmul (xmM 63 t) (im 2)) b := (congrFun hlr _).trans ((va_up_ne _ _ (by decide)).trans e0)
  have e5 : lr13 5 = xmul t (xmul (xmM 63 b) (im 3)) := (congrFun hlr _).trans (va_up_self _ _ _)
  refine lv_iconst (v := 0) hx hb dX5_makeStep_143 (by decide) ?_
  refine xw_ti (y := (nI 0)) (nI_0.symm) ?_
  refine lv_istore_n (lv' := [(1, .int (nI 0)), (0, .ref mo)]) hx hb dX5_makeStep_144 rfl hl (by decide) rfl (fun ls hl => ?_)
  have sF : xsup (xstN t b (im 2) (im 3)) 64 := xsup_sb (hC.rs 0 (by decide) e0) (hC.rs 5 (by decide) e5)
  have sf0 : xsup (xmul (xmul (xmM 63 t) (im 2)) b) 64 := (hC.rs 0 (by decide) e0)
  have loop145 : ∀ (d k : Nat) (w1 : xM) (lr5 : Nat → xP) (ls : Array Slot) (H : Heap) (locs : List Loc), k + d = 64 → xML G w1 mo la ia rq co mn im lr5 ro me wr → lr5 0 = xmix (xstN t b (im 2) (im 3)) (xmul (xmul (xmM 63 t) (im 2)) b) k → lr5 3 = t → lr5 4 = b → lr5 2 = im 3 → lr5 1 = xmul (xmM 63 b) (im 3) → lr5 5 = xmul t (xmul (xmM 63 b) (im 3)) → xW G B w1 H → va_S (xA B) s.heap H locs → lv_has ls 2 [(1, .int (nI k)), (0, .ref mo)] → W p l ev rmX5_makeStep s m [.ref mo].toArray below meth cd H locs 0 0 (MQ below (va_Qv (fun u => ∃ lr2, xML G u mo la ia rq co mn im lr2 ro me wr ∧ lr2 0 = xnT (xstN t b (im 2) (im 3)) (xstD b (im 3)) ∧ lr2 1 = xnB (xstN t b (im 2) (im 3)) (xstD b (im 3))) (xE G B) (xA B)) [.ref mo].toArray s 0 0 (xA B)) (F0 m 145 ls []) := by
    intro d
    induction d with
    | zero =>
      intro k w1 lr5 ls H locs hk hC ez e3 e4 e2 e1 e5 hw hS hl
      refine lv_iload_n hx hb dX5_makeStep_145 rfl (lv_at hl 0 rfl) ?_
      refine lv_bipush (v := 64) hx hb dX5_makeStep_146 (by decide) ?_
      refine xw_ti (y := (nI 64)) (by decide) ?_
      refine lv_icmp_ge (tgt := 184) hx hb dX5_makeStep_148 (by decide) (fun _ => ?_) (fun hc => absurd ((nI_leI (by omega) (by omega)).mpr (by omega)) hc)
      have e0 : lr5 0 = xstN t b (im 2) (im 3) := by rw [ez, show k = 64 by omega, xmix_e sF sf0]
      refine lv_aload_n hx hb dX5_makeStep_184 rfl (lv_at hl 1 rfl) ?_
      refine lv_aload_n hx hb dX5_makeStep_185 rfl (lv_at hl 1 rfl) ?_
      refine xw_get C hw hC.o (ci := 4) rfl iX5_makeStep_X5 7 (by decide) (by decide +kernel) rfl dX5_makeStep_186 ?_
      refine lv_aload_n hx hb dX5_makeStep_189 rfl (lv_at hl 1 rfl) ?_
      refine xw_get C hw hC.o (ci := 4) rfl iX5_makeStep_X5 10 (by decide) (by decide +kernel) rfl dX5_makeStep_190 ?_
      refine xw_cv (xw_V (n := 2) (rest := []) C hw (kX5_multiply l G B _ mo la ia rq co mn im lr5 ro me wr hC 1 4 (by decide) (by decide) (by decide) (by decide) (xmul (xmM 63 b) (im 3)) b e1 e4 (Nat.le_trans (Nat.add_le_add (xlen_sle s2) (xlen_sle sb)) (by decide))) gX5_makeStep_X5_multiply rfl rfl rfl (by decide +kernel) ⟨Nat.le_of_ble_eq_true rfl, Nat.le_of_ble_eq_true rfl⟩ hC.o rfl rfl hl.1 rfl (Nat.le_of_ble_eq_true rfl) dX5_makeStep_193 ⟨Nat.le_of_ble_eq_true rfl, Nat.le_of_ble_eq_true rfl⟩ hS) hS (fun u H locs hpp hw hS => ?_)
      rw [hpp] at hw
      have hC := hC.set (i := 5) (by decide) (show xlc 5 = 64 by decide) (f := xmul (xmul (xmM 63 b) (im 3)) b) (xmul_s64 (hC.rs 1 (by decide) e1) (hC.rs 4 (by decide) e4) (Nat.le_trans (Nat.add_le_add (xlen_sle s2) (xlen_sle sb)) (by decide)))
      obtain ⟨lr14, hlr⟩ : ∃ zz9, zz9 = va_up lr5 (5) (xmul (xmul (xmM 63 b) (im 3)) b) := ⟨_, rfl⟩
      rw [← hlr] at hC
      have e3 : lr14 3 = t := (congrFun hlr _).trans ((va_up_ne _ _ (by decide)).trans e3)
      have e4 : lr14 4 = b := (congrFun hlr _).trans ((va_up_ne _ _ (by decide)).trans e4)
      have e2 : lr14 2 = im 3 := (congrFun hlr _).trans ((va_up_ne _ _ (by decide)).trans e2)
      have e1 : lr14 1 = xmul (xmM 63 b) (im 3) := (congrFun hlr _).trans ((va_up_ne _ _ (by decide)).trans e1)
      have e0 : lr14 0 = xstN t b (im 2) (im 3) := (congrFun hlr _).trans ((va_up_ne _ _ (by decide)).trans e0)
      have e5 : lr14 5 = xmul (xmul (xmM 63 b) (im 3)) b := (congrFun hlr _).trans (va_up_self _ _ _)
      refine lv_aload_n hx hb dX5_makeStep_196 rfl (lv_at hl 1 rfl) ?_
      refine xw_get C hw hC.o (ci := 4) rfl iX5_makeStep_X5 7 (by decide) (by decide +kernel) rfl dX5_makeStep_197 ?_
      refine lv_aload_n hx hb dX5_makeStep_200 rfl (lv_at hl 1 rfl) ?_
      refine xw_get C hw hC.o (ci := 4) rfl iX5_makeStep_X5 11 (by decide) (by decide +kernel) rfl dX5_makeStep_201 ?_
      refine xw_cv (xw_S (n := 2) (rest := []) C hw (kX5_copy l G B _ (la 1) (la 5) (xmul (xmM 63 b) (im 3)) (xmul (xmul (xmM 63 b) (im 3)) b) (hC.r 1 (by decide) e1) (hC.r 5 (by decide) e5) (hC.ln (by decide) (by decide) (by decide)) (hC.rs 1 (by decide) e1) (hC.rs 5 (by decide) e5)) gX5_makeStep_X5_copy rfl rfl rfl (by decide +kernel) ⟨Nat.le_of_ble_eq_true rfl, Nat.le_of_ble_eq_true rfl⟩ rfl hl.1 rfl (Nat.le_of_ble_eq_true rfl) dX5_makeStep_204 ⟨Nat.le_of_ble_eq_true rfl, Nat.le_of_ble_eq_true rfl⟩ hS) hS (fun u H locs hpp hw hS => ?_)
      rw [hpp] at hw
      have hC := hC.set (i := 1) (by decide) (show xlc 1 = 64 by decide) (f := xmul (xmul (xmM 63 b) (im 3)) b) ((hC.rs 5 (by decide) e5))
      obtain ⟨lr15, hlr⟩ : ∃ zz9, zz9 = va_up lr14 (1) (xmul (xmul (xmM 63 b) (im 3)) b) := ⟨_, rfl⟩
      rw [← hlr] at hC
      have e3 : lr15 3 = t := (congrFun hlr _).trans ((va_up_ne _ _ (by decide)).trans e3)
      have e4 : lr15 4 = b := (congrFun hlr _).trans ((va_up_ne _ _ (by decide)).trans e4)
      have e2 : lr15 2 = im 3 := (congrFun hlr _).trans ((va_up_ne _ _ (by decide)).trans e2)
      have e0 : lr15 0 = xstN t b (im 2) (im 3) := (congrFun hlr _).trans ((va_up_ne _ _ (by decide)).trans e0)
      have e5 : lr15 5 = xmul (xmul (xmM 63 b) (im 3)) b := (congrFun hlr _).trans ((va_up_ne _ _ (by decide)).trans e5)
      have e1 : lr15 1 = xmul (xmul (xmM 63 b) (im 3)) b := (congrFun hlr _).trans (va_up_self _ _ _)
      refine lv_aload_n hx hb dX5_makeStep_207 rfl (lv_at hl 1 rfl) ?_
      refine xw_cv (xw_V (n := 0) (rest := []) C hw (kX5_lowest l G B _ mo la ia rq co mn im lr15 ro me wr hC (xstN t b (im 2) (im 3)) (xmul (xmul (xmM 63 b) (im 3)) b) e0 e1 (xlen_mul_ne s2 sb (by decide) (by decide) (by decide) (xlen_mul_ne sMb sr3 (by decide) (by decide) (by decide) (by rw [xmM_len sb64]; exact hb0) hr0) hb0)) gX5_makeStep_X5_lowest rfl rfl rfl (by decide +kernel) ⟨Nat.le_of_ble_eq_true rfl, Nat.le_of_ble_eq_true rfl⟩ hC.o rfl rfl hl.1 rfl (Nat.le_of_ble_eq_true rfl) dX5_makeStep_208 ⟨Nat.le_of_ble_eq_true rfl, Nat.le_of_ble_eq_true rfl⟩ hS) hS (fun u9 H locs hq hw hS => ?_)
      obtain ⟨lr16, hC, e0, e1, hkl⟩ := hq
      exact xw_vret C hw hS (Nat.le_of_ble_eq_true rfl) (Nat.le_of_ble_eq_true rfl) (⟨_, hC, e0, e1⟩) dX5_makeStep_211
    | succ d ih145 =>
      intro k w1 lr5 ls H locs hk hC ez e3 e4 e2 e1 e5 hw hS hl
      refine lv_iload_n hx hb dX5_makeStep_145 rfl (lv_at hl 0 rfl) ?_
      refine lv_bipush (v := 64) hx hb dX5_makeStep_146 (by decide) ?_
      refine xw_ti (y := (nI 64)) (by decide) ?_
      refine lv_icmp_ge (tgt := 184) hx hb dX5_makeStep_148 (by decide) (fun hc => absurd hc (fun q => absurd ((nI_leI (by omega) (by omega)).mp q) (by omega))) (fun _ => ?_)
      refine lv_aload_n hx hb dX5_makeStep_151 rfl (lv_at hl 1 rfl) ?_
      refine xw_get C hw hC.o (ci := 4) rfl iX5_makeStep_X5 6 (by decide) (by decide +kernel) rfl dX5_makeStep_152 ?_
      refine lv_iload_n hx hb dX5_makeStep_155 rfl (lv_at hl 0 rfl) ?_
      refine lv_aload_n hx hb dX5_makeStep_156 rfl (lv_at hl 1 rfl) ?_
      refine xw_get C hw hC.o (ci := 4) rfl iX5_makeStep_X5 6 (by decide) (by decide +kernel) rfl dX5_makeStep_157 ?_
      refine lv_iload_n hx hb dX5_makeStep_160 rfl (lv_at hl 0 rfl) ?_
      refine xw_laldN C hw (hC.r 0 (by decide) ez) (show k < 64 by omega) (by decide) dX5_makeStep_161 ?_
      refine xw_tl (y := (xJ ((xmul (xmul (xmM 63 t) (im 2)) b) k))) (congrArg xJ (xmix_at _ _ _)) ?_
      refine xw_ldc2 C (v := 32003) (by decide +kernel) dX5_makeStep_162 ?_
      refine lv_ladd hx hb dX5_makeStep_165 ?_
      refine lv_aload_n hx hb dX5_makeStep_166 rfl (lv_at hl 1 rfl) ?_
      refine xw_get C hw hC.o (ci := 4) rfl iX5_makeStep_X5 11 (by decide) (by decide +kernel) rfl dX5_makeStep_167 ?_
      refine lv_iload_n hx hb dX5_makeStep_170 rfl (lv_at hl 0 rfl) ?_
      refine xw_laldN C hw (hC.r 5 (by decide) e5) (show k < 64 by omega) (by decide) dX5_makeStep_171 ?_
      refine lv_lsub hx hb dX5_makeStep_172 ?_
      refine xw_ldc2 C (v := 32003) (by decide +kernel) dX5_makeStep_173 ?_
      refine lv_lrem hx hb dX5_makeStep_176 (by decide) ?_
      refine xw_tl (y := (xJ (xstN t b (im 2) (im 3) k))) (xl_sub _ _) ?_
      refine xw_lastN C hw hS (hC.r 0 (by decide) ez) (show k < 64 by omega) (by decide) dX5_makeStep_177 (fun H locs hw hS => ?_)
      rw [xrowJ_up] at hw
      have hC := hC.set (i := 0) (by decide) (show xlc 0 = 64 by decide) (f := va_up (xmix (xstN t b (im 2) (im 3)) (xmul (xmul (xmM 63 t) (im 2)) b) k) k (xstN t b (im 2) (im 3) k)) (xsup_up (hC.rs 0 (by decide) ez) (by omega))
      obtain ⟨lr81, hlr⟩ : ∃ zz9, zz9 = va_up lr5 (0) (va_up (xmix (xstN t b (im 2) (im 3)) (xmul (xmul (xmM 63 t) (im 2)) b) k) k (xstN t b (im 2) (im 3) k)) := ⟨_, rfl⟩
      rw [← hlr] at hC
      have e3 : lr81 3 = t := (congrFun hlr _).trans ((va_up_ne _ _ (by decide)).trans e3)
      have e4 : lr81 4 = b := (congrFun hlr _).trans ((va_up_ne _ _ (by decide)).trans e4)
      have e2 : lr81 2 = im 3 := (congrFun hlr _).trans ((va_up_ne _ _ (by decide)).trans e2)
      have e1 : lr81 1 = xmul (xmM 63 b) (im 3) := (congrFun hlr _).trans ((va_up_ne _ _ (by decide)).trans e1)
      have e5 : lr81 5 = xmul t (xmul (xmM 63 b) (im 3)) := (congrFun hlr _).trans ((va_up_ne _ _ (by decide)).trans e5)
      have e0 : lr81 0 = va_up (xmix (xstN t b (im 2) (im 3)) (xmul (xmul (xmM 63 t) (im 2)) b) k) k (xstN t b (im 2) (im 3) k) := (congrFun hlr _).trans (va_up_self _ _ _)
      refine lv_iinc (v := (nI (k + 1))) (lv' := [(1, .int (nI (k + 1))), (0, .ref mo)]) hx hb dX5_makeStep_178 hl (k := 0) rfl (x_inc k) (by decide) rfl (fun ls hl => ?_)
      refine lv_goto (tgt := 145) hx hb dX5_makeStep_181 (by decide) ?_
      exact ih145 (k + 1) _ lr81 ls _ _ (by omega) hC (by rw [e0]; exact xmix_s (xstN t b (im 2) (im 3)) _ k) e3 e4 e2 e1 e5 hw hS (lv_sub hl [0, 1] rfl)
  exact loop145 64 0 _ lr13 ls _ _ rfl hC (by rw [xmix_0]; exact e0) e3 e4 e2 e1 e5 hw hS (lv_sub hl [0, 1] rfl)

abbrev rmX5_step : Room := { frames := 4, cells := 0, slots := 0, locals := 99 }
theorem iX5_step_X5 : ∀ w ∈ wsX50, w ∈ wsX5_step := by decide +kernel
set_option maxHeartbeats 4000000 in
set_option maxRecDepth 100000 in
theorem kX5_step (l : Launch) (G : xG) (B : Nat) (w : xM) (mo : Nat) (la ia : Nat → Nat) (rq : Nat) (co : Int32) (mn : Nat) (im lr : Nat → xP) (ro : Nat → Option Nat) (me : Int32) (wr : xM) (hC : xML G w mo la ia rq co mn im lr ro me wr) (hF : ∀ k, k < mn → xlen (xBm im k) 64 ≠ 0) (x : Int32) : Met l yX5_step wsX5_step rmX5_step (va_Pc [.ref mo, .int x] (xB G B w)) (va_Qi (fun r u => (¬ xIs mn x ∧ r = 0 ∧ xMK G mo la ia rq 1 mn im wr u) ∨ (∃ k1, k1 < mn ∧ x = nI k1 ∧ xlen (im 3) 64 = 0 ∧ r = 0 ∧ xMK G mo la ia rq 2 mn im wr u) ∨ ∃ k1, k1 < mn ∧ x = nI k1 ∧ xlen (im 3) 64 ≠ 0 ∧ xKe G mo la ia rq mn im wr (xnT (xstN (xTm im k1) (xBm im k1) (im 2) (im 3)) (xstD (xBm im k1) (im 3))) (xnB (xstN (xTm im k1) (xBm im k1) (im 2) (im 3)) (xstD (xBm im k1) (im 3))) 3 r u) (xE G B) (xA B)) 0 0 (xA B) := by
  refine xw_start (own := RX5) (mn := "step") (cc := cX5_step) (nL := 2) (rt := (some .int)) (by decide) rfl rfl rfl (Nat.le_of_ble_eq_true rfl) ?_
  intro p ev s m below meth cd ls C hl hw hS
  obtain ⟨hx, hb, -, -, -, hts, -, -, -, -⟩ := id C
  have hl : lv_has ls 2 [(0, .ref mo), (1, .int x)] := hl
  refine lv_aload_n hx hb dX5_step_0 rfl (lv_at hl 0 rfl) ?_
  refine lv_iload_n hx hb dX5_step_1 rfl (lv_at hl 1 rfl) ?_
  refine lv_iload_n hx hb dX5_step_2 rfl (lv_at hl 1 rfl) ?_
  refine xw_ci (xw_V (n := 2) (rest := []) C hw (kX5_are l G B _ mo la ia rq co mn im lr ro me wr hC x x) gX5_step_X5_are rfl rfl rfl (by decide +kernel) ⟨Nat.le_of_ble_eq_true rfl, Nat.le_of_ble_eq_true rfl⟩ hC.o rfl rfl hl.1 rfl (Nat.le_of_ble_eq_true rfl) dX5_step_3 ⟨Nat.le_of_ble_eq_true rfl, Nat.le_of_ble_eq_true rfl⟩ hS) hS (fun rq9 q9 H locs hq hw hS => ?_)
  rcases hq with ⟨hz, hy, hu⟩ | ⟨hz, hy, hu⟩
  · skip
    rw [hu] at hw
    refine xw_ti (y := 1) (hz) ?_
    have hC := hC.setO 0 mn me hC.m50
    obtain ⟨⟨k1, hk1, rfl⟩, -⟩ := hy
    refine lv_if_ne (tgt := 11) hx hb dX5_step_6 (by decide) (fun _ => ?_) (fun hc => absurd hc (by decide))
    have sTk1 : xsup (xTm im k1) 21 := xld_sup _ _ (Nat.le_refl _)
    have sBk1 : xsup (xBm im k1) 21 := xld_sup _ _ (Nat.le_refl _)
    refine lv_aload_n hx hb dX5_step_11 rfl (lv_at hl 0 rfl) ?_
    refine xw_ci (xw_V (n := 0) (rest := []) C hw (kX5_isNoRatio l G B _ mo la ia rq 0 mn im lr ro me wr hC) gX5_step_X5_isNoRatio rfl rfl rfl (by decide +kernel) ⟨Nat.le_of_ble_eq_true rfl, Nat.le_of_ble_eq_true rfl⟩ hC.o rfl rfl hl.1 rfl (Nat.le_of_ble_eq_true rfl) dX5_step_12 ⟨Nat.le_of_ble_eq_true rfl, Nat.le_of_ble_eq_true rfl⟩ hS) hS (fun rq9 q9 H locs hq hw hS => ?_)
    obtain ⟨hq, hu⟩ := hq
    rw [hu] at hw
    rcases hq with ⟨hz, hyr⟩ | ⟨hz, hyr⟩
    · skip
      refine xw_ti (y := 1) (hz) ?_
      refine lv_if_eq (tgt := 24) hx hb dX5_step_15 (by decide) (fun hc => absurd hc (by decide)) (fun _ => ?_)
      refine lv_aload_n hx hb dX5_step_18 rfl (lv_at hl 0 rfl) ?_
      refine lv_iconst (v := 2) hx hb dX5_step_19 (by decide) ?_
      refine xw_ci (xw_V (n := 1) (rest := []) C hw (kX5_raise l G B _ mo la ia rq 0 mn im lr ro me wr hC 2) gX5_step_X5_raise rfl rfl rfl (by decide +kernel) ⟨Nat.le_of_ble_eq_true rfl, Nat.le_of_ble_eq_true rfl⟩ hC.o rfl rfl hl.1 rfl (Nat.le_of_ble_eq_true rfl) dX5_step_20 ⟨Nat.le_of_ble_eq_true rfl, Nat.le_of_ble_eq_true rfl⟩ hS) hS (fun ru u H locs hp hw hS => ?_)
      obtain ⟨hr, hu⟩ := hp
      rw [hu] at hw
      refine xw_ti (y := 0) (hr) ?_
      have hC := hC.setO 2 mn me hC.m50
      exact xw_iret C hw hS (Nat.le_of_ble_eq_true rfl) (Nat.le_of_ble_eq_true rfl) (Or.inr (Or.inl ⟨k1, hk1, rfl, hyr, rfl, _, _, _, hC⟩)) dX5_step_23
    · skip
      refine xw_ti (y := 0) (hz) ?_
      refine lv_if_eq (tgt := 24) hx hb dX5_step_15 (by decide) (fun _ => ?_) (fun hc => absurd (rfl) hc)
      refine lv_aload_n hx hb dX5_step_24 rfl (lv_at hl 0 rfl) ?_
      refine lv_aload_n hx hb dX5_step_25 rfl (lv_at hl 0 rfl) ?_
      refine xw_get C hw hC.o (ci := 4) rfl iX5_step_X5 6 (by decide) (by decide +kernel) rfl dX5_step_26 ?_
      refine lv_iload_n hx hb dX5_step_29 rfl (lv_at hl 1 rfl) ?_
      refine xw_cv (xw_V (n := 2) (rest := []) C hw (kX5_loadTop l G B _ mo la ia rq 0 mn im lr ro me wr hC 0 (by decide) (lr 0) rfl k1 hk1) gX5_step_X5_loadTop rfl rfl rfl (by decide +kernel) ⟨Nat.le_of_ble_eq_true rfl, Nat.le_of_ble_eq_true rfl⟩ hC.o rfl rfl hl.1 rfl (Nat.le_of_ble_eq_true rfl) dX5_step_30 ⟨Nat.le_of_ble_eq_true rfl, Nat.le_of_ble_eq_true rfl⟩ hS) hS (fun u H locs hpp hw hS => ?_)
      rw [hpp] at hw
      have hC := hC.set (i := 0) (by decide) (show xlc 0 = 64 by decide) (f := xTm im k1) (xld_sup _ _ (by decide))
      obtain ⟨lr1, hlr⟩ : ∃ zz9, zz9 = va_up lr (0) (xTm im k1) := ⟨_, rfl⟩
      rw [← hlr] at hC
      have e0 : lr1 0 = xTm im k1 := (congrFun hlr _).trans (va_up_self _ _ _)
      refine lv_aload_n hx hb dX5_step_33 rfl (lv_at hl 0 rfl) ?_
      refine lv_aload_n hx hb dX5_step_34 rfl (lv_at hl 0 rfl) ?_
      refine xw_get C hw hC.o (ci := 4) rfl iX5_step_X5 7 (by decide) (by decide +kernel) rfl dX5_step_35 ?_
      refine lv_iload_n hx hb dX5_step_38 rfl (lv_at hl 1 rfl) ?_
      refine xw_cv (xw_V (n := 2) (rest := []) C hw (kX5_loadBottom l G B _ mo la ia rq 0 mn im lr1 ro me wr hC 1 (by decide) (lr1 1) rfl k1 hk1) gX5_step_X5_loadBottom rfl rfl rfl (by decide +kernel) ⟨Nat.le_of_ble_eq_true rfl, Nat.le_of_ble_eq_true rfl⟩ hC.o rfl rfl hl.1 rfl (Nat.le_of_ble_eq_true rfl) dX5_step_39 ⟨Nat.le_of_ble_eq_true rfl, Nat.le_of_ble_eq_true rfl⟩ hS) hS (fun u H locs hpp hw hS => ?_)
      rw [hpp] at hw
      have hC := hC.set (i := 1) (by decide) (show xlc 1 = 64 by decide) (f := xBm im k1) (xld_sup _ _ (by decide))
      obtain ⟨lr2, hlr⟩ : ∃ zz9, zz9 = va_up lr1 (1) (xBm im k1) := ⟨_, rfl⟩
      rw [← hlr] at hC
      have e0 : lr2 0 = xTm im k1 := (congrFun hlr _).trans ((va_up_ne _ _ (by decide)).trans e0)
      have e1 : lr2 1 = xBm im k1 := (congrFun hlr _).trans (va_up_self _ _ _)
      refine lv_aload_n hx hb dX5_step_42 rfl (lv_at hl 0 rfl) ?_
      refine xw_cv (xw_V (n := 0) (rest := []) C hw (kX5_makeStep l G B _ mo la ia rq 0 mn im lr2 ro me wr hC (xTm im k1) (xBm im k1) e0 e1 sTk1 sBk1 (hF k1 hk1) hyr) gX5_step_X5_makeStep rfl rfl rfl (by decide +kernel) ⟨Nat.le_of_ble_eq_true rfl, Nat.le_of_ble_eq_true rfl⟩ hC.o rfl rfl hl.1 rfl (Nat.le_of_ble_eq_true rfl) dX5_step_43 ⟨Nat.le_of_ble_eq_true rfl, Nat.le_of_ble_eq_true rfl⟩ hS) hS (fun u9 H locs hq hw hS => ?_)
      obtain ⟨lr9, hC, e0, e1⟩ := hq
      refine lv_aload_n hx hb dX5_step_46 rfl (lv_at hl 0 rfl) ?_
      refine lv_iconst (v := 3) hx hb dX5_step_47 (by decide) ?_
      refine xw_ci (xw_V (n := 1) (rest := []) C hw (kX5_keep l G B _ mo la ia rq 0 mn im lr9 ro me wr hC (xnT (xstN (xTm im k1) (xBm im k1) (im 2) (im 3)) (xstD (xBm im k1) (im 3))) (xnB (xstN (xTm im k1) (xBm im k1) (im 2) (im 3)) (xstD (xBm im k1) (im 3))) e0 e1 3) gX5_step_X5_keep rfl rfl rfl (by decide +kernel) ⟨Nat.le_of_ble_eq_true rfl, Nat.le_of_ble_eq_true rfl⟩ hC.o rfl rfl hl.1 rfl (Nat.le_of_ble_eq_true rfl) dX5_step_48 ⟨Nat.le_of_ble_eq_true rfl, Nat.le_of_ble_eq_true rfl⟩ hS) hS (fun rz z H locs hz9 hw hS => ?_)
      exact xw_iret C hw hS (Nat.le_of_ble_eq_true rfl) (Nat.le_of_ble_eq_true rfl) (Or.inr (Or.inr ⟨k1, hk1, rfl, hyr, hz9⟩)) dX5_step_51
  · skip
    rw [hu] at hw
    refine xw_ti (y := 0) (hz) ?_
    have hC := hC.setO 1 mn me hC.m50
    refine lv_if_ne (tgt := 11) hx hb dX5_step_6 (by decide) (fun hc => absurd (rfl) hc) (fun _ => ?_)
    refine lv_iconst (v := 0) hx hb dX5_step_9 (by decide) ?_
    exact xw_iret C hw hS (Nat.le_of_ble_eq_true rfl) (Nat.le_of_ble_eq_true rfl) (Or.inl ⟨fun q => hy ⟨q, q⟩, rfl, _, _, _, hC⟩) dX5_step_10

abbrev rmX5_proves : Room := { frames := 4, cells := 0, slots := 0, locals := 99 }
theorem iX5_proves_X5 : ∀ w ∈ wsX50, w ∈ wsX5_proves := by decide +kernel
set_option maxHeartbeats 4000000 in
set_option maxRecDepth 100000 in
theorem kX5_proves (l : Launch) (G : xG) (B : Nat) (w : xM) (mo : Nat) (la ia : Nat → Nat) (rq : Nat) (co : Int32) (mn : Nat) (im lr : Nat → xP) (ro : Nat → Option Nat) (me : Int32) (wr : xM) (hC : xML G w mo la ia rq co mn im lr ro me wr) (hF : ∀ k, k < mn → xlen (xBm im k) 64 ≠ 0) (x y : Int32) : Met l yX5_proves wsX5_proves rmX5_proves (va_Pc [.ref mo, .int x, .int y] (xB G B w)) (va_Qi (fun r u => (¬ (xIs mn x ∧ xIs mn y) ∧ r = 0 ∧ xMK G mo la ia rq 1 mn im wr u) ∨ (∃ k1 k2, k1 < mn ∧ k2 < mn ∧ x = nI k1 ∧ y = nI k2 ∧ xlen (im 3) 64 = 0 ∧ r = 0 ∧ xMK G mo la ia rq 2 mn im wr u) ∨ ∃ k1 k2, k1 < mn ∧ k2 < mn ∧ x = nI k1 ∧ y = nI k2 ∧ xlen (im 3) 64 ≠ 0 ∧ ((r = 1 ∧ xnT (xstN (xTm im k2) (xBm im k2) (im 2) (im 3)) (xstD (xBm im k2) (im 3)) = xTm im k1 ∧ xnB (xstN (xTm im k2) (xBm im k2) (im 2) (im 3)) (xstD (xBm im k2) (im 3)) = xBm im k1) ∨ (r = 0 ∧ ¬ (xnT (xstN (xTm im k2) (xBm im k2) (im 2) (im 3)) (xstD (xBm im k2) (im 3)) = xTm im k1 ∧ xnB (xstN (xTm im k2) (xBm im k2) (im 2) (im 3)) (xstD (xBm im k2) (im 3)) = xBm im k1))) ∧ xMK G mo la ia rq 0 mn im wr u) (xE G B) (xA B)) 0 0 (xA B) := by
  refine xw_start (own := RX5) (mn := "proves") (cc := cX5_proves) (nL := 4) (rt := (some .boolean)) (by decide) rfl rfl rfl (Nat.le_of_ble_eq_true rfl) ?_
  intro p ev s m below meth cd ls C hl hw hS
  obtain ⟨hx, hb, -, -, -, hts, -, -, -, -⟩ := id C
  have hl : lv_has ls 4 [(0, .ref mo), (1, .int x), (2, .int y)] := hl
  refine lv_aload_n hx hb dX5_proves_0 rfl (lv_at hl 0 rfl) ?_
  refine lv_iload_n hx hb dX5_proves_1 rfl (lv_at hl 1 rfl) ?_
  refine lv_iload_n hx hb dX5_proves_2 rfl (lv_at hl 2 rfl) ?_
  refine xw_ci (xw_V (n := 2) (rest := []) C hw (kX5_are l G B _ mo la ia rq co mn im lr ro me wr hC x y) gX5_proves_X5_are rfl rfl rfl (by decide +kernel) ⟨Nat.le_of_ble_eq_true rfl, Nat.le_of_ble_eq_true rfl⟩ hC.o rfl rfl hl.1 rfl (Nat.le_of_ble_eq_true rfl) dX5_proves_3 ⟨Nat.le_of_ble_eq_true rfl, Nat.le_of_ble_eq_true rfl⟩ hS) hS (fun rq9 q9 H locs hq hw hS => ?_)
  rcases hq with ⟨hz, hy, hu⟩ | ⟨hz, hy, hu⟩
  · skip
    rw [hu] at hw
    refine xw_ti (y := 1) (hz) ?_
    have hC := hC.setO 0 mn me hC.m50
    obtain ⟨⟨c1, hc1, rfl⟩, ⟨c2, hc2, rfl⟩⟩ := hy
    refine lv_if_ne (tgt := 11) hx hb dX5_proves_6 (by decide) (fun _ => ?_) (fun hc => absurd hc (by decide))
    have h50 := hC.m50
    have sTc1 : xsup (xTm im c1) 21 := xld_sup _ _ (Nat.le_refl _)
    have sBc1 : xsup (xBm im c1) 21 := xld_sup _ _ (Nat.le_refl _)
    have sTc2 : xsup (xTm im c2) 21 := xld_sup _ _ (Nat.le_refl _)
    have sBc2 : xsup (xBm im c2) 21 := xld_sup _ _ (Nat.le_refl _)
    refine lv_aload_n hx hb dX5_proves_11 rfl (lv_at hl 0 rfl) ?_
    refine lv_aload_n hx hb dX5_proves_12 rfl (lv_at hl 0 rfl) ?_
    refine xw_ci (xw_V (n := 0) (rest := [.ref mo]) C hw (kX5_isNoRatio l G B _ mo la ia rq 0 mn im lr ro me wr hC) gX5_proves_X5_isNoRatio rfl rfl rfl (by decide +kernel) ⟨Nat.le_of_ble_eq_true rfl, Nat.le_of_ble_eq_true rfl⟩ hC.o rfl rfl hl.1 rfl (Nat.le_of_ble_eq_true rfl) dX5_proves_13 ⟨Nat.le_of_ble_eq_true rfl, Nat.le_of_ble_eq_true rfl⟩ hS) hS (fun rq9 q9 H locs hq hw hS => ?_)
    obtain ⟨hq, hu⟩ := hq
    rw [hu] at hw
    rcases hq with ⟨hz, hyr⟩ | ⟨hz, hyr⟩
    · skip
      refine xw_ti (y := 1) (hz) ?_
      refine lv_if_eq (tgt := 23) hx hb dX5_proves_16 (by decide) (fun hc => absurd hc (by decide)) (fun _ => ?_)
      refine lv_iconst (v := 2) hx hb dX5_proves_19 (by decide) ?_
      refine lv_goto (tgt := 24) hx hb dX5_proves_20 (by decide) ?_
      refine xw_put C hw hS hC.o (ci := 4) rfl iX5_proves_X5 tyX5 tyX5_ok nmX5 0 (by decide) (by decide +kernel) rfl (ty := .int) (by decide +kernel) rfl rfl (Nat.le_of_ble_eq_true rfl) dX5_proves_24 (fun H locs hw hS => ?_)
      have hw : xW G B (xu _ mo (.inr (4, xMf la ia rq 2 mn me))) H := hw
      have hC := hC.setO 2 mn me hC.m50
      refine lv_aload_n hx hb dX5_proves_27 rfl (lv_at hl 0 rfl) ?_
      refine xw_get C hw hC.o (ci := 4) rfl iX5_proves_X5 0 (by decide) (by decide +kernel) rfl dX5_proves_28 ?_
      refine lv_if_le (tgt := 36) hx hb dX5_proves_31 (by decide) (fun hc => absurd hc (by decide)) (fun _ => ?_)
      refine lv_iconst (v := 0) hx hb dX5_proves_34 (by decide) ?_
      exact xw_zret C hw hS (Nat.le_of_ble_eq_true rfl) (Nat.le_of_ble_eq_true rfl) (Or.inl rfl) (Or.inr (Or.inl ⟨c1, c2, hc1, hc2, rfl, rfl, hyr, rfl, _, _, _, hC⟩)) dX5_proves_35
    · skip
      refine xw_ti (y := 0) (hz) ?_
      refine lv_if_eq (tgt := 23) hx hb dX5_proves_16 (by decide) (fun _ => ?_) (fun hc => absurd (rfl) hc)
      refine lv_iconst (v := 0) hx hb dX5_proves_23 (by decide) ?_
      refine xw_put C hw hS hC.o (ci := 4) rfl iX5_proves_X5 tyX5 tyX5_ok nmX5 0 (by decide) (by decide +kernel) rfl (ty := .int) (by decide +kernel) rfl rfl (Nat.le_of_ble_eq_true rfl) dX5_proves_24 (fun H locs hw hS => ?_)
      have hw : xW G B (xu _ mo (.inr (4, xMf la ia rq 0 mn me))) H := hw
      have hC := hC.setO 0 mn me hC.m50
      refine lv_aload_n hx hb dX5_proves_27 rfl (lv_at hl 0 rfl) ?_
      refine xw_get C hw hC.o (ci := 4) rfl iX5_proves_X5 0 (by decide) (by decide +kernel) rfl dX5_proves_28 ?_
      refine lv_if_le (tgt := 36) hx hb dX5_proves_31 (by decide) (fun _ => ?_) (fun hc => absurd (by decide) hc)
      refine lv_aload_n hx hb dX5_proves_36 rfl (lv_at hl 0 rfl) ?_
      refine lv_aload_n hx hb dX5_proves_37 rfl (lv_at hl 0 rfl) ?_
      refine xw_get C hw hC.o (ci := 4) rfl iX5_proves_X5 6 (by decide) (by decide +kernel) rfl dX5_proves_38 ?_
      refine lv_iload_n hx hb dX5_proves_41 rfl (lv_at hl 2 rfl) ?_
      refine xw_cv (xw_V (n := 2) (rest := []) C hw (kX5_loadTop l G B _ mo la ia rq 0 mn im lr ro me wr hC 0 (by decide) (lr 0) rfl c2 hc2) gX5_proves_X5_loadTop rfl rfl rfl (by decide +kernel) ⟨Nat.le_of_ble_eq_true rfl, Nat.le_of_ble_eq_true rfl⟩ hC.o rfl rfl hl.1 rfl (Nat.le_of_ble_eq_true rfl) dX5_proves_42 ⟨Nat.le_of_ble_eq_true rfl, Nat.le_of_ble_eq_true rfl⟩ hS) hS (fun u H locs hpp hw hS => ?_)
      rw [hpp] at hw
      have hC := hC.set (i := 0) (by decide) (show xlc 0 = 64 by decide) (f := xTm im c2) (xld_sup _ _ (by decide))
      obtain ⟨lr1, hlr⟩ : ∃ zz9, zz9 = va_up lr (0) (xTm im c2) := ⟨_, rfl⟩
      rw [← hlr] at hC
      have e0 : lr1 0 = xTm im c2 := (congrFun hlr _).trans (va_up_self _ _ _)
      refine lv_aload_n hx hb dX5_proves_45 rfl (lv_at hl 0 rfl) ?_
      refine lv_aload_n hx hb dX5_proves_46 rfl (lv_at hl 0 rfl) ?_
      refine xw_get C hw hC.o (ci := 4) rfl iX5_proves_X5 7 (by decide) (by decide +kernel) rfl dX5_proves_47 ?_
      refine lv_iload_n hx hb dX5_proves_50 rfl (lv_at hl 2 rfl) ?_
      refine xw_cv (xw_V (n := 2) (rest := []) C hw (kX5_loadBottom l G B _ mo la ia rq 0 mn im lr1 ro me wr hC 1 (by decide) (lr1 1) rfl c2 hc2) gX5_proves_X5_loadBottom rfl rfl rfl (by decide +kernel) ⟨Nat.le_of_ble_eq_true rfl, Nat.le_of_ble_eq_true rfl⟩ hC.o rfl rfl hl.1 rfl (Nat.le_of_ble_eq_true rfl) dX5_proves_51 ⟨Nat.le_of_ble_eq_true rfl, Nat.le_of_ble_eq_true rfl⟩ hS) hS (fun u H locs hpp hw hS => ?_)
      rw [hpp] at hw
      have hC := hC.set (i := 1) (by decide) (show xlc 1 = 64 by decide) (f := xBm im c2) (xld_sup _ _ (by decide))
      obtain ⟨lr2, hlr⟩ : ∃ zz9, zz9 = va_up lr1 (1) (xBm im c2) := ⟨_, rfl⟩
      rw [← hlr] at hC
      have e0 : lr2 0 = xTm im c2 := (congrFun hlr _).trans ((va_up_ne _ _ (by decide)).trans e0)
      have e1 : lr2 1 = xBm im c2 := (congrFun hlr _).trans (va_up_self _ _ _)
      refine lv_aload_n hx hb dX5_proves_54 rfl (lv_at hl 0 rfl) ?_
      refine xw_cv (xw_V (n := 0) (rest := []) C hw (kX5_makeStep l G B _ mo la ia rq 0 mn im lr2 ro me wr hC (xTm im c2) (xBm im c2) e0 e1 sTc2 sBc2 (hF c2 hc2) hyr) gX5_proves_X5_makeStep rfl rfl rfl (by decide +kernel) ⟨Nat.le_of_ble_eq_true rfl, Nat.le_of_ble_eq_true rfl⟩ hC.o rfl rfl hl.1 rfl (Nat.le_of_ble_eq_true rfl) dX5_proves_55 ⟨Nat.le_of_ble_eq_true rfl, Nat.le_of_ble_eq_true rfl⟩ hS) hS (fun u9 H locs hq hw hS => ?_)
      obtain ⟨lr9, hC, e0, e1⟩ := hq
      obtain ⟨a9, ha9⟩ : ∃ z, z = xnT (xstN (xTm im c2) (xBm im c2) (im 2) (im 3)) (xstD (xBm im c2) (im 3)) := ⟨_, rfl⟩
      obtain ⟨b9, hb9⟩ : ∃ z, z = xnB (xstN (xTm im c2) (xBm im c2) (im 2) (im 3)) (xstD (xBm im c2) (im 3)) := ⟨_, rfl⟩
      rw [← ha9] at e0
      rw [← hb9] at e1
      have sa9 := hC.rs 0 (by decide) e0
      have sb9 := hC.rs 1 (by decide) e1
      refine lv_iconst (v := 0) hx hb dX5_proves_58 (by decide) ?_
      refine xw_ti (y := (nI 0)) (nI_0.symm) ?_
      refine lv_istore_n (lv' := [(3, .int (nI 0)), (0, .ref mo), (1, .int (nI c1)), (2, .int (nI c2))]) hx hb dX5_proves_59 rfl hl (by decide) rfl (fun ls hl => ?_)
      have loop : ∀ (d k : Nat) (ls : Array Slot) (H : Heap) (locs : List Loc), k + d = 64 → (∀ i, i < k → a9 i = (xTm im c1) i ∧ b9 i = (xBm im c1) i) → xW G B u9 H → va_S (xA B) s.heap H locs → lv_has ls 4 [(3, .int (nI k)), (0, .ref mo), (1, .int (nI c1)), (2, .int (nI c2))] → W p l ev rmX5_proves s m [.ref mo, .int (nI c1), .int (nI c2)].toArray below meth cd H locs 0 0 (MQ below (va_Qi (fun r u => (¬ (xIs mn (nI c1) ∧ xIs mn (nI c2)) ∧ r = 0 ∧ xMK G mo la ia rq 1 mn im wr u) ∨ (∃ k1 k2, k1 < mn ∧ k2 < mn ∧ (nI c1) = nI k1 ∧ (nI c2) = nI k2 ∧ xlen (im 3) 64 = 0 ∧ r = 0 ∧ xMK G mo la ia rq 2 mn im wr u) ∨ ∃ k1 k2, k1 < mn ∧ k2 < mn ∧ (nI c1) = nI k1 ∧ (nI c2) = nI k2 ∧ xlen (im 3) 64 ≠ 0 ∧ ((r = 1 ∧ xnT (xstN (xTm im k2) (xBm im k2) (im 2) (im 3)) (xstD (xBm im k2) (im 3)) = xTm im k1 ∧ xnB (xstN (xTm im k2) (xBm im k2) (im 2) (im 3)) (xstD (xBm im k2) (im 3)) = xBm im k1) ∨ (r = 0 ∧ ¬ (xnT (xstN (xTm im k2) (xBm im k2) (im 2) (im 3)) (xstD (xBm im k2) (im 3)) = xTm im k1 ∧ xnB (xstN (xTm im k2) (xBm im k2) (im 2) (im 3)) (xstD (xBm im k2) (im 3)) = xBm im k1))) ∧ xMK G mo la ia rq 0 mn im wr u) (xE G B) (xA B)) [.ref mo, .int (nI c1), .int (nI c2)].toArray s 0 0 (xA B)) (F0 m 60 ls []) := by
        intro d
        induction d with
        | zero =>
          intro k ls H locs hk hko hw hS hl
          refine lv_iload_n hx hb dX5_proves_60 rfl (lv_at hl 0 rfl) ?_
          refine lv_bipush (v := 64) hx hb dX5_proves_61 (by decide) ?_
          refine xw_ti (y := (nI 64)) (by decide) ?_
          refine lv_icmp_ge (tgt := 138) hx hb dX5_proves_63 (by decide) (fun _ => ?_) (fun hc => absurd ((nI_leI (by omega) (by omega)).mpr (by omega)) hc)
          refine lv_iconst (v := 1) hx hb dX5_proves_138 (by decide) ?_
          exact xw_zret C hw hS (Nat.le_of_ble_eq_true rfl) (Nat.le_of_ble_eq_true rfl) (Or.inr rfl) (Or.inr (Or.inr ⟨c1, c2, hc1, hc2, rfl, rfl, hyr, Or.inl ⟨rfl, ha9.symm.trans (x_ext64 sa9 (xsup_mono sTc1 (by decide)) (fun i hi => (hko i (by omega)).1)), hb9.symm.trans (x_ext64 sb9 (xsup_mono sBc1 (by decide)) (fun i hi => (hko i (by omega)).2))⟩, _, _, _, hC⟩)) dX5_proves_139
        | succ d ih =>
          intro k ls H locs hk hko hw hS hl
          refine lv_iload_n hx hb dX5_proves_60 rfl (lv_at hl 0 rfl) ?_
          refine lv_bipush (v := 64) hx hb dX5_proves_61 (by decide) ?_
          refine xw_ti (y := (nI 64)) (by decide) ?_
          refine lv_icmp_ge (tgt := 138) hx hb dX5_proves_63 (by decide) (fun hc => absurd hc (fun q => absurd ((nI_leI (by omega) (by omega)).mp q) (by omega))) (fun _ => ?_)
          refine lv_aload_n hx hb dX5_proves_66 rfl (lv_at hl 1 rfl) ?_
          refine xw_get C hw hC.o (ci := 4) rfl iX5_proves_X5 6 (by decide) (by decide +kernel) rfl dX5_proves_67 ?_
          refine lv_iload_n hx hb dX5_proves_70 rfl (lv_at hl 0 rfl) ?_
          refine xw_laldN C hw (hC.r 0 (by decide) e0) (show k < 64 by omega) (by decide) dX5_proves_71 ?_
          refine lv_iload_n hx hb dX5_proves_72 rfl (lv_at hl 0 rfl) ?_
          refine lv_bipush (v := 21) hx hb dX5_proves_73 (by decide) ?_
          refine xw_ti (y := (nI 21)) (by decide) ?_
          refine xw_cge (tgt := 92) hx hb dX5_proves_75 (by decide) (by omega) (by omega) (fun hg0 => ?_) (fun hg0 => ?_)
          · skip
            have hconv : (0 : Int32).toInt64 = xJ ((xTm im c1) k) := by rw [show (xTm im c1) k = 0 from by show xld _ _ _ _ = _; unfold xld; rw [if_neg (by omega)]]; decide
            refine lv_iconst (v := 0) hx hb dX5_proves_92 (by decide) ?_
            refine lv_i2l (v := (0).toInt64) hx hb dX5_proves_93 rfl ?_
            refine xw_tl (y := (xJ ((xTm im c1) k))) (hconv) ?_
            refine W.lcmp hx hb dX5_proves_94 ?_
            refine lv_if_ne (tgt := 130) hx hb dX5_proves_95 (by decide) (fun hd0 => ?_) (fun hd0 => ?_)
            · skip
              refine lv_iconst (v := 0) hx hb dX5_proves_130 (by decide) ?_
              exact xw_zret C hw hS (Nat.le_of_ble_eq_true rfl) (Nat.le_of_ble_eq_true rfl) (Or.inl rfl) (Or.inr (Or.inr ⟨c1, c2, hc1, hc2, rfl, rfl, hyr, Or.inr ⟨rfl, fun q => hd0 ((lg_cmp_eq _ _).mpr (congrArg xJ (congrFun (ha9.trans q.1) k)))⟩, _, _, _, hC⟩)) dX5_proves_131
            · skip
              have hd0 := xJ_inj ((lg_cmp_eq _ _).mp hd0)
              refine lv_aload_n hx hb dX5_proves_98 rfl (lv_at hl 1 rfl) ?_
              refine xw_get C hw hC.o (ci := 4) rfl iX5_proves_X5 7 (by decide) (by decide +kernel) rfl dX5_proves_99 ?_
              refine lv_iload_n hx hb dX5_proves_102 rfl (lv_at hl 0 rfl) ?_
              refine xw_laldN C hw (hC.r 1 (by decide) e1) (show k < 64 by omega) (by decide) dX5_proves_103 ?_
              refine lv_iload_n hx hb dX5_proves_104 rfl (lv_at hl 0 rfl) ?_
              refine lv_bipush (v := 21) hx hb dX5_proves_105 (by decide) ?_
              refine xw_ti (y := (nI 21)) (by decide) ?_
              refine xw_cge (tgt := 124) hx hb dX5_proves_107 (by decide) (by omega) (by omega) (fun hg1 => ?_) (fun hg1 => ?_)
              · skip
                have hconv : (0 : Int32).toInt64 = xJ ((xBm im c1) k) := by rw [show (xBm im c1) k = 0 from by show xld _ _ _ _ = _; unfold xld; rw [if_neg (by omega)]]; decide
                refine lv_iconst (v := 0) hx hb dX5_proves_124 (by decide) ?_
                refine lv_i2l (v := (0).toInt64) hx hb dX5_proves_125 rfl ?_
                refine xw_tl (y := (xJ ((xBm im c1) k))) (hconv) ?_
                refine W.lcmp hx hb dX5_proves_126 ?_
                refine lv_if_eq (tgt := 132) hx hb dX5_proves_127 (by decide) (fun hd1 => ?_) (fun hd1 => ?_)
                · skip
                  have hd1 := xJ_inj ((lg_cmp_eq _ _).mp hd1)
                  refine lv_iinc (v := (nI (k + 1))) (lv' := [(3, .int (nI (k + 1))), (0, .ref mo), (1, .int (nI c1)), (2, .int (nI c2))]) hx hb dX5_proves_132 hl (k := 0) rfl (x_inc k) (by decide) rfl (fun ls hl => ?_)
                  refine lv_goto (tgt := 60) hx hb dX5_proves_135 (by decide) ?_
                  exact ih (k + 1) ls _ _ (by omega) (fun i hi => by by_cases hik : i = k; (subst hik; exact ⟨hd0, hd1⟩); exact hko i (by omega)) hw hS (lv_sub hl [0, 1, 2, 3] rfl)
                · skip
                  refine lv_iconst (v := 0) hx hb dX5_proves_130 (by decide) ?_
                  exact xw_zret C hw hS (Nat.le_of_ble_eq_true rfl) (Nat.le_of_ble_eq_true rfl) (Or.inl rfl) (Or.inr (Or.inr ⟨c1, c2, hc1, hc2, rfl, rfl, hyr, Or.inr ⟨rfl, fun q => hd1 ((lg_cmp_eq _ _).mpr (congrArg xJ (congrFun (hb9.trans q.2) k)))⟩, _, _, _, hC⟩)) dX5_proves_131
              · skip
                refine lv_aload_n hx hb dX5_proves_110 rfl (lv_at hl 1 rfl) ?_
                refine xw_get C hw hC.o (ci := 4) rfl iX5_proves_X5 3 (by decide) (by decide +kernel) rfl dX5_proves_111 ?_
                refine lv_bipush (v := 21) hx hb dX5_proves_114 (by decide) ?_
                refine xw_ti (y := (nI 21)) (by decide) ?_
                refine lv_iload_n hx hb dX5_proves_116 rfl (lv_at hl 2 rfl) ?_
                refine lv_imul hx hb dX5_proves_117 ?_
                refine xw_ti (y := (nI (21 * c1))) (pk_mul _ _) ?_
                refine lv_iload_n hx hb dX5_proves_118 rfl (lv_at hl 0 rfl) ?_
                refine lv_iadd hx hb dX5_proves_119 ?_
                refine xw_ti (y := (nI (21 * c1 + k))) (nI_add _ _) ?_
                refine xw_ialdN C hw (hC.i 1 (by decide) rfl) (show 21 * c1 + k < 1050 by omega) (by decide) dX5_proves_120 ?_
                refine lv_goto (tgt := 125) hx hb dX5_proves_121 (by decide) ?_
                refine lv_i2l (v := ((xI (im 1 (21 * c1 + k)))).toInt64) hx hb dX5_proves_125 rfl ?_
                refine xw_tl (y := (xJ ((xBm im c1) k))) ((xI_l _).trans (congrArg xJ (by show _ = xld _ _ _ _; unfold xld; rw [if_pos (by omega)]))) ?_
                refine W.lcmp hx hb dX5_proves_126 ?_
                refine lv_if_eq (tgt := 132) hx hb dX5_proves_127 (by decide) (fun hd1 => ?_) (fun hd1 => ?_)
                · skip
                  have hd1 := xJ_inj ((lg_cmp_eq _ _).mp hd1)
                  refine lv_iinc (v := (nI (k + 1))) (lv' := [(3, .int (nI (k + 1))), (0, .ref mo), (1, .int (nI c1)), (2, .int (nI c2))]) hx hb dX5_proves_132 hl (k := 0) rfl (x_inc k) (by decide) rfl (fun ls hl => ?_)
                  refine lv_goto (tgt := 60) hx hb dX5_proves_135 (by decide) ?_
                  exact ih (k + 1) ls _ _ (by omega) (fun i hi => by by_cases hik : i = k; (subst hik; exact ⟨hd0, hd1⟩); exact hko i (by omega)) hw hS (lv_sub hl [0, 1, 2, 3] rfl)
                · skip
                  refine lv_iconst (v := 0) hx hb dX5_proves_130 (by decide) ?_
                  exact xw_zret C hw hS (Nat.le_of_ble_eq_true rfl) (Nat.le_of_ble_eq_true rfl) (Or.inl rfl) (Or.inr (Or.inr ⟨c1, c2, hc1, hc2, rfl, rfl, hyr, Or.inr ⟨rfl, fun q => hd1 ((lg_cmp_eq _ _).mpr (congrArg xJ (congrFun (hb9.trans q.2) k)))⟩, _, _, _, hC⟩)) dX5_proves_131
          · skip
            refine lv_aload_n hx hb dX5_proves_78 rfl (lv_at hl 1 rfl) ?_
            refine xw_get C hw hC.o (ci := 4) rfl iX5_proves_X5 2 (by decide) (by decide +kernel) rfl dX5_proves_79 ?_
            refine lv_bipush (v := 21) hx hb dX5_proves_82 (by decide) ?_
            refine xw_ti (y := (nI 21)) (by decide) ?_
            refine lv_iload_n hx hb dX5_proves_84 rfl (lv_at hl 2 rfl) ?_
            refine lv_imul hx hb dX5_proves_85 ?_
            refine xw_ti (y := (nI (21 * c1))) (pk_mul _ _) ?_
            refine lv_iload_n hx hb dX5_proves_86 rfl (lv_at hl 0 rfl) ?_
            refine lv_iadd hx hb dX5_proves_87 ?_
            refine xw_ti (y := (nI (21 * c1 + k))) (nI_add _ _) ?_
            refine xw_ialdN C hw (hC.i 0 (by decide) rfl) (show 21 * c1 + k < 1050 by omega) (by decide) dX5_proves_88 ?_
            refine lv_goto (tgt := 93) hx hb dX5_proves_89 (by decide) ?_
            refine lv_i2l (v := ((xI (im 0 (21 * c1 + k)))).toInt64) hx hb dX5_proves_93 rfl ?_
            refine xw_tl (y := (xJ ((xTm im c1) k))) ((xI_l _).trans (congrArg xJ (by show _ = xld _ _ _ _; unfold xld; rw [if_pos (by omega)]))) ?_
            refine W.lcmp hx hb dX5_proves_94 ?_
            refine lv_if_ne (tgt := 130) hx hb dX5_proves_95 (by decide) (fun hd0 => ?_) (fun hd0 => ?_)
            · skip
              refine lv_iconst (v := 0) hx hb dX5_proves_130 (by decide) ?_
              exact xw_zret C hw hS (Nat.le_of_ble_eq_true rfl) (Nat.le_of_ble_eq_true rfl) (Or.inl rfl) (Or.inr (Or.inr ⟨c1, c2, hc1, hc2, rfl, rfl, hyr, Or.inr ⟨rfl, fun q => hd0 ((lg_cmp_eq _ _).mpr (congrArg xJ (congrFun (ha9.trans q.1) k)))⟩, _, _, _, hC⟩)) dX5_proves_131
            · skip
              have hd0 := xJ_inj ((lg_cmp_eq _ _).mp hd0)
              refine lv_aload_n hx hb dX5_proves_98 rfl (lv_at hl 1 rfl) ?_
              refine xw_get C hw hC.o (ci := 4) rfl iX5_proves_X5 7 (by decide) (by decide +kernel) rfl dX5_proves_99 ?_
              refine lv_iload_n hx hb dX5_proves_102 rfl (lv_at hl 0 rfl) ?_
              refine xw_laldN C hw (hC.r 1 (by decide) e1) (show k < 64 by omega) (by decide) dX5_proves_103 ?_
              refine lv_iload_n hx hb dX5_proves_104 rfl (lv_at hl 0 rfl) ?_
              refine lv_bipush (v := 21) hx hb dX5_proves_105 (by decide) ?_
              refine xw_ti (y := (nI 21)) (by decide) ?_
              refine xw_cge (tgt := 124) hx hb dX5_proves_107 (by decide) (by omega) (by omega) (fun hg1 => ?_) (fun hg1 => ?_)
              · skip
                have hconv : (0 : Int32).toInt64 = xJ ((xBm im c1) k) := by rw [show (xBm im c1) k = 0 from by show xld _ _ _ _ = _; unfold xld; rw [if_neg (by omega)]]; decide
                refine lv_iconst (v := 0) hx hb dX5_proves_124 (by decide) ?_
                refine lv_i2l (v := (0).toInt64) hx hb dX5_proves_125 rfl ?_
                refine xw_tl (y := (xJ ((xBm im c1) k))) (hconv) ?_
                refine W.lcmp hx hb dX5_proves_126 ?_
                refine lv_if_eq (tgt := 132) hx hb dX5_proves_127 (by decide) (fun hd1 => ?_) (fun hd1 => ?_)
                · skip
                  have hd1 := xJ_inj ((lg_cmp_eq _ _).mp hd1)
                  refine lv_iinc (v := (nI (k + 1))) (lv' := [(3, .int (nI (k + 1))), (0, .ref mo), (1, .int (nI c1)), (2, .int (nI c2))]) hx hb dX5_proves_132 hl (k := 0) rfl (x_inc k) (by decide) rfl (fun ls hl => ?_)
                  refine lv_goto (tgt := 60) hx hb dX5_proves_135 (by decide) ?_
                  exact ih (k + 1) ls _ _ (by omega) (fun i hi => by by_cases hik : i = k; (subst hik; exact ⟨hd0, hd1⟩); exact hko i (by omega)) hw hS (lv_sub hl [0, 1, 2, 3] rfl)
                · skip
                  refine lv_iconst (v := 0) hx hb dX5_proves_130 (by decide) ?_
                  exact xw_zret C hw hS (Nat.le_of_ble_eq_true rfl) (Nat.le_of_ble_eq_true rfl) (Or.inl rfl) (Or.inr (Or.inr ⟨c1, c2, hc1, hc2, rfl, rfl, hyr, Or.inr ⟨rfl, fun q => hd1 ((lg_cmp_eq _ _).mpr (congrArg xJ (congrFun (hb9.trans q.2) k)))⟩, _, _, _, hC⟩)) dX5_proves_131
              · skip
                refine lv_aload_n hx hb dX5_proves_110 rfl (lv_at hl 1 rfl) ?_
                refine xw_get C hw hC.o (ci := 4) rfl iX5_proves_X5 3 (by decide) (by decide +kernel) rfl dX5_proves_111 ?_
                refine lv_bipush (v := 21) hx hb dX5_proves_114 (by decide) ?_
                refine xw_ti (y := (nI 21)) (by decide) ?_
                refine lv_iload_n hx hb dX5_proves_116 rfl (lv_at hl 2 rfl) ?_
                refine lv_imul hx hb dX5_proves_117 ?_
                refine xw_ti (y := (nI (21 * c1))) (pk_mul _ _) ?_
                refine lv_iload_n hx hb dX5_proves_118 rfl (lv_at hl 0 rfl) ?_
                refine lv_iadd hx hb dX5_proves_119 ?_
                refine xw_ti (y := (nI (21 * c1 + k))) (nI_add _ _) ?_
                refine xw_ialdN C hw (hC.i 1 (by decide) rfl) (show 21 * c1 + k < 1050 by omega) (by decide) dX5_proves_120 ?_
                refine lv_goto (tgt := 125) hx hb dX5_proves_121 (by decide) ?_
                refine lv_i2l (v := ((xI (im 1 (21 * c1 + k)))).toInt64) hx hb dX5_proves_125 rfl ?_
                refine xw_tl (y := (xJ ((xBm im c1) k))) ((xI_l _).trans (congrArg xJ (by show _ = xld _ _ _ _; unfold xld; rw [if_pos (by omega)]))) ?_
                refine W.lcmp hx hb dX5_proves_126 ?_
                refine lv_if_eq (tgt := 132) hx hb dX5_proves_127 (by decide) (fun hd1 => ?_) (fun hd1 => ?_)
                · skip
                  have hd1 := xJ_inj ((lg_cmp_eq _ _).mp hd1)
                  refine lv_iinc (v := (nI (k + 1))) (lv' := [(3, .int (nI (k + 1))), (0, .ref mo), (1, .int (nI c1)), (2, .int (nI c2))]) hx hb dX5_proves_132 hl (k := 0) rfl (x_inc k) (by decide) rfl (fun ls hl => ?_)
                  refine lv_goto (tgt := 60) hx hb dX5_proves_135 (by decide) ?_
                  exact ih (k + 1) ls _ _ (by omega) (fun i hi => by by_cases hik : i = k; (subst hik; exact ⟨hd0, hd1⟩); exact hko i (by omega)) hw hS (lv_sub hl [0, 1, 2, 3] rfl)
                · skip
                  refine lv_iconst (v := 0) hx hb dX5_proves_130 (by decide) ?_
                  exact xw_zret C hw hS (Nat.le_of_ble_eq_true rfl) (Nat.le_of_ble_eq_true rfl) (Or.inl rfl) (Or.inr (Or.inr ⟨c1, c2, hc1, hc2, rfl, rfl, hyr, Or.inr ⟨rfl, fun q => hd1 ((lg_cmp_eq _ _).mpr (congrArg xJ (congrFun (hb9.trans q.2) k)))⟩, _, _, _, hC⟩)) dX5_proves_131
      exact loop 64 0 ls _ _ rfl (fun i hi => absurd hi (by omega)) hw hS (lv_sub hl [0, 1, 2, 3] rfl)
  · skip
    rw [hu] at hw
    refine xw_ti (y := 0) (hz) ?_
    have hC := hC.setO 1 mn me hC.m50
    refine lv_if_ne (tgt := 11) hx hb dX5_proves_6 (by decide) (fun hc => absurd (rfl) hc) (fun _ => ?_)
    refine lv_iconst (v := 0) hx hb dX5_proves_9 (by decide) ?_
    exact xw_zret C hw hS (Nat.le_of_ble_eq_true rfl) (Nat.le_of_ble_eq_true rfl) (Or.inl rfl) (Or.inl ⟨hy, rfl, _, _, _, hC⟩) dX5_proves_10
