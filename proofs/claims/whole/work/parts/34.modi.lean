/-! ===== the reference: products, divisions (laid by wip/whole/m_modi.py) ===== -/
theorem xmul_s64 {f g : xP} (hf : xsup f 64) (hg : xsup g 64) (h : xlen f 64 + xlen g 64 ≤ 65) : xsup (xmul f g) 64 := xsup_mono (xmul_sup (xlen_sup hf) (xlen_sup hg)) (by omega)
abbrev rmX5_multiply : Room := { frames := 1, cells := 0, slots := 0, locals := 21 }
theorem iX5_multiply_X5 : ∀ w ∈ wsX50, w ∈ wsX5_multiply := by decide +kernel
set_option maxHeartbeats 4000000 in
set_option maxRecDepth 100000 in
theorem kX5_multiply (l : Launch) (G : xG) (B : Nat) (w : xM) (mo : Nat) (la ia : Nat → Nat) (rq : Nat) (co : Int32) (mn : Nat) (im lr : Nat → xP) (ro : Nat → Option Nat) (me : Int32) (wr : xM) (hC : xML G w mo la ia rq co mn im lr ro me wr) (i j : Nat) (hi : i < 11) (hj : j < 11) (hi5 : i ≠ 5) (hj5 : j ≠ 5) (f g : xP) (ei : lr i = f) (ej : lr j = g) (hfit : xlen f 64 + xlen g 64 ≤ 65) : Met l yX5_multiply wsX5_multiply rmX5_multiply (va_Pc [.ref mo, .ref (la i), .ref (la j)] (xB G B w)) (va_Qv (fun u => u = xu w (la 5) (xJr G 64 (xmul f g))) (xE G B) (xA B)) 0 0 (xA B) := by
  refine xw_start (own := RX5) (mn := "multiply") (cc := cX5_multiply) (nL := 6) (rt := none) (by decide) rfl rfl rfl (Nat.le_of_ble_eq_true rfl) ?_
  intro p ev s m below meth cd ls C hl hw hS
  obtain ⟨hx, hb, -, -, -, hts, -, -, -, -⟩ := id C
  have hl : lv_has ls 6 [(0, .ref mo), (1, .ref (la i)), (2, .ref (la j))] := hl
  refine lv_aload_n hx hb dX5_multiply_0 rfl (lv_at hl 0 rfl) ?_
  refine xw_get C hw hC.o (ci := 4) rfl iX5_multiply_X5 11 (by decide) (by decide +kernel) rfl dX5_multiply_1 ?_
  refine xw_cv (xw_S (n := 1) (rest := []) C hw (kX5_empty l G B _ (la 5) _ (hC.r 5 (by decide) rfl) (hC.rs 5 (by decide) rfl)) gX5_multiply_X5_empty rfl rfl rfl (by decide +kernel) ⟨Nat.le_of_ble_eq_true rfl, Nat.le_of_ble_eq_true rfl⟩ rfl hl.1 rfl (Nat.le_of_ble_eq_true rfl) dX5_multiply_4 ⟨Nat.le_of_ble_eq_true rfl, Nat.le_of_ble_eq_true rfl⟩ hS) hS (fun u H locs hpp hw hS => ?_)
  rw [hpp] at hw
  have sf := hC.rs i hi ei
  have sg := hC.rs j hj ej
  have ni : la i ≠ la 5 := hC.ln (by omega) (by decide) hi5
  have nj : la j ≠ la 5 := hC.ln (by omega) (by decide) hj5
  have nm : mo ≠ la 5 := x_ne hC.o (hC.r 5 (by decide) rfl) (fun z => by simp [xJr] at z)
  have lf := xlen_le f 64
  have lg := xlen_le g 64
  refine lv_aload_n hx hb dX5_multiply_7 rfl (lv_at hl 2 rfl) ?_
  refine xw_ci (xw_S (n := 1) (rest := []) C hw (kX5_high l G B _ (la j) g ((xu_n _ _ nj).trans (hC.r j hj ej))) gX5_multiply_X5_high rfl rfl rfl (by decide +kernel) ⟨Nat.le_of_ble_eq_true rfl, Nat.le_of_ble_eq_true rfl⟩ rfl hl.1 rfl (Nat.le_of_ble_eq_true rfl) dX5_multiply_8 ⟨Nat.le_of_ble_eq_true rfl, Nat.le_of_ble_eq_true rfl⟩ hS) hS (fun ru u H locs hp hw hS => ?_)
  obtain ⟨hr, hu⟩ := hp
  rw [hu] at hw
  refine xw_ti (y := (nI (xlen g 64) - 1)) (hr) ?_
  refine lv_istore_n (lv' := [(3, .int (nI (xlen g 64) - 1)), (0, .ref mo), (1, .ref (la i)), (2, .ref (la j))]) hx hb dX5_multiply_11 rfl hl (by decide) rfl (fun ls hl => ?_)
  refine lv_aload_n hx hb dX5_multiply_12 rfl (lv_at hl 2 rfl) ?_
  refine xw_ci (xw_S (n := 1) (rest := []) C hw (kX5_high l G B _ (la i) f ((xu_n _ _ ni).trans (hC.r i hi ei))) gX5_multiply_X5_high rfl rfl rfl (by decide +kernel) ⟨Nat.le_of_ble_eq_true rfl, Nat.le_of_ble_eq_true rfl⟩ rfl hl.1 rfl (Nat.le_of_ble_eq_true rfl) dX5_multiply_13 ⟨Nat.le_of_ble_eq_true rfl, Nat.le_of_ble_eq_true rfl⟩ hS) hS (fun ru u H locs hp hw hS => ?_)
  obtain ⟨hr, hu⟩ := hp
  rw [hu] at hw
  refine xw_ti (y := (nI (xlen f 64) - 1)) (hr) ?_
  refine lv_istore (lv' := [(4, .int (nI (xlen f 64) - 1)), (3, .int (nI (xlen g 64) - 1)), (0, .ref mo), (1, .ref (la i)), (2, .ref (la j))]) hx hb dX5_multiply_16 hl (by decide) rfl (fun ls hl => ?_)
  have loop : ∀ (d : Nat) (X : xP) (ls : Array Slot) (H : Heap) (locs : List Loc), d ≤ xlen f 64 → xma f g d X = xmul f g → xW G B (xu w (la 5) (xJr G 64 X)) H → va_S (xA B) s.heap H locs → lv_has ls 6 [(4, .int (nI d - 1)), (3, .int (nI (xlen g 64) - 1)), (0, .ref mo), (1, .ref (la i)), (2, .ref (la j))] → W p l ev rmX5_multiply s m [.ref mo, .ref (la i), .ref (la j)].toArray below meth cd H locs 0 0 (MQ below (va_Qv (fun u => u = xu w (la 5) (xJr G 64 (xmul f g))) (xE G B) (xA B)) [.ref mo, .ref (la i), .ref (la j)].toArray s 0 0 (xA B)) (F0 m 18 ls []) := by
    intro d
    induction d with
    | zero =>
      intro X ls H locs hd he hw hS hl
      refine lv_iload hx hb dX5_multiply_18 (lv_at hl 0 rfl) ?_
      refine lv_if_lt (tgt := 78) hx hb dX5_multiply_20 (by decide) (fun _ => ?_) (fun hc => absurd (x_neg) hc)
      exact xw_vret C hw hS (Nat.le_of_ble_eq_true rfl) (Nat.le_of_ble_eq_true rfl) (by rw [← he]; rfl) dX5_multiply_78
    | succ d ih =>
      intro X ls H locs hd he hw hS hl
      rw [x_m1] at hl
      refine lv_iload hx hb dX5_multiply_18 (lv_at hl 0 rfl) ?_
      refine lv_if_lt (tgt := 78) hx hb dX5_multiply_20 (by decide) (fun hc => absurd hc (nI_pos (by omega))) (fun _ => ?_)
      refine lv_iconst (v := 0) hx hb dX5_multiply_23 (by decide) ?_
      refine xw_ti (y := (nI 0)) (nI_0.symm) ?_
      refine lv_istore (lv' := [(5, .int (nI 0)), (4, .int (nI d)), (3, .int (nI (xlen g 64) - 1)), (0, .ref mo), (1, .ref (la i)), (2, .ref (la j))]) hx hb dX5_multiply_24 hl (by decide) rfl (fun ls hl => ?_)
      have inner : ∀ (t k : Nat) (ls : Array Slot) (H : Heap) (locs : List Loc), k + t = xlen g 64 → xW G B (xu w (la 5) (xJr G 64 (xgatk X (f d) g d k))) H → va_S (xA B) s.heap H locs → lv_has ls 6 [(5, .int (nI k)), (4, .int (nI d)), (3, .int (nI (xlen g 64) - 1)), (0, .ref mo), (1, .ref (la i)), (2, .ref (la j))] → W p l ev rmX5_multiply s m [.ref mo, .ref (la i), .ref (la j)].toArray below meth cd H locs 0 0 (MQ below (va_Qv (fun u => u = xu w (la 5) (xJr G 64 (xmul f g))) (xE G B) (xA B)) [.ref mo, .ref (la i), .ref (la j)].toArray s 0 0 (xA B)) (F0 m 26 ls []) := by
        intro t
        induction t with
        | zero =>
          intro k ls H locs hk hw hS hl
          refine lv_iload hx hb dX5_multiply_26 (lv_at hl 0 rfl) ?_
          refine lv_iload_n hx hb dX5_multiply_28 rfl (lv_at hl 2 rfl) ?_
          refine lv_icmp_gt (tgt := 72) hx hb dX5_multiply_29 (by decide) (fun _ => ?_) (fun hc => absurd ((x_gt_hi (by omega) (by omega)).mpr (by omega)) hc)
          refine lv_iinc (v := (nI d - 1)) (lv' := [(4, .int (nI d - 1)), (5, .int (nI k)), (3, .int (nI (xlen g 64) - 1)), (0, .ref mo), (1, .ref (la i)), (2, .ref (la j))]) hx hb dX5_multiply_72 hl (k := 1) rfl (x_dec _) (by decide) rfl (fun ls hl => ?_)
          refine lv_goto (tgt := 18) hx hb dX5_multiply_75 (by decide) ?_
          exact ih _ ls _ _ (by omega) (by rw [← he, xma_s, show k = xlen g 64 by omega, xgatk_end _ _ (xlen_sup sg)]) hw hS (lv_sub hl [0, 2, 3, 4, 5] rfl)
        | succ t ih2 =>
          intro k ls H locs hk hw hS hl
          refine lv_iload hx hb dX5_multiply_26 (lv_at hl 0 rfl) ?_
          refine lv_iload_n hx hb dX5_multiply_28 rfl (lv_at hl 2 rfl) ?_
          refine lv_icmp_gt (tgt := 72) hx hb dX5_multiply_29 (by decide) (fun hc => absurd hc (fun q => absurd ((x_gt_hi (by omega) (by omega)).mp q) (by omega))) (fun _ => ?_)
          refine lv_aload_n hx hb dX5_multiply_32 rfl (lv_at hl 3 rfl) ?_
          refine xw_get C hw ((xu_n _ _ nm).trans hC.o) (ci := 4) rfl iX5_multiply_X5 11 (by decide) (by decide +kernel) rfl dX5_multiply_33 ?_
          refine lv_iload hx hb dX5_multiply_36 (lv_at hl 1 rfl) ?_
          refine lv_iload hx hb dX5_multiply_38 (lv_at hl 0 rfl) ?_
          refine lv_iadd hx hb dX5_multiply_40 ?_
          refine xw_ti (y := (nI (k + d))) ((nI_add _ _).trans (by rw [Nat.add_comm])) ?_
          refine lv_aload_n hx hb dX5_multiply_41 rfl (lv_at hl 3 rfl) ?_
          refine xw_get C hw ((xu_n _ _ nm).trans hC.o) (ci := 4) rfl iX5_multiply_X5 11 (by decide) (by decide +kernel) rfl dX5_multiply_42 ?_
          refine lv_iload hx hb dX5_multiply_45 (lv_at hl 1 rfl) ?_
          refine lv_iload hx hb dX5_multiply_47 (lv_at hl 0 rfl) ?_
          refine lv_iadd hx hb dX5_multiply_49 ?_
          refine xw_ti (y := (nI (k + d))) ((nI_add _ _).trans (by rw [Nat.add_comm])) ?_
          refine xw_laldN C hw (xu_s _ _ _) (show k + d < 64 by omega) (by decide) dX5_multiply_50 ?_
          refine lv_aload_n hx hb dX5_multiply_51 rfl (lv_at hl 4 rfl) ?_
          refine lv_iload hx hb dX5_multiply_52 (lv_at hl 1 rfl) ?_
          refine xw_laldN C hw ((xu_n _ _ ni).trans (hC.r i hi ei)) (show d < 64 by omega) (by decide) dX5_multiply_54 ?_
          refine lv_aload_n hx hb dX5_multiply_55 rfl (lv_at hl 5 rfl) ?_
          refine lv_iload hx hb dX5_multiply_56 (lv_at hl 0 rfl) ?_
          refine xw_laldN C hw ((xu_n _ _ nj).trans (hC.r j hj ej)) (show k < 64 by omega) (by decide) dX5_multiply_58 ?_
          refine lv_lmul hx hb dX5_multiply_59 ?_
          refine lv_ladd hx hb dX5_multiply_60 ?_
          refine xw_ldc2 C (v := 32003) (by decide +kernel) dX5_multiply_61 ?_
          refine lv_lrem hx hb dX5_multiply_64 (by decide) ?_
          refine xw_tl (y := (xJ ((xgatk X (f d) g d k) (k + d) + f d * g k))) (xl_mad _ _ _) ?_
          refine xw_lastN C hw hS (xu_s _ _ _) (show k + d < 64 by omega) (by decide) dX5_multiply_65 (fun H locs hw hS => ?_)
          have hw : xW G B (xu w (la 5) (xJr G 64 (xgatk X (f d) g d (k + 1)))) H := by rw [xu_u, xrowJ_up, xgatk_s] at hw; exact hw
          refine lv_iinc (v := (nI (k + 1))) (lv' := [(5, .int (nI (k + 1))), (4, .int (nI d)), (3, .int (nI (xlen g 64) - 1)), (0, .ref mo), (1, .ref (la i)), (2, .ref (la j))]) hx hb dX5_multiply_66 hl (k := 0) rfl (x_inc k) (by decide) rfl (fun ls hl => ?_)
          refine lv_goto (tgt := 26) hx hb dX5_multiply_69 (by decide) ?_
          exact ih2 (k + 1) ls _ _ (by omega) hw hS (lv_sub hl [0, 1, 2, 3, 4, 5] rfl)
      exact inner (xlen g 64) 0 ls _ _ (by omega) (by rw [xgatk_0]; exact hw) hS hl
  exact loop (xlen f 64) _ ls _ _ (Nat.le_refl _) (xma_mul (xlen_sup sf)) hw hS hl

abbrev rmX5_divide : Room := { frames := 1, cells := 0, slots := 0, locals := 26 }
theorem iX5_divide_X5 : ∀ w ∈ wsX50, w ∈ wsX5_divide := by decide +kernel
set_option maxHeartbeats 4000000 in
set_option maxRecDepth 100000 in
theorem kX5_divide (l : Launch) (G : xG) (B : Nat) (w : xM) (mo : Nat) (la ia : Nat → Nat) (rq : Nat) (co : Int32) (mn : Nat) (im lr : Nat → xP) (ro : Nat → Option Nat) (me : Int32) (wr : xM) (hC : xML G w mo la ia rq co mn im lr ro me wr) (i j : Nat) (hi : i < 11) (hj : j < 11) (hij : i ≠ j) (hi7 : i ≠ 7) (hj7 : j ≠ 7) (f g : xP) (ei : lr i = f) (ej : lr j = g) (h0 : xlen g 64 ≠ 0) : Met l yX5_divide wsX5_divide rmX5_divide (va_Pc [.ref mo, .ref (la i), .ref (la j)] (xB G B w)) (va_Qv (fun u => u = xu (xu w (la i) (xJr G 64 (xrem f g))) (la 7) (xJr G 64 (xquo f g))) (xE G B) (xA B)) 0 0 (xA B) := by
  refine xw_start (own := RX5) (mn := "divide") (cc := cX5_divide) (nL := 10) (rt := none) (by decide) rfl rfl rfl (Nat.le_of_ble_eq_true rfl) ?_
  intro p ev s m below meth cd ls C hl hw hS
  obtain ⟨hx, hb, -, -, -, hts, -, -, -, -⟩ := id C
  have hl : lv_has ls 10 [(0, .ref mo), (1, .ref (la i)), (2, .ref (la j))] := hl
  have sf := hC.rs i hi ei
  have sg := hC.rs j hj ej
  have n1 : la j ≠ la i := hC.ln (by omega) (by omega) (Ne.symm hij)
  have n2 : la i ≠ la 7 := hC.ln (by omega) (by decide) hi7
  have n3 : la j ≠ la 7 := hC.ln (by omega) (by decide) hj7
  have nm : mo ≠ la 7 := x_ne hC.o (hC.r 7 (by decide) rfl) (fun z => by simp [xJr] at z)
  have nm2 : mo ≠ la i := x_ne hC.o (hC.r i hi ei) (fun z => by simp [xJr] at z)
  have lf := xlen_le f 64
  have lg := xlen_le g 64
  have sg2 := xlen_sup sg
  obtain ⟨b, hb0⟩ : ∃ b, xlen g 64 = b + 1 := ⟨xlen g 64 - 1, by omega⟩
  have hqr : xqr f g = xdv g b (xinv (g b)) (xlen f 64 - b) f (fun _ => 0) := by unfold xqr; rw [hb0, show b + 1 - 1 = b by omega, show xlen f 64 + 1 - (b + 1) = xlen f 64 - b by omega]
  refine lv_aload_n hx hb dX5_divide_0 rfl (lv_at hl 2 rfl) ?_
  refine xw_ci (xw_S (n := 1) (rest := []) C hw (kX5_high l G B _ (la j) g (hC.r j hj ej)) gX5_divide_X5_high rfl rfl rfl (by decide +kernel) ⟨Nat.le_of_ble_eq_true rfl, Nat.le_of_ble_eq_true rfl⟩ rfl hl.1 rfl (Nat.le_of_ble_eq_true rfl) dX5_divide_1 ⟨Nat.le_of_ble_eq_true rfl, Nat.le_of_ble_eq_true rfl⟩ hS) hS (fun ru u H locs hp hw hS => ?_)
  obtain ⟨hr, hu⟩ := hp
  rw [hu] at hw
  refine xw_ti (y := (nI b)) (hr.trans (by rw [hb0, x_m1])) ?_
  refine lv_istore_n (lv' := [(3, .int (nI b)), (0, .ref mo), (1, .ref (la i)), (2, .ref (la j))]) hx hb dX5_divide_4 rfl hl (by decide) rfl (fun ls hl => ?_)
  refine lv_aload_n hx hb dX5_divide_5 rfl (lv_at hl 3 rfl) ?_
  refine lv_iload_n hx hb dX5_divide_6 rfl (lv_at hl 0 rfl) ?_
  refine xw_laldN C hw (hC.r j hj ej) (show b < 64 by omega) (by decide) dX5_divide_7 ?_
  refine xw_cl (xw_S (n := 1) (rest := []) C hw (kX5_inverse l G B _ (g b)) gX5_divide_X5_inverse rfl rfl rfl (by decide +kernel) ⟨Nat.le_of_ble_eq_true rfl, Nat.le_of_ble_eq_true rfl⟩ rfl hl.1 rfl (Nat.le_of_ble_eq_true rfl) dX5_divide_8 ⟨Nat.le_of_ble_eq_true rfl, Nat.le_of_ble_eq_true rfl⟩ hS) hS (fun ru u H locs hp hw hS => ?_)
  obtain ⟨hr, hu⟩ := hp
  rw [hu] at hw
  refine xw_tl (y := (xJ (xinv (g b)))) (hr) ?_
  refine lv_lstore (lv' := [(4, .long (xJ (xinv (g b)))), (3, .int (nI b)), (0, .ref mo), (1, .ref (la i)), (2, .ref (la j))]) hx hb dX5_divide_11 hl (by decide) rfl (fun ls hl => ?_)
  refine lv_aload_n hx hb dX5_divide_13 rfl (lv_at hl 2 rfl) ?_
  refine xw_get C hw hC.o (ci := 4) rfl iX5_divide_X5 13 (by decide) (by decide +kernel) rfl dX5_divide_14 ?_
  refine xw_cv (xw_S (n := 1) (rest := []) C hw (kX5_empty l G B _ (la 7) _ (hC.r 7 (by decide) rfl) (hC.rs 7 (by decide) rfl)) gX5_divide_X5_empty rfl rfl rfl (by decide +kernel) ⟨Nat.le_of_ble_eq_true rfl, Nat.le_of_ble_eq_true rfl⟩ rfl hl.1 rfl (Nat.le_of_ble_eq_true rfl) dX5_divide_17 ⟨Nat.le_of_ble_eq_true rfl, Nat.le_of_ble_eq_true rfl⟩ hS) hS (fun u H locs hpp hw hS => ?_)
  rw [hpp] at hw
  refine lv_aload_n hx hb dX5_divide_20 rfl (lv_at hl 3 rfl) ?_
  refine xw_ci (xw_S (n := 1) (rest := []) C hw (kX5_high l G B _ (la i) f ((xu_n _ _ n2).trans (hC.r i hi ei))) gX5_divide_X5_high rfl rfl rfl (by decide +kernel) ⟨Nat.le_of_ble_eq_true rfl, Nat.le_of_ble_eq_true rfl⟩ rfl hl.1 rfl (Nat.le_of_ble_eq_true rfl) dX5_divide_21 ⟨Nat.le_of_ble_eq_true rfl, Nat.le_of_ble_eq_true rfl⟩ hS) hS (fun ru u H locs hp hw hS => ?_)
  obtain ⟨hr, hu⟩ := hp
  rw [hu] at hw
  refine xw_ti (y := (nI (xlen f 64) - 1)) (hr) ?_
  refine lv_istore (lv' := [(6, .int (nI (xlen f 64) - 1)), (4, .long (xJ (xinv (g b)))), (3, .int (nI b)), (0, .ref mo), (1, .ref (la i)), (2, .ref (la j))]) hx hb dX5_divide_24 hl (by decide) rfl (fun ls hl => ?_)
  have loop : ∀ (d : Nat) (tt : Nat) (F Z : xP) (ls : Array Slot) (H : Heap) (locs : List Loc), tt ≤ b + d → (d = 0 ∨ tt = b + d) → b + d ≤ 64 + b → xsup F 64 → xsup Z 64 → d ≤ 64 → b + d ≤ 64 ∨ d = 0 → xdv g b (xinv (g b)) d F Z = xqr f g → xW G B (xu (xu w (la i) (xJr G 64 F)) (la 7) (xJr G 64 Z)) H → va_S (xA B) s.heap H locs → lv_has ls 10 [(6, .int (nI tt - 1)), (4, .long (xJ (xinv (g b)))), (3, .int (nI b)), (0, .ref mo), (1, .ref (la i)), (2, .ref (la j))] → W p l ev rmX5_divide s m [.ref mo, .ref (la i), .ref (la j)].toArray below meth cd H locs 0 0 (MQ below (va_Qv (fun u => u = xu (xu w (la i) (xJr G 64 (xrem f g))) (la 7) (xJr G 64 (xquo f g))) (xE G B) (xA B)) [.ref mo, .ref (la i), .ref (la j)].toArray s 0 0 (xA B)) (F0 m 26 ls []) := by
    intro d
    induction d with
    | zero =>
      intro tt F Z ls H locs ht ht2 hb2 sF sZ hd hd2 he hw hS hl
      refine lv_iload hx hb dX5_divide_26 (lv_at hl 0 rfl) ?_
      refine lv_iload_n hx hb dX5_divide_28 rfl (lv_at hl 2 rfl) ?_
      refine lv_icmp_lt (tgt := 113) hx hb dX5_divide_29 (by decide) (fun _ => ?_) (fun hc => absurd ((x_gt_hi (by omega) (by omega)).mpr (by omega)) hc)
      exact xw_vret C hw hS (Nat.le_of_ble_eq_true rfl) (Nat.le_of_ble_eq_true rfl) (by unfold xrem xquo; rw [← he]; rfl) dX5_divide_113
    | succ d ih =>
      intro tt F Z ls H locs ht ht2 hb2 sF sZ hd hd2 he hw hS hl
      obtain rfl : tt = d + b + 1 := by omega
      rw [x_m1] at hl
      rw [xdv_s] at he
      refine lv_iload hx hb dX5_divide_26 (lv_at hl 0 rfl) ?_
      refine lv_iload_n hx hb dX5_divide_28 rfl (lv_at hl 2 rfl) ?_
      refine lv_icmp_lt (tgt := 113) hx hb dX5_divide_29 (by decide) (fun hc => absurd hc (nI_nlt (by omega) (by omega))) (fun _ => ?_)
      refine lv_aload_n hx hb dX5_divide_32 rfl (lv_at hl 4 rfl) ?_
      refine lv_iload hx hb dX5_divide_33 (lv_at hl 0 rfl) ?_
      refine xw_laldN C hw ((xu_n _ _ n2).trans (xu_s _ _ _)) (show d + b < 64 by omega) (by decide) dX5_divide_35 ?_
      refine lv_lload hx hb dX5_divide_36 (lv_at hl 1 rfl) ?_
      refine lv_lmul hx hb dX5_divide_38 ?_
      refine xw_ldc2 C (v := 32003) (by decide +kernel) dX5_divide_39 ?_
      refine lv_lrem hx hb dX5_divide_42 (by decide) ?_
      refine xw_tl (y := (xJ (F (d + b) * xinv (g b)))) (xl_mul _ _) ?_
      obtain ⟨v, hv⟩ : ∃ v, v = F (d + b) * xinv (g b) := ⟨_, rfl⟩
      rw [← hv] at he ⊢
      refine lv_lstore (lv' := [(7, .long (xJ v)), (6, .int (nI (d + b))), (4, .long (xJ (xinv (g b)))), (3, .int (nI b)), (0, .ref mo), (1, .ref (la i)), (2, .ref (la j))]) hx hb dX5_divide_43 hl (by decide) rfl (fun ls hl => ?_)
      refine lv_aload_n hx hb dX5_divide_45 rfl (lv_at hl 4 rfl) ?_
      refine xw_get C hw ((xu_n _ _ nm).trans ((xu_n _ _ nm2).trans hC.o)) (ci := 4) rfl iX5_divide_X5 13 (by decide) (by decide +kernel) rfl dX5_divide_46 ?_
      refine lv_iload hx hb dX5_divide_49 (lv_at hl 1 rfl) ?_
      refine lv_iload_n hx hb dX5_divide_51 rfl (lv_at hl 3 rfl) ?_
      refine lv_isub hx hb dX5_divide_52 ?_
      refine xw_ti (y := (nI d)) ((pk_sub (by omega)).trans (by rw [show d + b - b = d by omega])) ?_
      refine lv_lload hx hb dX5_divide_53 (lv_at hl 0 rfl) ?_
      refine xw_lastN C hw hS (xu_s _ _ _) (show d < 64 by omega) (by decide) dX5_divide_55 (fun H locs hw hS => ?_)
      have hw : xW G B (xu (xu w (la i) (xJr G 64 F)) (la 7) (xJr G 64 (va_up Z d v))) H := by rw [xu_u, xrowJ_up] at hw; exact hw
      refine lv_iconst (v := 0) hx hb dX5_divide_56 (by decide) ?_
      refine xw_ti (y := (nI 0)) (nI_0.symm) ?_
      refine lv_istore (lv' := [(9, .int (nI 0)), (7, .long (xJ v)), (6, .int (nI (d + b))), (4, .long (xJ (xinv (g b)))), (3, .int (nI b)), (0, .ref mo), (1, .ref (la i)), (2, .ref (la j))]) hx hb dX5_divide_57 hl (by decide) rfl (fun ls hl => ?_)
      by_cases hv0 : v = 0
      · skip
        refine lv_iload hx hb dX5_divide_59 (lv_at hl 0 rfl) ?_
        refine lv_iload_n hx hb dX5_divide_61 rfl (lv_at hl 4 rfl) ?_
        refine lv_icmp_gt (tgt := 107) hx hb dX5_divide_62 (by decide) (fun hc => absurd hc (nI_nlt (by omega) (by omega))) (fun _ => ?_)
        refine lv_lload hx hb dX5_divide_65 (lv_at hl 1 rfl) ?_
        refine lv_lconst (v := 0) hx hb dX5_divide_67 (by decide) ?_
        refine W.lcmp hx hb dX5_divide_68 ?_
        refine lv_if_le (tgt := 107) hx hb dX5_divide_69 (by decide) (fun _ => ?_) (fun hc => absurd ((lg_cmp_le _ _).mpr (by rw [hv0]; decide)) hc)
        refine lv_iinc (v := (nI (d + b) - 1)) (lv' := [(6, .int (nI (d + b) - 1)), (9, .int (nI 0)), (7, .long (xJ v)), (4, .long (xJ (xinv (g b)))), (3, .int (nI b)), (0, .ref mo), (1, .ref (la i)), (2, .ref (la j))]) hx hb dX5_divide_107 hl (k := 2) rfl (x_dec _) (by decide) rfl (fun ls hl => ?_)
        refine lv_goto (tgt := 26) hx hb dX5_divide_110 (by decide) ?_
        exact ih (d + b) F _ ls _ _ (by omega) (by omega) (by omega) sF (xsup_up sZ (by omega)) (by omega) (by omega) (by rw [← he, hv0, xgatm0]) hw hS (lv_sub hl [0, 3, 4, 5, 6, 7] rfl)
      · skip
        have inner : ∀ (t k : Nat) (ls : Array Slot) (H : Heap) (locs : List Loc), k + t = b + 1 → xW G B (xu (xu w (la i) (xJr G 64 (xgatk F (xO (32003 - v.val)) g d k))) (la 7) (xJr G 64 (va_up Z d v))) H → va_S (xA B) s.heap H locs → lv_has ls 10 [(9, .int (nI k)), (7, .long (xJ v)), (6, .int (nI (d + b))), (4, .long (xJ (xinv (g b)))), (3, .int (nI b)), (0, .ref mo), (1, .ref (la i)), (2, .ref (la j))] → W p l ev rmX5_divide s m [.ref mo, .ref (la i), .ref (la j)].toArray below meth cd H locs 0 0 (MQ below (va_Qv (fun u => u = xu (xu w (la i) (xJr G 64 (xrem f g))) (la 7) (xJr G 64 (xquo f g))) (xE G B) (xA B)) [.ref mo, .ref (la i), .ref (la j)].toArray s 0 0 (xA B)) (F0 m 59 ls []) := by
          intro t
          induction t with
          | zero =>
            intro k ls H locs hk hw hS hl
            refine lv_iload hx hb dX5_divide_59 (lv_at hl 0 rfl) ?_
            refine lv_iload_n hx hb dX5_divide_61 rfl (lv_at hl 4 rfl) ?_
            refine lv_icmp_gt (tgt := 107) hx hb dX5_divide_62 (by decide) (fun _ => ?_) (fun hc => absurd ((nI_ltI (by omega) (by omega)).mpr (by omega)) hc)
            refine lv_iinc (v := (nI (d + b) - 1)) (lv' := [(6, .int (nI (d + b) - 1)), (9, .int (nI k)), (7, .long (xJ v)), (4, .long (xJ (xinv (g b)))), (3, .int (nI b)), (0, .ref mo), (1, .ref (la i)), (2, .ref (la j))]) hx hb dX5_divide_107 hl (k := 2) rfl (x_dec _) (by decide) rfl (fun ls hl => ?_)
            refine lv_goto (tgt := 26) hx hb dX5_divide_110 (by decide) ?_
            exact ih (d + b) _ _ ls _ _ (by omega) (by omega) (by omega) (xgat_sup (q := xO (32003 - v.val)) (pw := d) sF sg2 (by omega)) (xsup_up sZ (by omega)) (by omega) (by omega) he (by rw [show k = xlen g 64 by omega, xgatk_end _ _ sg2] at hw; exact hw) hS (lv_sub hl [0, 3, 4, 5, 6, 7] rfl)
          | succ t ih2 =>
            intro k ls H locs hk hw hS hl
            refine lv_iload hx hb dX5_divide_59 (lv_at hl 0 rfl) ?_
            refine lv_iload_n hx hb dX5_divide_61 rfl (lv_at hl 4 rfl) ?_
            refine lv_icmp_gt (tgt := 107) hx hb dX5_divide_62 (by decide) (fun hc => absurd hc (fun q => absurd ((nI_ltI (by omega) (by omega)).mp q) (by omega))) (fun _ => ?_)
            refine lv_lload hx hb dX5_divide_65 (lv_at hl 1 rfl) ?_
            refine lv_lconst (v := 0) hx hb dX5_divide_67 (by decide) ?_
            refine W.lcmp hx hb dX5_divide_68 ?_
            refine lv_if_le (tgt := 107) hx hb dX5_divide_69 (by decide) (fun hc => absurd hc (fun q => absurd ((lg_cmp_le _ _).mp q) (Int64.not_le.mpr (xJ_pos.mpr hv0)))) (fun _ => ?_)
            refine lv_aload_n hx hb dX5_divide_72 rfl (lv_at hl 6 rfl) ?_
            refine lv_iload hx hb dX5_divide_73 (lv_at hl 2 rfl) ?_
            refine lv_iload_n hx hb dX5_divide_75 rfl (lv_at hl 4 rfl) ?_
            refine lv_isub hx hb dX5_divide_76 ?_
            refine xw_ti (y := (nI d)) ((pk_sub (by omega)).trans (by rw [show d + b - b = d by omega])) ?_
            refine lv_iload hx hb dX5_divide_77 (lv_at hl 0 rfl) ?_
            refine lv_iadd hx hb dX5_divide_79 ?_
            refine xw_ti (y := (nI (k + d))) ((nI_add _ _).trans (by rw [Nat.add_comm])) ?_
            refine lv_aload_n hx hb dX5_divide_80 rfl (lv_at hl 6 rfl) ?_
            refine lv_iload hx hb dX5_divide_81 (lv_at hl 2 rfl) ?_
            refine lv_iload_n hx hb dX5_divide_83 rfl (lv_at hl 4 rfl) ?_
            refine lv_isub hx hb dX5_divide_84 ?_
            refine xw_ti (y := (nI d)) ((pk_sub (by omega)).trans (by rw [show d + b - b = d by omega])) ?_
            refine lv_iload hx hb dX5_divide_85 (lv_at hl 0 rfl) ?_
            refine lv_iadd hx hb dX5_divide_87 ?_
            refine xw_ti (y := (nI (k + d))) ((nI_add _ _).trans (by rw [Nat.add_comm])) ?_
            refine xw_laldN C hw ((xu_n _ _ n2).trans (xu_s _ _ _)) (show k + d < 64 by omega) (by decide) dX5_divide_88 ?_
            refine lv_lload hx hb dX5_divide_89 (lv_at hl 1 rfl) ?_
            refine lv_aload_n hx hb dX5_divide_91 rfl (lv_at hl 7 rfl) ?_
            refine lv_iload hx hb dX5_divide_92 (lv_at hl 0 rfl) ?_
            refine xw_laldN C hw ((xu_n _ _ n3).trans ((xu_n _ _ n1).trans (hC.r j hj ej))) (show k < 64 by omega) (by decide) dX5_divide_94 ?_
            refine lv_lmul hx hb dX5_divide_95 ?_
            refine lv_lsub hx hb dX5_divide_96 ?_
            refine xw_cl (xw_S (n := 1) (rest := [.int (nI (k + d)), .ref (la i)]) C hw (kX5_modulo l G B _ _) gX5_divide_X5_modulo rfl rfl rfl (by decide +kernel) ⟨Nat.le_of_ble_eq_true rfl, Nat.le_of_ble_eq_true rfl⟩ rfl hl.1 rfl (Nat.le_of_ble_eq_true rfl) dX5_divide_97 ⟨Nat.le_of_ble_eq_true rfl, Nat.le_of_ble_eq_true rfl⟩ hS) hS (fun ru u H locs hp hw hS => ?_)
            obtain ⟨hr, hu⟩ := hp
            rw [hu] at hw
            refine xw_tl (y := (xJ ((xgatk F (xO (32003 - v.val)) g d k) (k + d) + xO (32003 - v.val) * g k))) (hr.trans (congrArg xJ ((xR_subm ((xgatk F (xO (32003 - v.val)) g d k) (k + d)) v (g k)).trans (by rw [xO_neg]; grind)))) ?_
            refine xw_lastN C hw hS ((xu_n _ _ n2).trans (xu_s _ _ _)) (show k + d < 64 by omega) (by decide) dX5_divide_100 (fun H locs hw hS => ?_)
            have hw : xW G B (xu (xu w (la i) (xJr G 64 (xgatk F (xO (32003 - v.val)) g d (k + 1)))) (la 7) (xJr G 64 (va_up Z d v))) H := by rw [xrowJ_up, xgatk_s, xu_c _ _ _ (Ne.symm n2), xu_u] at hw; exact hw
            refine lv_iinc (v := (nI (k + 1))) (lv' := [(9, .int (nI (k + 1))), (7, .long (xJ v)), (6, .int (nI (d + b))), (4, .long (xJ (xinv (g b)))), (3, .int (nI b)), (0, .ref mo), (1, .ref (la i)), (2, .ref (la j))]) hx hb dX5_divide_101 hl (k := 0) rfl (x_inc k) (by decide) rfl (fun ls hl => ?_)
            refine lv_goto (tgt := 59) hx hb dX5_divide_104 (by decide) ?_
            exact ih2 (k + 1) ls _ _ (by omega) hw hS (lv_sub hl [0, 1, 2, 3, 4, 5, 6, 7] rfl)
        exact inner (b + 1) 0 ls _ _ (by omega) (by rw [xgatk_0]; exact hw) hS (lv_sub hl [0, 1, 2, 3, 4, 5, 6, 7] rfl)
  exact loop (xlen f 64 - b) (xlen f 64) f _ ls _ _ (by omega) (by omega) (by omega) sf (xsup_z 64) (by omega) (by omega) hqr.symm (by rw [xu_id w (hC.r i hi ei)]; exact hw) hS hl
