/-! ===== the reference: clear (laid by wip/whole/m_modo.py) ===== -/
theorem xscM_at (M : xMt) (r : Nat) (v : xF) (i : Nat) : xscM M r v i r i = M r i := by unfold xscM; rw [if_neg (by omega)]
theorem xsw_at (M : xMt) (a r i n : Nat) : xsw M a r i n i = M n i := by unfold xsw; rw [if_neg (by omega)]
abbrev rmX5_clear : Room := { frames := 1, cells := 0, slots := 0, locals := 26 }
theorem iX5_clear_X5 : ∀ w ∈ wsX50, w ∈ wsX5_clear := by decide +kernel
set_option maxHeartbeats 4000000 in
set_option maxRecDepth 100000 in
theorem kX5_clear (l : Launch) (G : xG) (B : Nat) (w : xM) (mo : Nat) (la ia : Nat → Nat) (rq : Nat) (co : Int32) (mn : Nat) (im lr : Nat → xP) (ro : Nat → Option Nat) (me : Int32) (wr : xM) (hC : xML G w mo la ia rq co mn im lr ro me wr) (t : Nat) (ht : t < 9) (M0 : xMt) (e11 : lr 11 = xfl M0) : Met l yX5_clear wsX5_clear rmX5_clear (va_Pc [.ref mo, .int (nI t)] (xB G B w)) (va_Qi (fun r u => ∃ lr2 ro2 me2 M, xML G u mo la ia rq co mn im lr2 ro2 me2 wr ∧ lr2 11 = xfl M ∧ (∀ i, i < 11 → lr2 i = lr i) ∧ xRd M0 M (t + 1) ro2 ∧ r = nI (xnn ro2 (t + 1)) ∧ ((me2 = 1 ∧ ∀ n, n < 64 → xrk ro2 (t + 1) ≤ n → M n 9 = 0) ∨ (me2 = 0 ∧ ∃ n, n < 64 ∧ xrk ro2 (t + 1) ≤ n ∧ M n 9 ≠ 0))) (xE G B) (xA B)) 0 0 (xA B) := by
  refine xw_start (own := RX5) (mn := "clear") (cc := cX5_clear) (nL := 12) (rt := (some .int)) (by decide) rfl rfl rfl (Nat.le_of_ble_eq_true rfl) ?_
  intro p ev s m below meth cd ls C hl hw hS
  obtain ⟨hx, hb, -, -, -, hts, -, -, -, -⟩ := id C
  have hl : lv_has ls 12 [(0, .ref mo), (1, .int (nI t))] := hl
  have hk11 : ∀ i, i < 11 → lr i = lr i := fun _ _ => rfl
  refine lv_iconst (v := 0) hx hb dX5_clear_0 (by decide) ?_
  refine xw_ti (y := (nI 0)) (nI_0.symm) ?_
  refine lv_istore_n (lv' := [(2, .int (nI 0)), (0, .ref mo), (1, .int (nI t))]) hx hb dX5_clear_1 rfl hl (by decide) rfl (fun ls hl => ?_)
  refine lv_iconst (v := 0) hx hb dX5_clear_2 (by decide) ?_
  refine xw_ti (y := (nI 0)) (nI_0.symm) ?_
  refine lv_istore_n (lv' := [(3, .int (nI 0)), (2, .int (nI 0)), (0, .ref mo), (1, .int (nI t))]) hx hb dX5_clear_3 rfl hl (by decide) rfl (fun ls hl => ?_)
  refine lv_iconst (v := 0) hx hb dX5_clear_4 (by decide) ?_
  refine xw_ti (y := (nI 0)) (nI_0.symm) ?_
  refine lv_istore (lv' := [(4, .int (nI 0)), (3, .int (nI 0)), (2, .int (nI 0)), (0, .ref mo), (1, .int (nI t))]) hx hb dX5_clear_5 hl (by decide) rfl (fun ls hl => ?_)
  have loop : ∀ (d K : Nat) (w1 : xM) (lr5 : Nat → xP) (ro5 : Nat → Option Nat) (M : xMt) (ls : Array Slot) (H : Heap) (locs : List Loc), K + d = t + 1 → xML G w1 mo la ia rq co mn im lr5 ro5 me wr → lr5 11 = xfl (M) → (∀ i, i < 11 → lr5 i = lr i) → xRd M0 M K ro5 → xW G B w1 H → va_S (xA B) s.heap H locs → lv_has ls 12 [(4, .int (nI K)), (3, .int (nI (xnn ro5 K))), (2, .int (nI (xrk ro5 K))), (0, .ref mo), (1, .int (nI t))] → W p l ev rmX5_clear s m [.ref mo, .int (nI t)].toArray below meth cd H locs 0 0 (MQ below (va_Qi (fun r u => ∃ lr2 ro2 me2 M, xML G u mo la ia rq co mn im lr2 ro2 me2 wr ∧ lr2 11 = xfl M ∧ (∀ i, i < 11 → lr2 i = lr i) ∧ xRd M0 M (t + 1) ro2 ∧ r = nI (xnn ro2 (t + 1)) ∧ ((me2 = 1 ∧ ∀ n, n < 64 → xrk ro2 (t + 1) ≤ n → M n 9 = 0) ∨ (me2 = 0 ∧ ∃ n, n < 64 ∧ xrk ro2 (t + 1) ≤ n ∧ M n 9 ≠ 0))) (xE G B) (xA B)) [.ref mo, .int (nI t)].toArray s 0 0 (xA B)) (F0 m 7 ls []) := by
    intro d
    induction d with
    | zero =>
      intro K w1 lr5 ro5 M ls H locs hK hC e11 hk11 hRd hw hS hl
      obtain rfl : K = t + 1 := by omega
      have hrk := xrk_le ro5 (t + 1)
      refine lv_iload hx hb dX5_clear_7 (lv_at hl 0 rfl) ?_
      refine lv_iload_n hx hb dX5_clear_9 rfl (lv_at hl 4 rfl) ?_
      refine lv_icmp_gt (tgt := 328) hx hb dX5_clear_10 (by decide) (fun _ => ?_) (fun hc => absurd ((nI_ltI (by omega) (by omega)).mpr (by omega)) hc)
      refine lv_aload_n hx hb dX5_clear_328 rfl (lv_at hl 3 rfl) ?_
      refine lv_iconst (v := 1) hx hb dX5_clear_329 (by decide) ?_
      refine xw_put C hw hS hC.o (ci := 4) rfl iX5_clear_X5 tyX5 tyX5_ok nmX5 19 (by decide) (by decide +kernel) rfl (ty := .boolean) (by decide +kernel) rfl rfl (Nat.le_of_ble_eq_true rfl) dX5_clear_330 (fun H locs hw hS => ?_)
      have hw : xW G B (xu _ mo (.inr (4, xMf la ia rq co mn 1))) H := hw
      have hC := hC.setO co mn 1 hC.m50
      refine lv_iload_n hx hb dX5_clear_333 rfl (lv_at hl 2 rfl) ?_
      refine lv_istore (lv' := [(4, .int (nI (xrk ro5 (t + 1)))), (3, .int (nI (xnn ro5 (t + 1)))), (2, .int (nI (xrk ro5 (t + 1)))), (0, .ref mo), (1, .int (nI t))]) hx hb dX5_clear_334 hl (by decide) rfl (fun ls hl => ?_)
      have fin : ∀ (d n : Nat) (w1 : xM) (me5 : Int32) (ls : Array Slot) (H : Heap) (locs : List Loc), n + d = 64 → xML G w1 mo la ia rq co mn im lr5 ro5 me5 wr → ((me5 = 1 ∧ ∀ j, xrk ro5 (t + 1) ≤ j → j < n → M j 9 = 0) ∨ (me5 = 0 ∧ ∃ j, j < 64 ∧ xrk ro5 (t + 1) ≤ j ∧ M j 9 ≠ 0)) → xrk ro5 (t + 1) ≤ n → xW G B w1 H → va_S (xA B) s.heap H locs → lv_has ls 12 [(4, .int (nI n)), (3, .int (nI (xnn ro5 (t + 1)))), (0, .ref mo)] → W p l ev rmX5_clear s m [.ref mo, .int (nI t)].toArray below meth cd H locs 0 0 (MQ below (va_Qi (fun r u => ∃ lr2 ro2 me2 M, xML G u mo la ia rq co mn im lr2 ro2 me2 wr ∧ lr2 11 = xfl M ∧ (∀ i, i < 11 → lr2 i = lr i) ∧ xRd M0 M (t + 1) ro2 ∧ r = nI (xnn ro2 (t + 1)) ∧ ((me2 = 1 ∧ ∀ n, n < 64 → xrk ro2 (t + 1) ≤ n → M n 9 = 0) ∨ (me2 = 0 ∧ ∃ n, n < 64 ∧ xrk ro2 (t + 1) ≤ n ∧ M n 9 ≠ 0))) (xE G B) (xA B)) [.ref mo, .int (nI t)].toArray s 0 0 (xA B)) (F0 m 336 ls []) := by
        intro d
        induction d with
        | zero =>
          intro n w1 me5 ls H locs hn hC hme hrn hw hS hl
          refine lv_iload hx hb dX5_clear_336 (lv_at hl 0 rfl) ?_
          refine lv_bipush (v := 64) hx hb dX5_clear_338 (by decide) ?_
          refine xw_ti (y := (nI 64)) (by decide) ?_
          refine lv_icmp_ge (tgt := 383) hx hb dX5_clear_340 (by decide) (fun _ => ?_) (fun hc => absurd ((nI_leI (by omega) (by omega)).mpr (by omega)) hc)
          refine lv_iload_n hx hb dX5_clear_383 rfl (lv_at hl 1 rfl) ?_
          exact xw_iret C hw hS (Nat.le_of_ble_eq_true rfl) (Nat.le_of_ble_eq_true rfl) (⟨lr5, ro5, me5, M, hC, e11, hk11, hRd, rfl, hme.imp (fun q => ⟨q.1, fun j h1 h2 => q.2 j h2 (by omega)⟩) id⟩) dX5_clear_384
        | succ d ih2 =>
          intro n w1 me5 ls H locs hn hC hme hrn hw hS hl
          rcases hme with ⟨rfl, hz⟩ | ⟨rfl, hz⟩
          · skip
            refine lv_iload hx hb dX5_clear_336 (lv_at hl 0 rfl) ?_
            refine lv_bipush (v := 64) hx hb dX5_clear_338 (by decide) ?_
            refine xw_ti (y := (nI 64)) (by decide) ?_
            refine lv_icmp_ge (tgt := 383) hx hb dX5_clear_340 (by decide) (fun hc => absurd hc (fun q => absurd ((nI_leI (by omega) (by omega)).mp q) (by omega))) (fun _ => ?_)
            refine lv_aload_n hx hb dX5_clear_343 rfl (lv_at hl 2 rfl) ?_
            refine lv_aload_n hx hb dX5_clear_344 rfl (lv_at hl 2 rfl) ?_
            refine xw_get C hw hC.o (ci := 4) rfl iX5_clear_X5 19 (by decide) (by decide +kernel) rfl dX5_clear_345 ?_
            refine lv_if_eq (tgt := 373) hx hb dX5_clear_348 (by decide) (fun hc => absurd hc (by decide)) (fun _ => ?_)
            refine lv_aload_n hx hb dX5_clear_351 rfl (lv_at hl 2 rfl) ?_
            refine xw_get C hw hC.o (ci := 4) rfl iX5_clear_X5 14 (by decide) (by decide +kernel) rfl dX5_clear_352 ?_
            refine lv_bipush (v := 10) hx hb dX5_clear_355 (by decide) ?_
            refine xw_ti (y := (nI 10)) (by decide) ?_
            refine lv_iload hx hb dX5_clear_357 (lv_at hl 0 rfl) ?_
            refine lv_imul hx hb dX5_clear_359 ?_
            refine xw_ti (y := (nI (10 * n))) (pk_mul _ _) ?_
            refine lv_bipush (v := 9) hx hb dX5_clear_360 (by decide) ?_
            refine xw_ti (y := (nI 9)) (by decide) ?_
            refine lv_iadd hx hb dX5_clear_362 ?_
            refine xw_ti (y := (nI (10 * n + 9))) (nI_add _ _) ?_
            refine xw_laldN C hw (hC.t e11) (show 10 * n + 9 < 640 by omega) (by decide) dX5_clear_363 ?_
            refine xw_tl (y := (xJ (M n 9))) (congrArg xJ ((xfl_at _ (show n < 64 by omega) (show 9 < 10 by omega)))) ?_
            refine lv_lconst (v := 0) hx hb dX5_clear_364 (by decide) ?_
            refine W.lcmp hx hb dX5_clear_365 ?_
            refine lv_if_ne (tgt := 373) hx hb dX5_clear_366 (by decide) (fun hc => ?_) (fun hc => ?_)
            · skip
              have hc : M n 9 ≠ 0 := fun q => hc ((lg_cmp_eq _ _).mpr (by rw [q]; exact xJ_0))
              refine lv_iconst (v := 0) hx hb dX5_clear_373 (by decide) ?_
              refine xw_put C hw hS hC.o (ci := 4) rfl iX5_clear_X5 tyX5 tyX5_ok nmX5 19 (by decide) (by decide +kernel) rfl (ty := .boolean) (by decide +kernel) rfl rfl (Nat.le_of_ble_eq_true rfl) dX5_clear_374 (fun H locs hw hS => ?_)
              have hw : xW G B (xu _ mo (.inr (4, xMf la ia rq co mn 0))) H := hw
              have hC := hC.setO co mn 0 hC.m50
              refine lv_iinc (v := (nI (n + 1))) (lv' := [(4, .int (nI (n + 1))), (3, .int (nI (xnn ro5 (t + 1)))), (0, .ref mo)]) hx hb dX5_clear_377 hl (k := 0) rfl (x_inc n) (by decide) rfl (fun ls hl => ?_)
              refine lv_goto (tgt := 336) hx hb dX5_clear_380 (by decide) ?_
              exact ih2 (n + 1) _ 0 ls _ _ (by omega) hC (Or.inr ⟨rfl, n, by omega, hrn, hc⟩) (by omega) hw hS (lv_sub hl [0, 1, 2] rfl)
            · skip
              have hc : M n 9 = 0 := xJ_z.mp ((lg_cmp_eq _ _).mp hc)
              refine lv_iconst (v := 1) hx hb dX5_clear_369 (by decide) ?_
              refine lv_goto (tgt := 374) hx hb dX5_clear_370 (by decide) ?_
              refine xw_put C hw hS hC.o (ci := 4) rfl iX5_clear_X5 tyX5 tyX5_ok nmX5 19 (by decide) (by decide +kernel) rfl (ty := .boolean) (by decide +kernel) rfl rfl (Nat.le_of_ble_eq_true rfl) dX5_clear_374 (fun H locs hw hS => ?_)
              have hw : xW G B (xu _ mo (.inr (4, xMf la ia rq co mn 1))) H := hw
              have hC := hC.setO co mn 1 hC.m50
              refine lv_iinc (v := (nI (n + 1))) (lv' := [(4, .int (nI (n + 1))), (3, .int (nI (xnn ro5 (t + 1)))), (0, .ref mo)]) hx hb dX5_clear_377 hl (k := 0) rfl (x_inc n) (by decide) rfl (fun ls hl => ?_)
              refine lv_goto (tgt := 336) hx hb dX5_clear_380 (by decide) ?_
              exact ih2 (n + 1) _ 1 ls _ _ (by omega) hC (Or.inl ⟨rfl, fun j h1 h2 => by by_cases hj : j = n; (rw [hj]; exact hc); exact hz j h1 (by omega)⟩) (by omega) hw hS (lv_sub hl [0, 1, 2] rfl)
          · skip
            refine lv_iload hx hb dX5_clear_336 (lv_at hl 0 rfl) ?_
            refine lv_bipush (v := 64) hx hb dX5_clear_338 (by decide) ?_
            refine xw_ti (y := (nI 64)) (by decide) ?_
            refine lv_icmp_ge (tgt := 383) hx hb dX5_clear_340 (by decide) (fun hc => absurd hc (fun q => absurd ((nI_leI (by omega) (by omega)).mp q) (by omega))) (fun _ => ?_)
            refine lv_aload_n hx hb dX5_clear_343 rfl (lv_at hl 2 rfl) ?_
            refine lv_aload_n hx hb dX5_clear_344 rfl (lv_at hl 2 rfl) ?_
            refine xw_get C hw hC.o (ci := 4) rfl iX5_clear_X5 19 (by decide) (by decide +kernel) rfl dX5_clear_345 ?_
            refine lv_if_eq (tgt := 373) hx hb dX5_clear_348 (by decide) (fun _ => ?_) (fun hc => absurd (rfl) hc)
            refine lv_iconst (v := 0) hx hb dX5_clear_373 (by decide) ?_
            refine xw_put C hw hS hC.o (ci := 4) rfl iX5_clear_X5 tyX5 tyX5_ok nmX5 19 (by decide) (by decide +kernel) rfl (ty := .boolean) (by decide +kernel) rfl rfl (Nat.le_of_ble_eq_true rfl) dX5_clear_374 (fun H locs hw hS => ?_)
            have hw : xW G B (xu _ mo (.inr (4, xMf la ia rq co mn 0))) H := hw
            have hC := hC.setO co mn 0 hC.m50
            refine lv_iinc (v := (nI (n + 1))) (lv' := [(4, .int (nI (n + 1))), (3, .int (nI (xnn ro5 (t + 1)))), (0, .ref mo)]) hx hb dX5_clear_377 hl (k := 0) rfl (x_inc n) (by decide) rfl (fun ls hl => ?_)
            refine lv_goto (tgt := 336) hx hb dX5_clear_380 (by decide) ?_
            exact ih2 (n + 1) _ 0 ls _ _ (by omega) hC (Or.inr ⟨rfl, hz⟩) (by omega) hw hS (lv_sub hl [0, 1, 2] rfl)
      exact fin (64 - xrk ro5 (t + 1)) (xrk ro5 (t + 1)) _ 1 ls _ _ (by omega) hC (Or.inl ⟨rfl, fun j h1 h2 => absurd h1 (by omega)⟩) (Nat.le_refl _) hw hS (lv_sub hl [0, 1, 3] rfl)
    | succ d ih =>
      intro K w1 lr5 ro5 M ls H locs hK hC e11 hk11 hRd hw hS hl
      obtain ⟨R, hRr⟩ : ∃ R, R = xrk ro5 K := ⟨_, rfl⟩
      obtain ⟨F, hFf⟩ : ∃ F, F = xnn ro5 K := ⟨_, rfl⟩
      rw [← hRr, ← hFf] at hl
      have hR8 : R ≤ K := by rw [hRr]; exact xrk_le _ _
      refine lv_iload hx hb dX5_clear_7 (lv_at hl 0 rfl) ?_
      refine lv_iload_n hx hb dX5_clear_9 rfl (lv_at hl 4 rfl) ?_
      refine lv_icmp_gt (tgt := 328) hx hb dX5_clear_10 (by decide) (fun hc => absurd hc (fun q => absurd ((nI_ltI (by omega) (by omega)).mp q) (by omega))) (fun _ => ?_)
      refine lv_iload_n hx hb dX5_clear_13 rfl (lv_at hl 2 rfl) ?_
      refine lv_istore (lv' := [(5, .int (nI R)), (4, .int (nI K)), (3, .int (nI F)), (2, .int (nI R)), (0, .ref mo), (1, .int (nI t))]) hx hb dX5_clear_14 hl (by decide) rfl (fun ls hl => ?_)
      have find : ∀ (d2 a : Nat) (ls : Array Slot) (H : Heap) (locs : List Loc), a + d2 = 64 → R ≤ a → (∀ n, R ≤ n → n < a → M n K = 0) → xW G B w1 H → va_S (xA B) s.heap H locs → lv_has ls 12 [(5, .int (nI a)), (4, .int (nI K)), (3, .int (nI F)), (2, .int (nI R)), (0, .ref mo), (1, .int (nI t))] → W p l ev rmX5_clear s m [.ref mo, .int (nI t)].toArray below meth cd H locs 0 0 (MQ below (va_Qi (fun r u => ∃ lr2 ro2 me2 M, xML G u mo la ia rq co mn im lr2 ro2 me2 wr ∧ lr2 11 = xfl M ∧ (∀ i, i < 11 → lr2 i = lr i) ∧ xRd M0 M (t + 1) ro2 ∧ r = nI (xnn ro2 (t + 1)) ∧ ((me2 = 1 ∧ ∀ n, n < 64 → xrk ro2 (t + 1) ≤ n → M n 9 = 0) ∨ (me2 = 0 ∧ ∃ n, n < 64 ∧ xrk ro2 (t + 1) ≤ n ∧ M n 9 ≠ 0))) (xE G B) (xA B)) [.ref mo, .int (nI t)].toArray s 0 0 (xA B)) (F0 m 16 ls []) := by
        intro d2
        induction d2 with
        | zero =>
          intro a ls H locs ha hRa hz hw hS hl
          obtain rfl : a = 64 := by omega
          refine lv_iload hx hb dX5_clear_16 (lv_at hl 0 rfl) ?_
          refine lv_bipush (v := 64) hx hb dX5_clear_18 (by decide) ?_
          refine xw_ti (y := (nI 64)) (by decide) ?_
          refine lv_icmp_ge (tgt := 47) hx hb dX5_clear_20 (by decide) (fun _ => ?_) (fun hc => absurd (by decide) hc)
          refine lv_aload_n hx hb dX5_clear_47 rfl (lv_at hl 4 rfl) ?_
          refine xw_get C hw hC.o (ci := 4) rfl iX5_clear_X5 15 (by decide) (by decide +kernel) rfl dX5_clear_48 ?_
          refine lv_iload hx hb dX5_clear_51 (lv_at hl 1 rfl) ?_
          refine lv_iconst (v := (-1)) hx hb dX5_clear_53 (by decide) ?_
          refine xw_iastN C hw hS hC.rr (show K < 9 by omega) (by decide) dX5_clear_54 (fun H locs hw hS => ?_)
          rw [show upd (xeo ro5) K (-1) = xeo (va_up ro5 K none) from xeo_up ro5 K none] at hw
          have hC := hC.setR (va_up ro5 K none)
          refine lv_iload hx hb dX5_clear_55 (lv_at hl 0 rfl) ?_
          refine lv_bipush (v := 64) hx hb dX5_clear_57 (by decide) ?_
          refine xw_ti (y := (nI 64)) (by decide) ?_
          refine lv_icmp_ne (tgt := 68) hx hb dX5_clear_59 (by decide) (fun hc => absurd (rfl) hc) (fun _ => ?_)
          refine lv_iinc (v := (nI (xnn (va_up ro5 K none) (K + 1)))) (lv' := [(3, .int (nI (xnn (va_up ro5 K none) (K + 1)))), (5, .int (nI 64)), (4, .int (nI K)), (2, .int (nI R)), (0, .ref mo), (1, .int (nI t))]) hx hb dX5_clear_62 hl (k := 2) rfl (by rw [x_inc, xnn_yes (va_up_self _ _ _), xnn_up _ _ (Nat.le_refl _), hFf]) (by decide) rfl (fun ls hl => ?_)
          have hl : lv_has ls 12 [(3, .int (nI (xnn (va_up ro5 K none) (K + 1)))), (5, .int (nI 64)), (4, .int (nI K)), (2, .int (nI (xrk (va_up ro5 K none) (K + 1)))), (0, .ref mo), (1, .int (nI t))] := by rw [← (show (nI R) = (nI (xrk (va_up ro5 K none) (K + 1))) from by rw [xrk_s, va_up_self, if_pos rfl, xrk_up _ _ (Nat.le_refl _), hRr]; rfl)]; exact hl
          refine lv_goto (tgt := 322) hx hb dX5_clear_65 (by decide) ?_
          refine lv_iinc (v := (nI (K + 1))) (lv' := [(4, .int (nI (K + 1))), (3, .int (nI (xnn (va_up ro5 K none) (K + 1)))), (5, .int (nI 64)), (2, .int (nI (xrk (va_up ro5 K none) (K + 1)))), (0, .ref mo), (1, .int (nI t))]) hx hb dX5_clear_322 hl (k := 2) rfl (x_inc K) (by decide) rfl (fun ls hl => ?_)
          refine lv_goto (tgt := 7) hx hb dX5_clear_325 (by decide) ?_
          exact ih (K + 1) _ lr5 _ M ls _ _ (by omega) hC e11 hk11 (xRd_free hRd (fun n h1 h2 => hz n (by rw [hRr]; exact h1) h2)) hw hS (lv_sub hl [0, 1, 3, 4, 5] rfl)
        | succ d2 ih2 =>
          intro a ls H locs ha hRa hz hw hS hl
          refine lv_iload hx hb dX5_clear_16 (lv_at hl 0 rfl) ?_
          refine lv_bipush (v := 64) hx hb dX5_clear_18 (by decide) ?_
          refine xw_ti (y := (nI 64)) (by decide) ?_
          refine lv_icmp_ge (tgt := 47) hx hb dX5_clear_20 (by decide) (fun hc => absurd hc (fun q => absurd ((nI_leI (by omega) (by omega)).mp q) (by omega))) (fun _ => ?_)
          refine lv_aload_n hx hb dX5_clear_23 rfl (lv_at hl 4 rfl) ?_
          refine xw_get C hw hC.o (ci := 4) rfl iX5_clear_X5 14 (by decide) (by decide +kernel) rfl dX5_clear_24 ?_
          refine lv_bipush (v := 10) hx hb dX5_clear_27 (by decide) ?_
          refine xw_ti (y := (nI 10)) (by decide) ?_
          refine lv_iload hx hb dX5_clear_29 (lv_at hl 0 rfl) ?_
          refine lv_imul hx hb dX5_clear_31 ?_
          refine xw_ti (y := (nI (10 * a))) (pk_mul _ _) ?_
          refine lv_iload hx hb dX5_clear_32 (lv_at hl 1 rfl) ?_
          refine lv_iadd hx hb dX5_clear_34 ?_
          refine xw_ti (y := (nI (10 * a + K))) (nI_add _ _) ?_
          refine xw_laldN C hw (hC.t e11) (show 10 * a + K < 640 by omega) (by decide) dX5_clear_35 ?_
          refine xw_tl (y := (xJ (M a K))) (congrArg xJ ((xfl_at _ (show a < 64 by omega) (show K < 10 by omega)))) ?_
          refine lv_lconst (v := 0) hx hb dX5_clear_36 (by decide) ?_
          refine W.lcmp hx hb dX5_clear_37 ?_
          refine lv_if_ne (tgt := 47) hx hb dX5_clear_38 (by decide) (fun hc => ?_) (fun hc => ?_)
          · skip
            have hc : M a K ≠ 0 := fun q => hc ((lg_cmp_eq _ _).mpr (by rw [q]; exact xJ_0))
            refine lv_aload_n hx hb dX5_clear_47 rfl (lv_at hl 4 rfl) ?_
            refine xw_get C hw hC.o (ci := 4) rfl iX5_clear_X5 15 (by decide) (by decide +kernel) rfl dX5_clear_48 ?_
            refine lv_iload hx hb dX5_clear_51 (lv_at hl 1 rfl) ?_
            refine lv_iconst (v := (-1)) hx hb dX5_clear_53 (by decide) ?_
            refine xw_iastN C hw hS hC.rr (show K < 9 by omega) (by decide) dX5_clear_54 (fun H locs hw hS => ?_)
            rw [show upd (xeo ro5) K (-1) = xeo (va_up ro5 K none) from xeo_up ro5 K none] at hw
            have hC := hC.setR (va_up ro5 K none)
            refine lv_iload hx hb dX5_clear_55 (lv_at hl 0 rfl) ?_
            refine lv_bipush (v := 64) hx hb dX5_clear_57 (by decide) ?_
            refine xw_ti (y := (nI 64)) (by decide) ?_
            refine lv_icmp_ne (tgt := 68) hx hb dX5_clear_59 (by decide) (fun _ => ?_) (fun hc => absurd hc (fun q => absurd ((nI_eq (by omega) (by decide)).mp q) (by omega)))
            refine lv_iconst (v := 0) hx hb dX5_clear_68 (by decide) ?_
            refine xw_ti (y := (nI 0)) (nI_0.symm) ?_
            refine lv_istore (lv' := [(6, .int (nI 0)), (5, .int (nI a)), (4, .int (nI K)), (3, .int (nI F)), (2, .int (nI R)), (0, .ref mo), (1, .int (nI t))]) hx hb dX5_clear_69 hl (by decide) rfl (fun ls hl => ?_)
            have swap : ∀ (d3 i : Nat) (w1 : xM) (lr6 : Nat → xP) (ls : Array Slot) (H : Heap) (locs : List Loc), i + d3 = 10 → xML G w1 mo la ia rq co mn im lr6 (va_up ro5 K none) me wr → lr6 11 = xfl (xsw M a R i) → (∀ i, i < 11 → lr6 i = lr i) → xW G B w1 H → va_S (xA B) s.heap H locs → lv_has ls 12 [(6, .int (nI i)), (5, .int (nI a)), (4, .int (nI K)), (3, .int (nI F)), (2, .int (nI R)), (0, .ref mo), (1, .int (nI t))] → W p l ev rmX5_clear s m [.ref mo, .int (nI t)].toArray below meth cd H locs 0 0 (MQ below (va_Qi (fun r u => ∃ lr2 ro2 me2 M, xML G u mo la ia rq co mn im lr2 ro2 me2 wr ∧ lr2 11 = xfl M ∧ (∀ i, i < 11 → lr2 i = lr i) ∧ xRd M0 M (t + 1) ro2 ∧ r = nI (xnn ro2 (t + 1)) ∧ ((me2 = 1 ∧ ∀ n, n < 64 → xrk ro2 (t + 1) ≤ n → M n 9 = 0) ∨ (me2 = 0 ∧ ∃ n, n < 64 ∧ xrk ro2 (t + 1) ≤ n ∧ M n 9 ≠ 0))) (xE G B) (xA B)) [.ref mo, .int (nI t)].toArray s 0 0 (xA B)) (F0 m 71 ls []) := by
              intro d3
              induction d3 with
              | zero =>
                intro i w1 lr6 ls H locs hi hC e11 hk11 hw hS hl
                refine lv_iload hx hb dX5_clear_71 (lv_at hl 0 rfl) ?_
                refine lv_bipush (v := 10) hx hb dX5_clear_73 (by decide) ?_
                refine xw_ti (y := (nI 10)) (by decide) ?_
                refine lv_icmp_ge (tgt := 138) hx hb dX5_clear_75 (by decide) (fun _ => ?_) (fun hc => absurd ((nI_leI (by omega) (by omega)).mpr (by omega)) hc)
                obtain rfl : i = 10 := by omega
                refine lv_aload_n hx hb dX5_clear_138 rfl (lv_at hl 5 rfl) ?_
                refine xw_get C hw hC.o (ci := 4) rfl iX5_clear_X5 14 (by decide) (by decide +kernel) rfl dX5_clear_139 ?_
                refine lv_bipush (v := 10) hx hb dX5_clear_142 (by decide) ?_
                refine xw_ti (y := (nI 10)) (by decide) ?_
                refine lv_iload_n hx hb dX5_clear_144 rfl (lv_at hl 4 rfl) ?_
                refine lv_imul hx hb dX5_clear_145 ?_
                refine xw_ti (y := (nI (10 * R))) (pk_mul _ _) ?_
                refine lv_iload hx hb dX5_clear_146 (lv_at hl 2 rfl) ?_
                refine lv_iadd hx hb dX5_clear_148 ?_
                refine xw_ti (y := (nI (10 * R + K))) (nI_add _ _) ?_
                refine xw_laldN C hw (hC.t e11) (show 10 * R + K < 640 by omega) (by decide) dX5_clear_149 ?_
                refine xw_tl (y := (xJ (M a K))) (congrArg xJ ((xfl_at _ (show R < 64 by omega) (show K < 10 by omega)).trans ((xpv_sw M (by omega)).trans (by rw [if_pos rfl])))) ?_
                refine xw_cl (xw_S (n := 1) (rest := []) C hw (kX5_inverse l G B _ (M a K)) gX5_clear_X5_inverse rfl rfl rfl (by decide +kernel) ⟨Nat.le_of_ble_eq_true rfl, Nat.le_of_ble_eq_true rfl⟩ rfl hl.1 rfl (Nat.le_of_ble_eq_true rfl) dX5_clear_150 ⟨Nat.le_of_ble_eq_true rfl, Nat.le_of_ble_eq_true rfl⟩ hS) hS (fun ru u H locs hp hw hS => ?_)
                obtain ⟨hr, hu⟩ := hp
                rw [hu] at hw
                refine xw_tl (y := (xJ (xinv (M a K)))) (hr) ?_
                refine lv_lstore (lv' := [(6, .long (xJ (xinv (M a K)))), (5, .int (nI a)), (4, .int (nI K)), (3, .int (nI F)), (2, .int (nI R)), (0, .ref mo), (1, .int (nI t))]) hx hb dX5_clear_153 hl (by decide) rfl (fun ls hl => ?_)
                refine lv_iconst (v := 0) hx hb dX5_clear_155 (by decide) ?_
                refine xw_ti (y := (nI 0)) (nI_0.symm) ?_
                refine lv_istore (lv' := [(8, .int (nI 0)), (6, .long (xJ (xinv (M a K)))), (5, .int (nI a)), (4, .int (nI K)), (3, .int (nI F)), (2, .int (nI R)), (0, .ref mo), (1, .int (nI t))]) hx hb dX5_clear_156 hl (by decide) rfl (fun ls hl => ?_)
                have scale : ∀ (d4 i : Nat) (w1 : xM) (lr6 : Nat → xP) (ls : Array Slot) (H : Heap) (locs : List Loc), i + d4 = 10 → xML G w1 mo la ia rq co mn im lr6 (va_up ro5 K none) me wr → lr6 11 = xfl (xscM (xsw M a R 10) R (xinv (M a K)) i) → (∀ i, i < 11 → lr6 i = lr i) → xW G B w1 H → va_S (xA B) s.heap H locs → lv_has ls 12 [(8, .int (nI i)), (6, .long (xJ (xinv (M a K)))), (4, .int (nI K)), (3, .int (nI F)), (2, .int (nI R)), (0, .ref mo), (1, .int (nI t))] → W p l ev rmX5_clear s m [.ref mo, .int (nI t)].toArray below meth cd H locs 0 0 (MQ below (va_Qi (fun r u => ∃ lr2 ro2 me2 M, xML G u mo la ia rq co mn im lr2 ro2 me2 wr ∧ lr2 11 = xfl M ∧ (∀ i, i < 11 → lr2 i = lr i) ∧ xRd M0 M (t + 1) ro2 ∧ r = nI (xnn ro2 (t + 1)) ∧ ((me2 = 1 ∧ ∀ n, n < 64 → xrk ro2 (t + 1) ≤ n → M n 9 = 0) ∨ (me2 = 0 ∧ ∃ n, n < 64 ∧ xrk ro2 (t + 1) ≤ n ∧ M n 9 ≠ 0))) (xE G B) (xA B)) [.ref mo, .int (nI t)].toArray s 0 0 (xA B)) (F0 m 158 ls []) := by
                  intro d4
                  induction d4 with
                  | zero =>
                    intro i w1 lr6 ls H locs hi hC e11 hk11 hw hS hl
                    refine lv_iload hx hb dX5_clear_158 (lv_at hl 0 rfl) ?_
                    refine lv_bipush (v := 10) hx hb dX5_clear_160 (by decide) ?_
                    refine xw_ti (y := (nI 10)) (by decide) ?_
                    refine lv_icmp_ge (tgt := 202) hx hb dX5_clear_162 (by decide) (fun _ => ?_) (fun hc => absurd ((nI_leI (by omega) (by omega)).mpr (by omega)) hc)
                    obtain rfl : i = 10 := by omega
                    obtain ⟨Z, hZ⟩ : ∃ Z, Z = xscM (xsw M a R 10) R (xinv (M a K)) 10 := ⟨_, rfl⟩
                    rw [← hZ] at e11
                    refine lv_iconst (v := 0) hx hb dX5_clear_202 (by decide) ?_
                    refine xw_ti (y := (nI 0)) (nI_0.symm) ?_
                    refine lv_istore (lv' := [(8, .int (nI 0)), (6, .long (xJ (xinv (M a K)))), (4, .int (nI K)), (3, .int (nI F)), (2, .int (nI R)), (0, .ref mo), (1, .int (nI t))]) hx hb dX5_clear_203 hl (by decide) rfl (fun ls hl => ?_)
                    have elim : ∀ (d5 n : Nat) (w1 : xM) (lr6 : Nat → xP) (ls : Array Slot) (H : Heap) (locs : List Loc), n + d5 = 64 → xML G w1 mo la ia rq co mn im lr6 (va_up ro5 K none) me wr → lr6 11 = xfl (xcm Z R K n 0) → (∀ i, i < 11 → lr6 i = lr i) → xW G B w1 H → va_S (xA B) s.heap H locs → lv_has ls 12 [(8, .int (nI n)), (4, .int (nI K)), (3, .int (nI F)), (2, .int (nI R)), (0, .ref mo), (1, .int (nI t))] → W p l ev rmX5_clear s m [.ref mo, .int (nI t)].toArray below meth cd H locs 0 0 (MQ below (va_Qi (fun r u => ∃ lr2 ro2 me2 M, xML G u mo la ia rq co mn im lr2 ro2 me2 wr ∧ lr2 11 = xfl M ∧ (∀ i, i < 11 → lr2 i = lr i) ∧ xRd M0 M (t + 1) ro2 ∧ r = nI (xnn ro2 (t + 1)) ∧ ((me2 = 1 ∧ ∀ n, n < 64 → xrk ro2 (t + 1) ≤ n → M n 9 = 0) ∨ (me2 = 0 ∧ ∃ n, n < 64 ∧ xrk ro2 (t + 1) ≤ n ∧ M n 9 ≠ 0))) (xE G B) (xA B)) [.ref mo, .int (nI t)].toArray s 0 0 (xA B)) (F0 m 205 ls []) := by
                      intro d5
                      induction d5 with
                      | zero =>
                        intro n w1 lr6 ls H locs hi hC e11 hk11 hw hS hl
                        refine lv_iload hx hb dX5_clear_205 (lv_at hl 0 rfl) ?_
                        refine lv_bipush (v := 64) hx hb dX5_clear_207 (by decide) ?_
                        refine xw_ti (y := (nI 64)) (by decide) ?_
                        refine lv_icmp_ge (tgt := 311) hx hb dX5_clear_209 (by decide) (fun _ => ?_) (fun hc => absurd ((nI_leI (by omega) (by omega)).mpr (by omega)) hc)
                        refine lv_aload_n hx hb dX5_clear_311 rfl (lv_at hl 4 rfl) ?_
                        refine xw_get C hw hC.o (ci := 4) rfl iX5_clear_X5 15 (by decide) (by decide +kernel) rfl dX5_clear_312 ?_
                        refine lv_iload hx hb dX5_clear_315 (lv_at hl 1 rfl) ?_
                        refine lv_iload_n hx hb dX5_clear_317 rfl (lv_at hl 3 rfl) ?_
                        refine xw_iastN C hw hS hC.rr (show K < 9 by omega) (by decide) dX5_clear_318 (fun H locs hw hS => ?_)
                        rw [show upd (xeo (va_up ro5 K none)) K (nI R) = xeo (va_up ro5 K (some R)) from (xeo_up (va_up ro5 K none) K (some R)).trans (by rw [bx_uu])] at hw
                        have hC := hC.setR (va_up ro5 K (some R))
                        refine lv_iinc (v := (nI (xrk (va_up ro5 K (some R)) (K + 1)))) (lv' := [(2, .int (nI (xrk (va_up ro5 K (some R)) (K + 1)))), (8, .int (nI n)), (4, .int (nI K)), (3, .int (nI F)), (0, .ref mo), (1, .int (nI t))]) hx hb dX5_clear_319 hl (k := 3) rfl (by rw [x_inc, xrk_s, va_up_self, if_neg (by simp), xrk_up _ _ (Nat.le_refl _), hRr]) (by decide) rfl (fun ls hl => ?_)
                        have hl : lv_has ls 12 [(2, .int (nI (xrk (va_up ro5 K (some R)) (K + 1)))), (8, .int (nI n)), (4, .int (nI K)), (3, .int (nI (xnn (va_up ro5 K (some R)) (K + 1)))), (0, .ref mo), (1, .int (nI t))] := by rw [← (show (nI F) = (nI (xnn (va_up ro5 K (some R)) (K + 1))) from by rw [xnn_no (by rw [va_up_self]; simp), xnn_up _ _ (Nat.le_refl _), hFf])]; exact hl
                        refine lv_iinc (v := (nI (K + 1))) (lv' := [(4, .int (nI (K + 1))), (2, .int (nI (xrk (va_up ro5 K (some R)) (K + 1)))), (8, .int (nI n)), (3, .int (nI (xnn (va_up ro5 K (some R)) (K + 1)))), (0, .ref mo), (1, .int (nI t))]) hx hb dX5_clear_322 hl (k := 2) rfl (x_inc K) (by decide) rfl (fun ls hl => ?_)
                        refine lv_goto (tgt := 7) hx hb dX5_clear_325 (by decide) ?_
                        have hpv := xRd_piv (by omega) hRd (by rw [← hRr]; exact hRa) (show a < 64 by omega) hc
                        rw [← hRr] at hpv
                        exact ih (K + 1) _ lr6 _ _ ls _ _ (by omega) hC (by rw [e11, show n = 64 by omega, hZ]; rfl) hk11 hpv hw hS (lv_sub hl [0, 3, 1, 4, 5] rfl)
                      | succ d5 ih5 =>
                        intro n w1 lr6 ls H locs hi hC e11 hk11 hw hS hl
                        refine lv_iload hx hb dX5_clear_205 (lv_at hl 0 rfl) ?_
                        refine lv_bipush (v := 64) hx hb dX5_clear_207 (by decide) ?_
                        refine xw_ti (y := (nI 64)) (by decide) ?_
                        refine lv_icmp_ge (tgt := 311) hx hb dX5_clear_209 (by decide) (fun hc => absurd hc (fun q => absurd ((nI_leI (by omega) (by omega)).mp q) (by omega))) (fun _ => ?_)
                        refine lv_iload hx hb dX5_clear_212 (lv_at hl 0 rfl) ?_
                        refine lv_iload_n hx hb dX5_clear_214 rfl (lv_at hl 3 rfl) ?_
                        by_cases hnR : n = R
                        · skip
                          refine lv_icmp_ne (tgt := 222) hx hb dX5_clear_215 (by decide) (fun hc => absurd (by rw [hnR]) hc) (fun _ => ?_)
                          refine lv_lconst (v := 0) hx hb dX5_clear_218 (by decide) ?_
                          refine lv_goto (tgt := 235) hx hb dX5_clear_219 (by decide) ?_
                          refine lv_lstore (lv' := [(9, .long 0), (8, .int (nI n)), (4, .int (nI K)), (3, .int (nI F)), (2, .int (nI R)), (0, .ref mo), (1, .int (nI t))]) hx hb dX5_clear_235 hl (by decide) rfl (fun ls hl => ?_)
                          refine lv_iconst (v := 0) hx hb dX5_clear_237 (by decide) ?_
                          refine xw_ti (y := (nI 0)) (nI_0.symm) ?_
                          refine lv_istore (lv' := [(11, .int (nI 0)), (9, .long 0), (8, .int (nI n)), (4, .int (nI K)), (3, .int (nI F)), (2, .int (nI R)), (0, .ref mo), (1, .int (nI t))]) hx hb dX5_clear_238 hl (by decide) rfl (fun ls hl => ?_)
                          refine lv_iload hx hb dX5_clear_240 (lv_at hl 0 rfl) ?_
                          refine lv_bipush (v := 10) hx hb dX5_clear_242 (by decide) ?_
                          refine xw_ti (y := (nI 10)) (by decide) ?_
                          refine lv_icmp_ge (tgt := 305) hx hb dX5_clear_244 (by decide) (fun hc => absurd hc (by decide)) (fun _ => ?_)
                          refine lv_lload hx hb dX5_clear_247 (lv_at hl 1 rfl) ?_
                          refine lv_lconst (v := 0) hx hb dX5_clear_249 (by decide) ?_
                          refine W.lcmp hx hb dX5_clear_250 ?_
                          refine lv_if_le (tgt := 305) hx hb dX5_clear_251 (by decide) (fun _ => ?_) (fun hc => absurd (by decide) hc)
                          refine lv_iinc (v := (nI (n + 1))) (lv' := [(8, .int (nI (n + 1))), (11, .int (nI 0)), (9, .long 0), (4, .int (nI K)), (3, .int (nI F)), (2, .int (nI R)), (0, .ref mo), (1, .int (nI t))]) hx hb dX5_clear_305 hl (k := 2) rfl (x_inc n) (by decide) rfl (fun ls hl => ?_)
                          refine lv_goto (tgt := 205) hx hb dX5_clear_308 (by decide) ?_
                          exact ih5 (n + 1) _ lr6 ls _ _ (by omega) hC (by rw [e11, hnR, xcm_r]) hk11 hw hS (lv_sub hl [0, 3, 4, 5, 6, 7] rfl)
                        · skip
                          refine lv_icmp_ne (tgt := 222) hx hb dX5_clear_215 (by decide) (fun _ => ?_) (fun hc => absurd hc (fun q => hnR ((nI_eq (by omega) (by omega)).mp q)))
                          refine lv_aload_n hx hb dX5_clear_222 rfl (lv_at hl 4 rfl) ?_
                          refine xw_get C hw hC.o (ci := 4) rfl iX5_clear_X5 14 (by decide) (by decide +kernel) rfl dX5_clear_223 ?_
                          refine lv_bipush (v := 10) hx hb dX5_clear_226 (by decide) ?_
                          refine xw_ti (y := (nI 10)) (by decide) ?_
                          refine lv_iload hx hb dX5_clear_228 (lv_at hl 0 rfl) ?_
                          refine lv_imul hx hb dX5_clear_230 ?_
                          refine xw_ti (y := (nI (10 * n))) (pk_mul _ _) ?_
                          refine lv_iload hx hb dX5_clear_231 (lv_at hl 1 rfl) ?_
                          refine lv_iadd hx hb dX5_clear_233 ?_
                          refine xw_ti (y := (nI (10 * n + K))) (nI_add _ _) ?_
                          refine xw_laldN C hw (hC.t e11) (show 10 * n + K < 640 by omega) (by decide) dX5_clear_234 ?_
                          refine xw_tl (y := (xJ (Z n K))) (congrArg xJ ((xfl_at _ (show n < 64 by omega) (show K < 10 by omega)).trans (xcm_at (Nat.zero_le _)))) ?_
                          refine lv_lstore (lv' := [(9, .long (xJ (Z n K))), (8, .int (nI n)), (4, .int (nI K)), (3, .int (nI F)), (2, .int (nI R)), (0, .ref mo), (1, .int (nI t))]) hx hb dX5_clear_235 hl (by decide) rfl (fun ls hl => ?_)
                          refine lv_iconst (v := 0) hx hb dX5_clear_237 (by decide) ?_
                          refine xw_ti (y := (nI 0)) (nI_0.symm) ?_
                          refine lv_istore (lv' := [(11, .int (nI 0)), (9, .long (xJ (Z n K))), (8, .int (nI n)), (4, .int (nI K)), (3, .int (nI F)), (2, .int (nI R)), (0, .ref mo), (1, .int (nI t))]) hx hb dX5_clear_238 hl (by decide) rfl (fun ls hl => ?_)
                          by_cases hv0 : Z n K = 0
                          · skip
                            refine lv_iload hx hb dX5_clear_240 (lv_at hl 0 rfl) ?_
                            refine lv_bipush (v := 10) hx hb dX5_clear_242 (by decide) ?_
                            refine xw_ti (y := (nI 10)) (by decide) ?_
                            refine lv_icmp_ge (tgt := 305) hx hb dX5_clear_244 (by decide) (fun hc => absurd hc (by decide)) (fun _ => ?_)
                            refine lv_lload hx hb dX5_clear_247 (lv_at hl 1 rfl) ?_
                            refine lv_lconst (v := 0) hx hb dX5_clear_249 (by decide) ?_
                            refine W.lcmp hx hb dX5_clear_250 ?_
                            refine lv_if_le (tgt := 305) hx hb dX5_clear_251 (by decide) (fun _ => ?_) (fun hc => absurd ((lg_cmp_le _ _).mpr (by rw [hv0]; decide)) hc)
                            refine lv_iinc (v := (nI (n + 1))) (lv' := [(8, .int (nI (n + 1))), (11, .int (nI 0)), (9, .long (xJ (Z n K))), (4, .int (nI K)), (3, .int (nI F)), (2, .int (nI R)), (0, .ref mo), (1, .int (nI t))]) hx hb dX5_clear_305 hl (k := 2) rfl (x_inc n) (by decide) rfl (fun ls hl => ?_)
                            refine lv_goto (tgt := 205) hx hb dX5_clear_308 (by decide) ?_
                            exact ih5 (n + 1) _ lr6 ls _ _ (by omega) hC (by rw [e11, xcm_z hv0]) hk11 hw hS (lv_sub hl [0, 3, 4, 5, 6, 7] rfl)
                          · skip
                            have inner : ∀ (d6 i : Nat) (w1 : xM) (lr6 : Nat → xP) (ls : Array Slot) (H : Heap) (locs : List Loc), i + d6 = 10 → xML G w1 mo la ia rq co mn im lr6 (va_up ro5 K none) me wr → lr6 11 = xfl (xcm Z R K n i) → (∀ i, i < 11 → lr6 i = lr i) → xW G B w1 H → va_S (xA B) s.heap H locs → lv_has ls 12 [(11, .int (nI i)), (9, .long (xJ (Z n K))), (8, .int (nI n)), (4, .int (nI K)), (3, .int (nI F)), (2, .int (nI R)), (0, .ref mo), (1, .int (nI t))] → W p l ev rmX5_clear s m [.ref mo, .int (nI t)].toArray below meth cd H locs 0 0 (MQ below (va_Qi (fun r u => ∃ lr2 ro2 me2 M, xML G u mo la ia rq co mn im lr2 ro2 me2 wr ∧ lr2 11 = xfl M ∧ (∀ i, i < 11 → lr2 i = lr i) ∧ xRd M0 M (t + 1) ro2 ∧ r = nI (xnn ro2 (t + 1)) ∧ ((me2 = 1 ∧ ∀ n, n < 64 → xrk ro2 (t + 1) ≤ n → M n 9 = 0) ∨ (me2 = 0 ∧ ∃ n, n < 64 ∧ xrk ro2 (t + 1) ≤ n ∧ M n 9 ≠ 0))) (xE G B) (xA B)) [.ref mo, .int (nI t)].toArray s 0 0 (xA B)) (F0 m 240 ls []) := by
                              intro d6
                              induction d6 with
                              | zero =>
                                intro i w1 lr6 ls H locs hi hC e11 hk11 hw hS hl
                                refine lv_iload hx hb dX5_clear_240 (lv_at hl 0 rfl) ?_
                                refine lv_bipush (v := 10) hx hb dX5_clear_242 (by decide) ?_
                                refine xw_ti (y := (nI 10)) (by decide) ?_
                                refine lv_icmp_ge (tgt := 305) hx hb dX5_clear_244 (by decide) (fun _ => ?_) (fun hc => absurd ((nI_leI (by omega) (by omega)).mpr (by omega)) hc)
                                refine lv_iinc (v := (nI (n + 1))) (lv' := [(8, .int (nI (n + 1))), (11, .int (nI i)), (9, .long (xJ (Z n K))), (4, .int (nI K)), (3, .int (nI F)), (2, .int (nI R)), (0, .ref mo), (1, .int (nI t))]) hx hb dX5_clear_305 hl (k := 2) rfl (x_inc n) (by decide) rfl (fun ls hl => ?_)
                                refine lv_goto (tgt := 205) hx hb dX5_clear_308 (by decide) ?_
                                exact ih5 (n + 1) _ lr6 ls _ _ (by omega) hC (by rw [e11, show i = 10 by omega, xcm_e]) hk11 hw hS (lv_sub hl [0, 3, 4, 5, 6, 7] rfl)
                              | succ d6 ih6 =>
                                intro i w1 lr6 ls H locs hi hC e11 hk11 hw hS hl
                                refine lv_iload hx hb dX5_clear_240 (lv_at hl 0 rfl) ?_
                                refine lv_bipush (v := 10) hx hb dX5_clear_242 (by decide) ?_
                                refine xw_ti (y := (nI 10)) (by decide) ?_
                                refine lv_icmp_ge (tgt := 305) hx hb dX5_clear_244 (by decide) (fun hc => absurd hc (fun q => absurd ((nI_leI (by omega) (by omega)).mp q) (by omega))) (fun _ => ?_)
                                refine lv_lload hx hb dX5_clear_247 (lv_at hl 1 rfl) ?_
                                refine lv_lconst (v := 0) hx hb dX5_clear_249 (by decide) ?_
                                refine W.lcmp hx hb dX5_clear_250 ?_
                                refine lv_if_le (tgt := 305) hx hb dX5_clear_251 (by decide) (fun hc => absurd hc (fun q => absurd ((lg_cmp_le _ _).mp q) (Int64.not_le.mpr (xJ_pos.mpr hv0)))) (fun _ => ?_)
                                refine lv_aload_n hx hb dX5_clear_254 rfl (lv_at hl 6 rfl) ?_
                                refine xw_get C hw hC.o (ci := 4) rfl iX5_clear_X5 14 (by decide) (by decide +kernel) rfl dX5_clear_255 ?_
                                refine lv_bipush (v := 10) hx hb dX5_clear_258 (by decide) ?_
                                refine xw_ti (y := (nI 10)) (by decide) ?_
                                refine lv_iload hx hb dX5_clear_260 (lv_at hl 2 rfl) ?_
                                refine lv_imul hx hb dX5_clear_262 ?_
                                refine xw_ti (y := (nI (10 * n))) (pk_mul _ _) ?_
                                refine lv_iload hx hb dX5_clear_263 (lv_at hl 0 rfl) ?_
                                refine lv_iadd hx hb dX5_clear_265 ?_
                                refine xw_ti (y := (nI (10 * n + i))) (nI_add _ _) ?_
                                refine lv_aload_n hx hb dX5_clear_266 rfl (lv_at hl 6 rfl) ?_
                                refine xw_get C hw hC.o (ci := 4) rfl iX5_clear_X5 14 (by decide) (by decide +kernel) rfl dX5_clear_267 ?_
                                refine lv_bipush (v := 10) hx hb dX5_clear_270 (by decide) ?_
                                refine xw_ti (y := (nI 10)) (by decide) ?_
                                refine lv_iload hx hb dX5_clear_272 (lv_at hl 2 rfl) ?_
                                refine lv_imul hx hb dX5_clear_274 ?_
                                refine xw_ti (y := (nI (10 * n))) (pk_mul _ _) ?_
                                refine lv_iload hx hb dX5_clear_275 (lv_at hl 0 rfl) ?_
                                refine lv_iadd hx hb dX5_clear_277 ?_
                                refine xw_ti (y := (nI (10 * n + i))) (nI_add _ _) ?_
                                refine xw_laldN C hw (hC.t e11) (show 10 * n + i < 640 by omega) (by decide) dX5_clear_278 ?_
                                refine xw_tl (y := (xJ (Z n i))) (congrArg xJ ((xfl_at _ (show n < 64 by omega) (show i < 10 by omega)).trans (xcm_at (Nat.le_refl _)))) ?_
                                refine lv_lload hx hb dX5_clear_279 (lv_at hl 1 rfl) ?_
                                refine lv_aload_n hx hb dX5_clear_281 rfl (lv_at hl 6 rfl) ?_
                                refine xw_get C hw hC.o (ci := 4) rfl iX5_clear_X5 14 (by decide) (by decide +kernel) rfl dX5_clear_282 ?_
                                refine lv_bipush (v := 10) hx hb dX5_clear_285 (by decide) ?_
                                refine xw_ti (y := (nI 10)) (by decide) ?_
                                refine lv_iload_n hx hb dX5_clear_287 rfl (lv_at hl 5 rfl) ?_
                                refine lv_imul hx hb dX5_clear_288 ?_
                                refine xw_ti (y := (nI (10 * R))) (pk_mul _ _) ?_
                                refine lv_iload hx hb dX5_clear_289 (lv_at hl 0 rfl) ?_
                                refine lv_iadd hx hb dX5_clear_291 ?_
                                refine xw_ti (y := (nI (10 * R + i))) (nI_add _ _) ?_
                                refine xw_laldN C hw (hC.t e11) (show 10 * R + i < 640 by omega) (by decide) dX5_clear_292 ?_
                                refine xw_tl (y := (xJ (Z R i))) (congrArg xJ ((xfl_at _ (show R < 64 by omega) (show i < 10 by omega)).trans (xcm_r1 _ _ _ _ _ _))) ?_
                                refine lv_lmul hx hb dX5_clear_293 ?_
                                refine lv_lsub hx hb dX5_clear_294 ?_
                                refine xw_cl (xw_S (n := 1) (rest := [.int (nI (10 * n + i)), .ref (la 11)]) C hw (kX5_modulo l G B _ _) gX5_clear_X5_modulo rfl rfl rfl (by decide +kernel) ⟨Nat.le_of_ble_eq_true rfl, Nat.le_of_ble_eq_true rfl⟩ rfl hl.1 rfl (Nat.le_of_ble_eq_true rfl) dX5_clear_295 ⟨Nat.le_of_ble_eq_true rfl, Nat.le_of_ble_eq_true rfl⟩ hS) hS (fun ru u H locs hp hw hS => ?_)
                                obtain ⟨hr, hu⟩ := hp
                                rw [hu] at hw
                                refine xw_tl (y := (xJ (Z n i - Z n K * Z R i))) (hr.trans (congrArg xJ (xR_subm (Z n i) (Z n K) (Z R i)))) ?_
                                refine xw_lastN C hw hS (hC.t e11) (show 10 * n + i < 640 by omega) (by decide) dX5_clear_298 (fun H locs hw hS => ?_)
                                rw [xrowJ_up, xmu_fl _ _ (show n < 64 by omega) (show i < 10 by omega)] at hw
                                have hC := hC.set (i := 11) (by decide) (show xlc 11 = 640 by decide) (f := xfl (xmu (xcm Z R K n i) n i (Z n i - Z n K * Z R i))) (xfl_sup _)
                                obtain ⟨lr201, hlr⟩ : ∃ zz9, zz9 = va_up lr6 11 (xfl (xmu (xcm Z R K n i) n i (Z n i - Z n K * Z R i))) := ⟨_, rfl⟩
                                rw [← hlr] at hC
                                have e11 : lr201 11 = xfl (xmu (xcm Z R K n i) n i (Z n i - Z n K * Z R i)) := (congrFun hlr _).trans (va_up_self _ _ _)
                                have hk11 : ∀ i, i < 11 → lr201 i = lr i := fun i hi => (congrFun hlr i).trans ((va_up_ne _ _ (by omega)).trans (hk11 i hi))
                                rw [xcm_s hnR] at e11
                                refine lv_iinc (v := (nI (i + 1))) (lv' := [(11, .int (nI (i + 1))), (9, .long (xJ (Z n K))), (8, .int (nI n)), (4, .int (nI K)), (3, .int (nI F)), (2, .int (nI R)), (0, .ref mo), (1, .int (nI t))]) hx hb dX5_clear_299 hl (k := 0) rfl (x_inc i) (by decide) rfl (fun ls hl => ?_)
                                refine lv_goto (tgt := 240) hx hb dX5_clear_302 (by decide) ?_
                                exact ih6 (i + 1) _ lr201 ls _ _ (by omega) hC e11 hk11 hw hS (lv_sub hl [0, 1, 2, 3, 4, 5, 6, 7] rfl)
                            exact inner 10 0 _ lr6 ls _ _ rfl hC e11 hk11 hw hS (lv_sub hl [0, 1, 2, 3, 4, 5, 6, 7] rfl)
                    exact elim 64 0 _ lr6 ls _ _ rfl hC (by rw [xcm_0]; exact e11) hk11 hw hS (lv_sub hl [0, 2, 3, 4, 5, 6] rfl)
                  | succ d4 ih4 =>
                    intro i w1 lr6 ls H locs hi hC e11 hk11 hw hS hl
                    refine lv_iload hx hb dX5_clear_158 (lv_at hl 0 rfl) ?_
                    refine lv_bipush (v := 10) hx hb dX5_clear_160 (by decide) ?_
                    refine xw_ti (y := (nI 10)) (by decide) ?_
                    refine lv_icmp_ge (tgt := 202) hx hb dX5_clear_162 (by decide) (fun hc => absurd hc (fun q => absurd ((nI_leI (by omega) (by omega)).mp q) (by omega))) (fun _ => ?_)
                    refine lv_aload_n hx hb dX5_clear_165 rfl (lv_at hl 5 rfl) ?_
                    refine xw_get C hw hC.o (ci := 4) rfl iX5_clear_X5 14 (by decide) (by decide +kernel) rfl dX5_clear_166 ?_
                    refine lv_bipush (v := 10) hx hb dX5_clear_169 (by decide) ?_
                    refine xw_ti (y := (nI 10)) (by decide) ?_
                    refine lv_iload_n hx hb dX5_clear_171 rfl (lv_at hl 4 rfl) ?_
                    refine lv_imul hx hb dX5_clear_172 ?_
                    refine xw_ti (y := (nI (10 * R))) (pk_mul _ _) ?_
                    refine lv_iload hx hb dX5_clear_173 (lv_at hl 0 rfl) ?_
                    refine lv_iadd hx hb dX5_clear_175 ?_
                    refine xw_ti (y := (nI (10 * R + i))) (nI_add _ _) ?_
                    refine lv_aload_n hx hb dX5_clear_176 rfl (lv_at hl 5 rfl) ?_
                    refine xw_get C hw hC.o (ci := 4) rfl iX5_clear_X5 14 (by decide) (by decide +kernel) rfl dX5_clear_177 ?_
                    refine lv_bipush (v := 10) hx hb dX5_clear_180 (by decide) ?_
                    refine xw_ti (y := (nI 10)) (by decide) ?_
                    refine lv_iload_n hx hb dX5_clear_182 rfl (lv_at hl 4 rfl) ?_
                    refine lv_imul hx hb dX5_clear_183 ?_
                    refine xw_ti (y := (nI (10 * R))) (pk_mul _ _) ?_
                    refine lv_iload hx hb dX5_clear_184 (lv_at hl 0 rfl) ?_
                    refine lv_iadd hx hb dX5_clear_186 ?_
                    refine xw_ti (y := (nI (10 * R + i))) (nI_add _ _) ?_
                    refine xw_laldN C hw (hC.t e11) (show 10 * R + i < 640 by omega) (by decide) dX5_clear_187 ?_
                    refine xw_tl (y := (xJ ((xsw M a R 10) R i))) (congrArg xJ ((xfl_at _ (show R < 64 by omega) (show i < 10 by omega)).trans (xscM_at _ _ _ _))) ?_
                    refine lv_lload hx hb dX5_clear_188 (lv_at hl 1 rfl) ?_
                    refine lv_lmul hx hb dX5_clear_190 ?_
                    refine xw_ldc2 C (v := 32003) (by decide +kernel) dX5_clear_191 ?_
                    refine lv_lrem hx hb dX5_clear_194 (by decide) ?_
                    refine xw_tl (y := (xJ ((xsw M a R 10) R i * (xinv (M a K))))) (xl_mul _ _) ?_
                    refine xw_lastN C hw hS (hC.t e11) (show 10 * R + i < 640 by omega) (by decide) dX5_clear_195 (fun H locs hw hS => ?_)
                    rw [xrowJ_up, xmu_fl _ _ (show R < 64 by omega) (show i < 10 by omega)] at hw
                    have hC := hC.set (i := 11) (by decide) (show xlc 11 = 640 by decide) (f := xfl (xmu (xscM (xsw M a R 10) R (xinv (M a K)) i) R i ((xsw M a R 10) R i * (xinv (M a K))))) (xfl_sup _)
                    obtain ⟨lr221, hlr⟩ : ∃ zz9, zz9 = va_up lr6 11 (xfl (xmu (xscM (xsw M a R 10) R (xinv (M a K)) i) R i ((xsw M a R 10) R i * (xinv (M a K))))) := ⟨_, rfl⟩
                    rw [← hlr] at hC
                    have e11 : lr221 11 = xfl (xmu (xscM (xsw M a R 10) R (xinv (M a K)) i) R i ((xsw M a R 10) R i * (xinv (M a K)))) := (congrFun hlr _).trans (va_up_self _ _ _)
                    have hk11 : ∀ i, i < 11 → lr221 i = lr i := fun i hi => (congrFun hlr i).trans ((va_up_ne _ _ (by omega)).trans (hk11 i hi))
                    rw [xscM_s] at e11
                    refine lv_iinc (v := (nI (i + 1))) (lv' := [(8, .int (nI (i + 1))), (6, .long (xJ (xinv (M a K)))), (4, .int (nI K)), (3, .int (nI F)), (2, .int (nI R)), (0, .ref mo), (1, .int (nI t))]) hx hb dX5_clear_196 hl (k := 0) rfl (x_inc i) (by decide) rfl (fun ls hl => ?_)
                    refine lv_goto (tgt := 158) hx hb dX5_clear_199 (by decide) ?_
                    exact ih4 (i + 1) _ lr221 ls _ _ (by omega) hC e11 hk11 hw hS (lv_sub hl [0, 1, 2, 3, 4, 5, 6] rfl)
                exact scale 10 0 _ lr6 ls _ _ rfl hC (by rw [xscM_0]; exact e11) hk11 hw hS (lv_sub hl [0, 1, 3, 4, 5, 6, 7] rfl)
              | succ d3 ih3 =>
                intro i w1 lr6 ls H locs hi hC e11 hk11 hw hS hl
                refine lv_iload hx hb dX5_clear_71 (lv_at hl 0 rfl) ?_
                refine lv_bipush (v := 10) hx hb dX5_clear_73 (by decide) ?_
                refine xw_ti (y := (nI 10)) (by decide) ?_
                refine lv_icmp_ge (tgt := 138) hx hb dX5_clear_75 (by decide) (fun hc => absurd hc (fun q => absurd ((nI_leI (by omega) (by omega)).mp q) (by omega))) (fun _ => ?_)
                refine lv_aload_n hx hb dX5_clear_78 rfl (lv_at hl 5 rfl) ?_
                refine xw_get C hw hC.o (ci := 4) rfl iX5_clear_X5 14 (by decide) (by decide +kernel) rfl dX5_clear_79 ?_
                refine lv_bipush (v := 10) hx hb dX5_clear_82 (by decide) ?_
                refine xw_ti (y := (nI 10)) (by decide) ?_
                refine lv_iload hx hb dX5_clear_84 (lv_at hl 1 rfl) ?_
                refine lv_imul hx hb dX5_clear_86 ?_
                refine xw_ti (y := (nI (10 * a))) (pk_mul _ _) ?_
                refine lv_iload hx hb dX5_clear_87 (lv_at hl 0 rfl) ?_
                refine lv_iadd hx hb dX5_clear_89 ?_
                refine xw_ti (y := (nI (10 * a + i))) (nI_add _ _) ?_
                refine xw_laldN C hw (hC.t e11) (show 10 * a + i < 640 by omega) (by decide) dX5_clear_90 ?_
                refine xw_tl (y := (xJ (M a i))) (congrArg xJ ((xfl_at _ (show a < 64 by omega) (show i < 10 by omega)).trans (xsw_at _ _ _ _ _))) ?_
                refine lv_lstore (lv' := [(7, .long (xJ (M a i))), (6, .int (nI i)), (5, .int (nI a)), (4, .int (nI K)), (3, .int (nI F)), (2, .int (nI R)), (0, .ref mo), (1, .int (nI t))]) hx hb dX5_clear_91 hl (by decide) rfl (fun ls hl => ?_)
                refine lv_aload_n hx hb dX5_clear_93 rfl (lv_at hl 6 rfl) ?_
                refine xw_get C hw hC.o (ci := 4) rfl iX5_clear_X5 14 (by decide) (by decide +kernel) rfl dX5_clear_94 ?_
                refine lv_bipush (v := 10) hx hb dX5_clear_97 (by decide) ?_
                refine xw_ti (y := (nI 10)) (by decide) ?_
                refine lv_iload hx hb dX5_clear_99 (lv_at hl 2 rfl) ?_
                refine lv_imul hx hb dX5_clear_101 ?_
                refine xw_ti (y := (nI (10 * a))) (pk_mul _ _) ?_
                refine lv_iload hx hb dX5_clear_102 (lv_at hl 1 rfl) ?_
                refine lv_iadd hx hb dX5_clear_104 ?_
                refine xw_ti (y := (nI (10 * a + i))) (nI_add _ _) ?_
                refine lv_aload_n hx hb dX5_clear_105 rfl (lv_at hl 6 rfl) ?_
                refine xw_get C hw hC.o (ci := 4) rfl iX5_clear_X5 14 (by decide) (by decide +kernel) rfl dX5_clear_106 ?_
                refine lv_bipush (v := 10) hx hb dX5_clear_109 (by decide) ?_
                refine xw_ti (y := (nI 10)) (by decide) ?_
                refine lv_iload_n hx hb dX5_clear_111 rfl (lv_at hl 5 rfl) ?_
                refine lv_imul hx hb dX5_clear_112 ?_
                refine xw_ti (y := (nI (10 * R))) (pk_mul _ _) ?_
                refine lv_iload hx hb dX5_clear_113 (lv_at hl 1 rfl) ?_
                refine lv_iadd hx hb dX5_clear_115 ?_
                refine xw_ti (y := (nI (10 * R + i))) (nI_add _ _) ?_
                refine xw_laldN C hw (hC.t e11) (show 10 * R + i < 640 by omega) (by decide) dX5_clear_116 ?_
                refine xw_tl (y := (xJ (M R i))) (congrArg xJ ((xfl_at _ (show R < 64 by omega) (show i < 10 by omega)).trans (xsw_at _ _ _ _ _))) ?_
                refine xw_lastN C hw hS (hC.t e11) (show 10 * a + i < 640 by omega) (by decide) dX5_clear_117 (fun H locs hw hS => ?_)
                rw [xrowJ_up, xmu_fl _ _ (show a < 64 by omega) (show i < 10 by omega)] at hw
                have hC := hC.set (i := 11) (by decide) (show xlc 11 = 640 by decide) (f := xfl (xmu (xsw M a R i) a i (M R i))) (xfl_sup _)
                obtain ⟨lr241, hlr⟩ : ∃ zz9, zz9 = va_up lr6 11 (xfl (xmu (xsw M a R i) a i (M R i))) := ⟨_, rfl⟩
                rw [← hlr] at hC
                have e11 : lr241 11 = xfl (xmu (xsw M a R i) a i (M R i)) := (congrFun hlr _).trans (va_up_self _ _ _)
                have hk11 : ∀ i, i < 11 → lr241 i = lr i := fun i hi => (congrFun hlr i).trans ((va_up_ne _ _ (by omega)).trans (hk11 i hi))
                refine lv_aload_n hx hb dX5_clear_118 rfl (lv_at hl 6 rfl) ?_
                refine xw_get C hw hC.o (ci := 4) rfl iX5_clear_X5 14 (by decide) (by decide +kernel) rfl dX5_clear_119 ?_
                refine lv_bipush (v := 10) hx hb dX5_clear_122 (by decide) ?_
                refine xw_ti (y := (nI 10)) (by decide) ?_
                refine lv_iload_n hx hb dX5_clear_124 rfl (lv_at hl 5 rfl) ?_
                refine lv_imul hx hb dX5_clear_125 ?_
                refine xw_ti (y := (nI (10 * R))) (pk_mul _ _) ?_
                refine lv_iload hx hb dX5_clear_126 (lv_at hl 1 rfl) ?_
                refine lv_iadd hx hb dX5_clear_128 ?_
                refine xw_ti (y := (nI (10 * R + i))) (nI_add _ _) ?_
                refine lv_lload hx hb dX5_clear_129 (lv_at hl 0 rfl) ?_
                refine xw_lastN C hw hS (hC.t e11) (show 10 * R + i < 640 by omega) (by decide) dX5_clear_131 (fun H locs hw hS => ?_)
                rw [xrowJ_up, xmu_fl _ _ (show R < 64 by omega) (show i < 10 by omega)] at hw
                have hC := hC.set (i := 11) (by decide) (show xlc 11 = 640 by decide) (f := xfl (xmu (xmu (xsw M a R i) a i (M R i)) R i (M a i))) (xfl_sup _)
                obtain ⟨lr242, hlr⟩ : ∃ zz9, zz9 = va_up lr241 11 (xfl (xmu (xmu (xsw M a R i) a i (M R i)) R i (M a i))) := ⟨_, rfl⟩
                rw [← hlr] at hC
                have e11 : lr242 11 = xfl (xmu (xmu (xsw M a R i) a i (M R i)) R i (M a i)) := (congrFun hlr _).trans (va_up_self _ _ _)
                have hk11 : ∀ i, i < 11 → lr242 i = lr i := fun i hi => (congrFun hlr i).trans ((va_up_ne _ _ (by omega)).trans (hk11 i hi))
                rw [xsw_s] at e11
                refine lv_iinc (v := (nI (i + 1))) (lv' := [(6, .int (nI (i + 1))), (7, .long (xJ (M a i))), (5, .int (nI a)), (4, .int (nI K)), (3, .int (nI F)), (2, .int (nI R)), (0, .ref mo), (1, .int (nI t))]) hx hb dX5_clear_132 hl (k := 1) rfl (x_inc i) (by decide) rfl (fun ls hl => ?_)
                refine lv_goto (tgt := 71) hx hb dX5_clear_135 (by decide) ?_
                exact ih3 (i + 1) _ lr242 ls _ _ (by omega) hC e11 hk11 hw hS (lv_sub hl [0, 2, 3, 4, 5, 6, 7] rfl)
            exact swap 10 0 _ lr5 ls _ _ rfl hC (by rw [xsw_0]; exact e11) hk11 hw hS hl
          · skip
            have hc : M a K = 0 := xJ_z.mp ((lg_cmp_eq _ _).mp hc)
            refine lv_iinc (v := (nI (a + 1))) (lv' := [(5, .int (nI (a + 1))), (4, .int (nI K)), (3, .int (nI F)), (2, .int (nI R)), (0, .ref mo), (1, .int (nI t))]) hx hb dX5_clear_41 hl (k := 0) rfl (x_inc a) (by decide) rfl (fun ls hl => ?_)
            refine lv_goto (tgt := 16) hx hb dX5_clear_44 (by decide) ?_
            exact ih2 (a + 1) ls _ _ (by omega) (by omega) (fun n h1 h2 => by by_cases hna : n = a; (rw [hna]; exact hc); exact hz n h1 (by omega)) hw hS (lv_sub hl [0, 1, 2, 3, 4, 5] rfl)
      exact find (64 - R) R ls _ _ (by omega) (Nat.le_refl _) (fun n h1 h2 => absurd h1 (by omega)) hw hS hl
  exact loop (t + 1) 0 w lr ro M0 ls _ _ (by omega) hC e11 hk11 (xRd_0 _ _) hw hS hl
