/-! ===== the reference: mayBe, free; least; find; its constructor (laid by wip/whole/m_modp.py) ===== -/
abbrev rmX5_least : Room := { frames := 4, cells := 0, slots := 0, locals := 90 }
theorem iX5_least_X5 : ∀ w ∈ wsX50, w ∈ wsX5_least := by decide +kernel
set_option maxHeartbeats 4000000 in
set_option maxRecDepth 100000 in
theorem kX5_least (l : Launch) (G : xG) (B : Nat) (w : xM) (mo : Nat) (la ia : Nat → Nat) (rq : Nat) (co : Int32) (mn : Nat) (im lr : Nat → xP) (ro : Nat → Option Nat) (me : Int32) (wr : xM) (hC : xML G w mo la ia rq co mn im lr ro me wr) (x y : Int32) : Met l yX5_least wsX5_least rmX5_least (va_Pc [.ref mo, .int x, .int y] (xB G B w)) (va_Qi (fun r u => (r = 0 ∧ ¬ (xIs mn x ∧ xIs mn y) ∧ xMK G mo la ia rq 1 mn im wr u) ∨ (r = 0 ∧ (∃ k1 k2, k1 < mn ∧ k2 < mn ∧ x = nI k1 ∧ y = nI k2 ∧ (xlen (xTm im k2) 64 = 0 ∨ xlen (im 3) 64 = 0)) ∧ xMK G mo la ia rq 2 mn im wr u) ∨ ∃ k1 k2, k1 < mn ∧ k2 < mn ∧ x = nI k1 ∧ y = nI k2 ∧ xlen (xTm im k2) 64 ≠ 0 ∧ xlen (im 3) 64 ≠ 0 ∧ xMK G mo la ia rq 0 mn im wr u ∧ ((r = -1 ∧ ∀ j, j < 9 → ∀ Y, ¬ xSol (fun k => xMcol (xBm im k1) (im 2) (im 3) (xTm im k2) k) (xMtgt (xTm im k1) (im 3) (xTm im k2)) (j + 1) Y) ∨ ∃ t9, t9 < 9 ∧ r = nI t9 ∧ (∃ Y, xPln (fun k => xMcol (xBm im k1) (im 2) (im 3) (xTm im k2) k) (xMtgt (xTm im k1) (im 3) (xTm im k2)) (t9 + 1) Y) ∧ ∀ j, j < t9 → ∀ Y, ¬ xSol (fun k => xMcol (xBm im k1) (im 2) (im 3) (xTm im k2) k) (xMtgt (xTm im k1) (im 3) (xTm im k2)) (j + 1) Y)) (xE G B) (xA B)) 0 0 (xA B) := by
  refine xw_start (own := RX5) (mn := "least") (cc := cX5_least) (nL := 4) (rt := (some .int)) (by decide) rfl rfl rfl (Nat.le_of_ble_eq_true rfl) ?_
  intro p ev s m below meth cd ls C hl hw hS
  obtain ⟨hx, hb, -, -, -, hts, -, -, -, -⟩ := id C
  have hl : lv_has ls 4 [(0, .ref mo), (1, .int x), (2, .int y)] := hl
  refine lv_aload_n hx hb dX5_least_0 rfl (lv_at hl 0 rfl) ?_
  refine lv_iload_n hx hb dX5_least_1 rfl (lv_at hl 1 rfl) ?_
  refine lv_iload_n hx hb dX5_least_2 rfl (lv_at hl 2 rfl) ?_
  refine xw_ci (xw_V (n := 2) (rest := []) C hw (kX5_mayBe l G B _ mo la ia rq co mn im lr ro me wr hC x y) gX5_least_X5_mayBe rfl rfl rfl (by decide +kernel) ⟨Nat.le_of_ble_eq_true rfl, Nat.le_of_ble_eq_true rfl⟩ hC.o rfl rfl hl.1 rfl (Nat.le_of_ble_eq_true rfl) dX5_least_3 ⟨Nat.le_of_ble_eq_true rfl, Nat.le_of_ble_eq_true rfl⟩ hS) hS (fun rq9 q9 H locs hq hw hS => ?_)
  rcases hq with ⟨hz, hy, lr1, ro1, me1, hC⟩ | ⟨hz, hy, lr1, ro1, me1, hC⟩ | ⟨hz, hy, lr1, ro1, me1, hC⟩
  · skip
    refine xw_ti (y := 0) (hz) ?_
    refine lv_if_ne (tgt := 11) hx hb dX5_least_6 (by decide) (fun hc => absurd (rfl) hc) (fun _ => ?_)
    refine lv_iconst (v := 0) hx hb dX5_least_9 (by decide) ?_
    exact xw_iret C hw hS (Nat.le_of_ble_eq_true rfl) (Nat.le_of_ble_eq_true rfl) (Or.inl ⟨rfl, hy, _, _, _, hC⟩) dX5_least_10
  · skip
    refine xw_ti (y := 0) (hz) ?_
    refine lv_if_ne (tgt := 11) hx hb dX5_least_6 (by decide) (fun hc => absurd (rfl) hc) (fun _ => ?_)
    refine lv_iconst (v := 0) hx hb dX5_least_9 (by decide) ?_
    exact xw_iret C hw hS (Nat.le_of_ble_eq_true rfl) (Nat.le_of_ble_eq_true rfl) (Or.inr (Or.inl ⟨rfl, hy, _, _, _, hC⟩)) dX5_least_10
  · skip
    refine xw_ti (y := 1) (hz) ?_
    refine lv_if_ne (tgt := 11) hx hb dX5_least_6 (by decide) (fun _ => ?_) (fun hc => absurd hc (by decide))
    obtain ⟨c1, c2, hc1, hc2, rfl, rfl, hn1, hn2⟩ := hy
    refine lv_iconst (v := 0) hx hb dX5_least_11 (by decide) ?_
    refine xw_ti (y := (nI 0)) (nI_0.symm) ?_
    refine lv_istore_n (lv' := [(3, .int (nI 0)), (0, .ref mo), (1, .int (nI c1)), (2, .int (nI c2))]) hx hb dX5_least_12 rfl hl (by decide) rfl (fun ls hl => ?_)
    have loop : ∀ (d t : Nat) (w1 : xM) (lr1 : Nat → xP) (ro1 : Nat → Option Nat) (me1 : Int32) (ls : Array Slot) (H : Heap) (locs : List Loc), t + d = 9 → xML G w1 mo la ia rq 0 mn im lr1 ro1 me1 wr → (∀ j, j < t → ∀ Y, ¬ xSol (fun k => xMcol (xBm im c1) (im 2) (im 3) (xTm im c2) k) (xMtgt (xTm im c1) (im 3) (xTm im c2)) (j + 1) Y) → xW G B w1 H → va_S (xA B) s.heap H locs → lv_has ls 4 [(3, .int (nI t)), (0, .ref mo), (1, .int (nI c1)), (2, .int (nI c2))] → W p l ev rmX5_least s m [.ref mo, .int (nI c1), .int (nI c2)].toArray below meth cd H locs 0 0 (MQ below (va_Qi (fun r u => (r = 0 ∧ ¬ (xIs mn (nI c1) ∧ xIs mn (nI c2)) ∧ xMK G mo la ia rq 1 mn im wr u) ∨ (r = 0 ∧ (∃ k1 k2, k1 < mn ∧ k2 < mn ∧ (nI c1) = nI k1 ∧ (nI c2) = nI k2 ∧ (xlen (xTm im k2) 64 = 0 ∨ xlen (im 3) 64 = 0)) ∧ xMK G mo la ia rq 2 mn im wr u) ∨ ∃ k1 k2, k1 < mn ∧ k2 < mn ∧ (nI c1) = nI k1 ∧ (nI c2) = nI k2 ∧ xlen (xTm im k2) 64 ≠ 0 ∧ xlen (im 3) 64 ≠ 0 ∧ xMK G mo la ia rq 0 mn im wr u ∧ ((r = -1 ∧ ∀ j, j < 9 → ∀ Y, ¬ xSol (fun k => xMcol (xBm im k1) (im 2) (im 3) (xTm im k2) k) (xMtgt (xTm im k1) (im 3) (xTm im k2)) (j + 1) Y) ∨ ∃ t9, t9 < 9 ∧ r = nI t9 ∧ (∃ Y, xPln (fun k => xMcol (xBm im k1) (im 2) (im 3) (xTm im k2) k) (xMtgt (xTm im k1) (im 3) (xTm im k2)) (t9 + 1) Y) ∧ ∀ j, j < t9 → ∀ Y, ¬ xSol (fun k => xMcol (xBm im k1) (im 2) (im 3) (xTm im k2) k) (xMtgt (xTm im k1) (im 3) (xTm im k2)) (j + 1) Y)) (xE G B) (xA B)) [.ref mo, .int (nI c1), .int (nI c2)].toArray s 0 0 (xA B)) (F0 m 13 ls []) := by
      intro d
      induction d with
      | zero =>
        intro t w1 lr1 ro1 me1 ls H locs ht hC hno hw hS hl
        refine lv_iload_n hx hb dX5_least_13 rfl (lv_at hl 0 rfl) ?_
        refine lv_bipush (v := 9) hx hb dX5_least_14 (by decide) ?_
        refine xw_ti (y := (nI 9)) (by decide) ?_
        refine lv_icmp_ge (tgt := 46) hx hb dX5_least_16 (by decide) (fun _ => ?_) (fun hc => absurd ((nI_leI (by omega) (by omega)).mpr (by omega)) hc)
        refine lv_iconst (v := (-1)) hx hb dX5_least_46 (by decide) ?_
        exact xw_iret C hw hS (Nat.le_of_ble_eq_true rfl) (Nat.le_of_ble_eq_true rfl) (Or.inr (Or.inr ⟨c1, c2, hc1, hc2, rfl, rfl, hn1, hn2, ⟨_, _, _, hC⟩, Or.inl ⟨rfl, fun j hj => hno j (by omega)⟩⟩)) dX5_least_47
      | succ d ih =>
        intro t w1 lr1 ro1 me1 ls H locs ht hC hno hw hS hl
        refine lv_iload_n hx hb dX5_least_13 rfl (lv_at hl 0 rfl) ?_
        refine lv_bipush (v := 9) hx hb dX5_least_14 (by decide) ?_
        refine xw_ti (y := (nI 9)) (by decide) ?_
        refine lv_icmp_ge (tgt := 46) hx hb dX5_least_16 (by decide) (fun hc => absurd hc (fun q => absurd ((nI_leI (by omega) (by omega)).mp q) (by omega))) (fun _ => ?_)
        refine lv_aload_n hx hb dX5_least_19 rfl (lv_at hl 1 rfl) ?_
        refine lv_iload_n hx hb dX5_least_20 rfl (lv_at hl 2 rfl) ?_
        refine lv_iload_n hx hb dX5_least_21 rfl (lv_at hl 3 rfl) ?_
        refine xw_cv (xw_V (n := 2) (rest := []) C hw (kX5_fill l G B _ mo la ia rq 0 mn im lr1 ro1 me1 wr hC c1 c2 hc1 hc2) gX5_least_X5_fill rfl rfl rfl (by decide +kernel) ⟨Nat.le_of_ble_eq_true rfl, Nat.le_of_ble_eq_true rfl⟩ hC.o rfl rfl hl.1 rfl (Nat.le_of_ble_eq_true rfl) dX5_least_22 ⟨Nat.le_of_ble_eq_true rfl, Nat.le_of_ble_eq_true rfl⟩ hS) hS (fun u2 H locs hq hw hS => ?_)
        obtain ⟨lr2, M0, hC, e11, hMc, hMt⟩ := hq
        refine lv_aload_n hx hb dX5_least_25 rfl (lv_at hl 1 rfl) ?_
        refine lv_iload_n hx hb dX5_least_26 rfl (lv_at hl 0 rfl) ?_
        refine xw_ci (xw_V (n := 1) (rest := []) C hw (kX5_clear l G B _ mo la ia rq 0 mn im lr2 ro1 me1 wr hC t (by omega) M0 e11) gX5_least_X5_clear rfl rfl rfl (by decide +kernel) ⟨Nat.le_of_ble_eq_true rfl, Nat.le_of_ble_eq_true rfl⟩ hC.o rfl rfl hl.1 rfl (Nat.le_of_ble_eq_true rfl) dX5_least_27 ⟨Nat.le_of_ble_eq_true rfl, Nat.le_of_ble_eq_true rfl⟩ hS) hS (fun rc9 c9 H locs hq hw hS => ?_)
        obtain ⟨lr3, ro3, me3, M, hC, e11, hk11, hRd, hrc, hme⟩ := hq
        rcases hme with ⟨rfl, hz9⟩ | ⟨rfl, n9, hn9, hr9, hz9⟩
        · skip
          refine lv_pop hx hb dX5_least_30 rfl ?_
          refine lv_aload_n hx hb dX5_least_31 rfl (lv_at hl 1 rfl) ?_
          refine xw_get C hw hC.o (ci := 4) rfl iX5_least_X5 19 (by decide) (by decide +kernel) rfl dX5_least_32 ?_
          refine lv_if_eq (tgt := 40) hx hb dX5_least_35 (by decide) (fun hc => absurd hc (by decide)) (fun _ => ?_)
          refine lv_iload_n hx hb dX5_least_38 rfl (lv_at hl 0 rfl) ?_
          exact xw_iret C hw hS (Nat.le_of_ble_eq_true rfl) (Nat.le_of_ble_eq_true rfl) (Or.inr (Or.inr ⟨c1, c2, hc1, hc2, rfl, rfl, hn1, hn2, ⟨_, _, _, hC⟩, Or.inr ⟨t, by omega, rfl, ⟨_, xPln_cg (fun k hk i hi => hMc k (by omega) i hi) (fun i hi => hMt i hi) (xRd_yes hRd (by omega) hz9 (Y := xYm M ro3 (t + 1)) (fun k hk => by unfold xYm; rw [if_pos hk]; rfl) (xYm_sup _ _ _))⟩, hno⟩⟩)) dX5_least_39
        · skip
          refine lv_pop hx hb dX5_least_30 rfl ?_
          refine lv_aload_n hx hb dX5_least_31 rfl (lv_at hl 1 rfl) ?_
          refine xw_get C hw hC.o (ci := 4) rfl iX5_least_X5 19 (by decide) (by decide +kernel) rfl dX5_least_32 ?_
          refine lv_if_eq (tgt := 40) hx hb dX5_least_35 (by decide) (fun _ => ?_) (fun hc => absurd (rfl) hc)
          refine lv_iinc (v := (nI (t + 1))) (lv' := [(3, .int (nI (t + 1))), (0, .ref mo), (1, .int (nI c1)), (2, .int (nI c2))]) hx hb dX5_least_40 hl (k := 0) rfl (x_inc t) (by decide) rfl (fun ls hl => ?_)
          refine lv_goto (tgt := 13) hx hb dX5_least_43 (by decide) ?_
          refine ih (t + 1) _ lr3 ro3 0 ls _ _ (by omega) hC (fun j hj Y hY => ?_) hw hS (lv_sub hl [0, 1, 2, 3] rfl)
          by_cases hjt : j = t
          · rw [hjt] at hY; exact xRd_no hRd (by omega) hn9 hr9 hz9 Y (xSol_cg (fun k hk i hi => (hMc k (by omega) i hi).symm) (fun i hi => (hMt i hi).symm) hY)
          · exact hno j (by omega) Y hY
    exact loop 9 0 _ lr1 ro1 me1 ls _ _ rfl hC (fun j hj => absurd hj (by omega)) hw hS (lv_sub hl [0, 1, 2, 3] rfl)
