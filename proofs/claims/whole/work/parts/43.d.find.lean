/-! ===== the reference: mayBe, free; least; find; its constructor (laid by wip/whole/m_modp.py) ===== -/
abbrev rmX5_find : Room := { frames := 4, cells := 0, slots := 0, locals := 90 }
theorem iX5_find_X5 : ∀ w ∈ wsX50, w ∈ wsX5_find := by decide +kernel
set_option maxHeartbeats 4000000 in
set_option maxRecDepth 100000 in
theorem kX5_find (l : Launch) (G : xG) (B : Nat) (w : xM) (mo : Nat) (la ia : Nat → Nat) (rq : Nat) (co : Int32) (mn : Nat) (im lr : Nat → xP) (ro : Nat → Option Nat) (me : Int32) (wr : xM) (hC : xML G w mo la ia rq co mn im lr ro me wr) (x y t : Int32) : Met l yX5_find wsX5_find rmX5_find (va_Pc [.ref mo, .int x, .int y, .int t] (xB G B w)) (va_Qi (fun r u => (r = 0 ∧ ¬ (xIs mn x ∧ xIs mn y) ∧ xMK G mo la ia rq 1 mn im wr u) ∨ (r = 0 ∧ (∃ k1 k2, k1 < mn ∧ k2 < mn ∧ x = nI k1 ∧ y = nI k2 ∧ (xlen (xTm im k2) 64 = 0 ∨ xlen (im 3) 64 = 0)) ∧ xMK G mo la ia rq 2 mn im wr u) ∨ (r = 0 ∧ (∃ k1 k2, k1 < mn ∧ k2 < mn ∧ x = nI k1 ∧ y = nI k2 ∧ xlen (xTm im k2) 64 ≠ 0 ∧ xlen (im 3) 64 ≠ 0) ∧ ¬ xIs 9 t ∧ xMK G mo la ia rq 3 mn im wr u) ∨ (r = 0 ∧ (∃ k1 k2, k1 < mn ∧ k2 < mn ∧ x = nI k1 ∧ y = nI k2 ∧ xlen (xTm im k2) 64 ≠ 0 ∧ xlen (im 3) 64 ≠ 0) ∧ xIs 9 t ∧ ¬ mn < 50 ∧ xMK G mo la ia rq 4 mn im wr u) ∨ ∃ k1 k2 dd, k1 < mn ∧ k2 < mn ∧ x = nI k1 ∧ y = nI k2 ∧ xlen (xTm im k2) 64 ≠ 0 ∧ xlen (im 3) 64 ≠ 0 ∧ dd < 9 ∧ t = nI dd ∧ mn < 50 ∧ ((r = -1 ∧ (∀ Y, ¬ xSol (fun k => xMcol (xBm im k1) (im 2) (im 3) (xTm im k2) k) (xMtgt (xTm im k1) (im 3) (xTm im k2)) (dd + 1) Y) ∧ xMK G mo la ia rq 0 mn im wr u) ∨ ∃ Y, xPln (fun k => xMcol (xBm im k1) (im 2) (im 3) (xTm im k2) k) (xMtgt (xTm im k1) (im 3) (xTm im k2)) (dd + 1) Y ∧ xKe G mo la ia rq mn im wr (xnT Y (xTm im k2)) (xnB Y (xTm im k2)) 4 r u)) (xE G B) (xA B)) 0 0 (xA B) := by
  refine xw_start (own := RX5) (mn := "find") (cc := cX5_find) (nL := 5) (rt := (some .int)) (by decide) rfl rfl rfl (Nat.le_of_ble_eq_true rfl) ?_
  intro p ev s m below meth cd ls C hl hw hS
  obtain ⟨hx, hb, -, -, -, hts, -, -, -, -⟩ := id C
  have hl : lv_has ls 5 [(0, .ref mo), (1, .int x), (2, .int y), (3, .int t)] := hl
  refine lv_aload_n hx hb dX5_find_0 rfl (lv_at hl 0 rfl) ?_
  refine lv_iload_n hx hb dX5_find_1 rfl (lv_at hl 1 rfl) ?_
  refine lv_iload_n hx hb dX5_find_2 rfl (lv_at hl 2 rfl) ?_
  refine xw_ci (xw_V (n := 2) (rest := []) C hw (kX5_mayBe l G B _ mo la ia rq co mn im lr ro me wr hC x y) gX5_find_X5_mayBe rfl rfl rfl (by decide +kernel) ⟨Nat.le_of_ble_eq_true rfl, Nat.le_of_ble_eq_true rfl⟩ hC.o rfl rfl hl.1 rfl (Nat.le_of_ble_eq_true rfl) dX5_find_3 ⟨Nat.le_of_ble_eq_true rfl, Nat.le_of_ble_eq_true rfl⟩ hS) hS (fun rq9 q9 H locs hq hw hS => ?_)
  rcases hq with ⟨hz, hy, lr1, ro1, me1, hC⟩ | ⟨hz, hy, lr1, ro1, me1, hC⟩ | ⟨hz, hy, lr1, ro1, me1, hC⟩
  · skip
    refine xw_ti (y := 0) (hz) ?_
    refine lv_if_ne (tgt := 11) hx hb dX5_find_6 (by decide) (fun hc => absurd (rfl) hc) (fun _ => ?_)
    refine lv_iconst (v := 0) hx hb dX5_find_9 (by decide) ?_
    exact xw_iret C hw hS (Nat.le_of_ble_eq_true rfl) (Nat.le_of_ble_eq_true rfl) (Or.inl ⟨rfl, hy, _, _, _, hC⟩) dX5_find_10
  · skip
    refine xw_ti (y := 0) (hz) ?_
    refine lv_if_ne (tgt := 11) hx hb dX5_find_6 (by decide) (fun hc => absurd (rfl) hc) (fun _ => ?_)
    refine lv_iconst (v := 0) hx hb dX5_find_9 (by decide) ?_
    exact xw_iret C hw hS (Nat.le_of_ble_eq_true rfl) (Nat.le_of_ble_eq_true rfl) (Or.inr (Or.inl ⟨rfl, hy, _, _, _, hC⟩)) dX5_find_10
  · skip
    refine xw_ti (y := 1) (hz) ?_
    refine lv_if_ne (tgt := 11) hx hb dX5_find_6 (by decide) (fun _ => ?_) (fun hc => absurd hc (by decide))
    obtain ⟨c1, c2, hc1, hc2, rfl, rfl, hn1, hn2⟩ := hy
    refine lv_iload_n hx hb dX5_find_11 rfl (lv_at hl 3 rfl) ?_
    refine lv_i2l (v := (t).toInt64) hx hb dX5_find_12 rfl ?_
    refine lv_lconst (v := 0) hx hb dX5_find_13 (by decide) ?_
    refine xw_ldc2 C (v := 8) (by decide +kernel) dX5_find_14 ?_
    refine xw_ci (xw_S (n := 3) (rest := []) C hw (kX5_in l G B _ (t.toInt64) 0 8) gX5_find_X5_in rfl rfl rfl (by decide +kernel) ⟨Nat.le_of_ble_eq_true rfl, Nat.le_of_ble_eq_true rfl⟩ rfl hl.1 rfl (Nat.le_of_ble_eq_true rfl) dX5_find_17 ⟨Nat.le_of_ble_eq_true rfl, Nat.le_of_ble_eq_true rfl⟩ hS) hS (fun rq9 q9 H locs hq hw hS => ?_)
    obtain ⟨hq, hu⟩ := hq
    rw [hu] at hw
    rw [show (8 : Int64) = lN 8 by decide, x_in (by decide)] at hq
    rcases hq with ⟨hz, hin⟩ | ⟨hz, hin⟩
    · skip
      refine xw_ti (y := 1) (hz) ?_
      refine lv_if_ne (tgt := 29) hx hb dX5_find_20 (by decide) (fun _ => ?_) (fun hc => absurd hc (by decide))
      obtain ⟨dd, hdd, rfl⟩ := hin
      have h50 := hC.m50
      obtain ⟨d9, rfl⟩ : ∃ z, z = dd := ⟨_, rfl⟩
      refine lv_aload_n hx hb dX5_find_29 rfl (lv_at hl 0 rfl) ?_
      refine xw_get C hw hC.o (ci := 4) rfl iX5_find_X5 1 (by decide) (by decide +kernel) rfl dX5_find_30 ?_
      refine lv_bipush (v := 50) hx hb dX5_find_33 (by decide) ?_
      refine xw_ti (y := (nI 50)) (by decide) ?_
      refine lv_icmp_ne (tgt := 44) hx hb dX5_find_35 (by decide) (fun hc => ?_) (fun hc => ?_)
      · skip
        have hc : mn < 50 := by rcases Nat.lt_or_ge mn 50 with q | q; exact q; exact absurd (by rw [show mn = 50 by omega]) hc
        refine lv_aload_n hx hb dX5_find_44 rfl (lv_at hl 0 rfl) ?_
        refine lv_iload_n hx hb dX5_find_45 rfl (lv_at hl 1 rfl) ?_
        refine lv_iload_n hx hb dX5_find_46 rfl (lv_at hl 2 rfl) ?_
        refine xw_cv (xw_V (n := 2) (rest := []) C hw (kX5_fill l G B _ mo la ia rq 0 mn im lr1 ro1 me1 wr hC c1 c2 hc1 hc2) gX5_find_X5_fill rfl rfl rfl (by decide +kernel) ⟨Nat.le_of_ble_eq_true rfl, Nat.le_of_ble_eq_true rfl⟩ hC.o rfl rfl hl.1 rfl (Nat.le_of_ble_eq_true rfl) dX5_find_47 ⟨Nat.le_of_ble_eq_true rfl, Nat.le_of_ble_eq_true rfl⟩ hS) hS (fun u2 H locs hq hw hS => ?_)
        obtain ⟨lr2, M0, hC, e11, hMc, hMt⟩ := hq
        refine lv_aload_n hx hb dX5_find_50 rfl (lv_at hl 0 rfl) ?_
        refine lv_iload_n hx hb dX5_find_51 rfl (lv_at hl 3 rfl) ?_
        refine xw_ci (xw_V (n := 1) (rest := []) C hw (kX5_clear l G B _ mo la ia rq 0 mn im lr2 ro1 me1 wr hC d9 hdd M0 e11) gX5_find_X5_clear rfl rfl rfl (by decide +kernel) ⟨Nat.le_of_ble_eq_true rfl, Nat.le_of_ble_eq_true rfl⟩ hC.o rfl rfl hl.1 rfl (Nat.le_of_ble_eq_true rfl) dX5_find_52 ⟨Nat.le_of_ble_eq_true rfl, Nat.le_of_ble_eq_true rfl⟩ hS) hS (fun rc9 c9 H locs hq hw hS => ?_)
        obtain ⟨lr3, ro3, me3, M, hC, e11, hk11, hRd, hrc, hme⟩ := hq
        refine lv_pop hx hb dX5_find_55 rfl ?_
        rcases hme with ⟨rfl, hz9⟩ | ⟨rfl, n9, hn9, hr9, hz9⟩
        · skip
          refine lv_aload_n hx hb dX5_find_56 rfl (lv_at hl 0 rfl) ?_
          refine xw_get C hw hC.o (ci := 4) rfl iX5_find_X5 19 (by decide) (by decide +kernel) rfl dX5_find_57 ?_
          refine lv_if_ne (tgt := 65) hx hb dX5_find_60 (by decide) (fun _ => ?_) (fun hc => absurd hc (by decide))
          refine lv_aload_n hx hb dX5_find_65 rfl (lv_at hl 0 rfl) ?_
          refine xw_get C hw hC.o (ci := 4) rfl iX5_find_X5 6 (by decide) (by decide +kernel) rfl dX5_find_66 ?_
          refine xw_cv (xw_S (n := 1) (rest := []) C hw (kX5_empty l G B _ (la 0) (lr3 0) (hC.r 0 (by decide) rfl) (hC.rs 0 (by decide) rfl)) gX5_find_X5_empty rfl rfl rfl (by decide +kernel) ⟨Nat.le_of_ble_eq_true rfl, Nat.le_of_ble_eq_true rfl⟩ rfl hl.1 rfl (Nat.le_of_ble_eq_true rfl) dX5_find_69 ⟨Nat.le_of_ble_eq_true rfl, Nat.le_of_ble_eq_true rfl⟩ hS) hS (fun u H locs hpp hw hS => ?_)
          rw [hpp] at hw
          have hC := hC.set (i := 0) (by decide) (show xlc 0 = 64 by decide) (f := fun _ => 0) (xsup_z _)
          obtain ⟨lr11, hlr⟩ : ∃ zz9, zz9 = va_up lr3 (0) (fun _ => 0) := ⟨_, rfl⟩
          rw [← hlr] at hC
          have e11 : lr11 11 = xfl M := (congrFun hlr _).trans ((va_up_ne _ _ (by decide)).trans e11)
          have e0 : lr11 0 = fun _ => 0 := (congrFun hlr _).trans (va_up_self _ _ _)
          refine lv_iconst (v := 0) hx hb dX5_find_72 (by decide) ?_
          refine xw_ti (y := (nI 0)) (nI_0.symm) ?_
          refine lv_istore (lv' := [(4, .int (nI 0)), (0, .ref mo), (1, .int (nI c1)), (2, .int (nI c2)), (3, .int (nI d9))]) hx hb dX5_find_73 hl (by decide) rfl (fun ls hl => ?_)
          have loop : ∀ (d k : Nat) (w1 : xM) (lr5 : Nat → xP) (ls : Array Slot) (H : Heap) (locs : List Loc), k + d = d9 + 1 → xML G w1 mo la ia rq 0 mn im lr5 ro3 1 wr → lr5 11 = xfl M → lr5 0 = xYm M ro3 k → xW G B w1 H → va_S (xA B) s.heap H locs → lv_has ls 5 [(4, .int (nI k)), (0, .ref mo), (1, .int (nI c1)), (2, .int (nI c2)), (3, .int (nI d9))] → W p l ev rmX5_find s m [.ref mo, .int (nI c1), .int (nI c2), .int (nI d9)].toArray below meth cd H locs 0 0 (MQ below (va_Qi (fun r u => (r = 0 ∧ ¬ (xIs mn (nI c1) ∧ xIs mn (nI c2)) ∧ xMK G mo la ia rq 1 mn im wr u) ∨ (r = 0 ∧ (∃ k1 k2, k1 < mn ∧ k2 < mn ∧ (nI c1) = nI k1 ∧ (nI c2) = nI k2 ∧ (xlen (xTm im k2) 64 = 0 ∨ xlen (im 3) 64 = 0)) ∧ xMK G mo la ia rq 2 mn im wr u) ∨ (r = 0 ∧ (∃ k1 k2, k1 < mn ∧ k2 < mn ∧ (nI c1) = nI k1 ∧ (nI c2) = nI k2 ∧ xlen (xTm im k2) 64 ≠ 0 ∧ xlen (im 3) 64 ≠ 0) ∧ ¬ xIs 9 (nI d9) ∧ xMK G mo la ia rq 3 mn im wr u) ∨ (r = 0 ∧ (∃ k1 k2, k1 < mn ∧ k2 < mn ∧ (nI c1) = nI k1 ∧ (nI c2) = nI k2 ∧ xlen (xTm im k2) 64 ≠ 0 ∧ xlen (im 3) 64 ≠ 0) ∧ xIs 9 (nI d9) ∧ ¬ mn < 50 ∧ xMK G mo la ia rq 4 mn im wr u) ∨ ∃ k1 k2 dd, k1 < mn ∧ k2 < mn ∧ (nI c1) = nI k1 ∧ (nI c2) = nI k2 ∧ xlen (xTm im k2) 64 ≠ 0 ∧ xlen (im 3) 64 ≠ 0 ∧ dd < 9 ∧ (nI d9) = nI dd ∧ mn < 50 ∧ ((r = -1 ∧ (∀ Y, ¬ xSol (fun k => xMcol (xBm im k1) (im 2) (im 3) (xTm im k2) k) (xMtgt (xTm im k1) (im 3) (xTm im k2)) (dd + 1) Y) ∧ xMK G mo la ia rq 0 mn im wr u) ∨ ∃ Y, xPln (fun k => xMcol (xBm im k1) (im 2) (im 3) (xTm im k2) k) (xMtgt (xTm im k1) (im 3) (xTm im k2)) (dd + 1) Y ∧ xKe G mo la ia rq mn im wr (xnT Y (xTm im k2)) (xnB Y (xTm im k2)) 4 r u)) (xE G B) (xA B)) [.ref mo, .int (nI c1), .int (nI c2), .int (nI d9)].toArray s 0 0 (xA B)) (F0 m 75 ls []) := by
            intro d
            induction d with
            | zero =>
              intro k w1 lr5 ls H locs hk hC e11 e0 hw hS hl
              refine lv_iload hx hb dX5_find_75 (lv_at hl 0 rfl) ?_
              refine lv_iload_n hx hb dX5_find_77 rfl (lv_at hl 4 rfl) ?_
              refine lv_icmp_gt (tgt := 127) hx hb dX5_find_78 (by decide) (fun _ => ?_) (fun hc => absurd ((nI_ltI (by omega) (by omega)).mpr (by omega)) hc)
              refine lv_aload_n hx hb dX5_find_127 rfl (lv_at hl 1 rfl) ?_
              refine lv_aload_n hx hb dX5_find_128 rfl (lv_at hl 1 rfl) ?_
              refine xw_get C hw hC.o (ci := 4) rfl iX5_find_X5 7 (by decide) (by decide +kernel) rfl dX5_find_129 ?_
              refine lv_iload_n hx hb dX5_find_132 rfl (lv_at hl 3 rfl) ?_
              refine xw_cv (xw_V (n := 2) (rest := []) C hw (kX5_loadTop l G B _ mo la ia rq 0 mn im lr5 ro3 1 wr hC 1 (by decide) (lr5 1) rfl c2 hc2) gX5_find_X5_loadTop rfl rfl rfl (by decide +kernel) ⟨Nat.le_of_ble_eq_true rfl, Nat.le_of_ble_eq_true rfl⟩ hC.o rfl rfl hl.1 rfl (Nat.le_of_ble_eq_true rfl) dX5_find_133 ⟨Nat.le_of_ble_eq_true rfl, Nat.le_of_ble_eq_true rfl⟩ hS) hS (fun u H locs hpp hw hS => ?_)
              rw [hpp] at hw
              have hC := hC.set (i := 1) (by decide) (show xlc 1 = 64 by decide) (f := xTm im c2) (xld_sup _ _ (by decide))
              obtain ⟨lr12, hlr⟩ : ∃ zz9, zz9 = va_up lr5 (1) (xTm im c2) := ⟨_, rfl⟩
              rw [← hlr] at hC
              have e0 : lr12 0 = xYm M ro3 k := (congrFun hlr _).trans ((va_up_ne _ _ (by decide)).trans e0)
              have e11 : lr12 11 = xfl M := (congrFun hlr _).trans ((va_up_ne _ _ (by decide)).trans e11)
              have e1 : lr12 1 = xTm im c2 := (congrFun hlr _).trans (va_up_self _ _ _)
              refine lv_aload_n hx hb dX5_find_136 rfl (lv_at hl 1 rfl) ?_
              refine xw_cv (xw_V (n := 0) (rest := []) C hw (kX5_lowest l G B _ mo la ia rq 0 mn im lr12 ro3 1 wr hC (xYm M ro3 k) (xTm im c2) e0 e1 (hn1)) gX5_find_X5_lowest rfl rfl rfl (by decide +kernel) ⟨Nat.le_of_ble_eq_true rfl, Nat.le_of_ble_eq_true rfl⟩ hC.o rfl rfl hl.1 rfl (Nat.le_of_ble_eq_true rfl) dX5_find_137 ⟨Nat.le_of_ble_eq_true rfl, Nat.le_of_ble_eq_true rfl⟩ hS) hS (fun u9 H locs hq hw hS => ?_)
              obtain ⟨lr13, hC, e0, e1, hkl⟩ := hq
              refine lv_aload_n hx hb dX5_find_140 rfl (lv_at hl 1 rfl) ?_
              refine lv_iconst (v := 4) hx hb dX5_find_141 (by decide) ?_
              refine xw_ci (xw_V (n := 1) (rest := []) C hw (kX5_keep l G B _ mo la ia rq 0 mn im lr13 ro3 1 wr hC (xnT (xYm M ro3 k) (xTm im c2)) (xnB (xYm M ro3 k) (xTm im c2)) e0 e1 4) gX5_find_X5_keep rfl rfl rfl (by decide +kernel) ⟨Nat.le_of_ble_eq_true rfl, Nat.le_of_ble_eq_true rfl⟩ hC.o rfl rfl hl.1 rfl (Nat.le_of_ble_eq_true rfl) dX5_find_142 ⟨Nat.le_of_ble_eq_true rfl, Nat.le_of_ble_eq_true rfl⟩ hS) hS (fun rz z H locs hkk hw hS => ?_)
              obtain rfl : k = d9 + 1 := by omega
              exact xw_iret C hw hS (Nat.le_of_ble_eq_true rfl) (Nat.le_of_ble_eq_true rfl) (Or.inr (Or.inr (Or.inr (Or.inr ⟨c1, c2, d9, hc1, hc2, rfl, rfl, hn1, hn2, hdd, rfl, hc, Or.inr ⟨_, xPln_cg (fun k hk i hi => hMc k (by omega) i hi) (fun i hi => hMt i hi) (xRd_yes hRd (by omega) hz9 (Y := xYm M ro3 (d9 + 1)) (fun k hk => by unfold xYm; rw [if_pos hk]; rfl) (xYm_sup _ _ _)), hkk⟩⟩)))) dX5_find_145
            | succ d ih =>
              intro k w1 lr5 ls H locs hk hC e11 e0 hw hS hl
              refine lv_iload hx hb dX5_find_75 (lv_at hl 0 rfl) ?_
              refine lv_iload_n hx hb dX5_find_77 rfl (lv_at hl 4 rfl) ?_
              refine lv_icmp_gt (tgt := 127) hx hb dX5_find_78 (by decide) (fun hc => absurd hc (fun q => absurd ((nI_ltI (by omega) (by omega)).mp q) (by omega))) (fun _ => ?_)
              refine lv_aload_n hx hb dX5_find_81 rfl (lv_at hl 1 rfl) ?_
              refine xw_get C hw hC.o (ci := 4) rfl iX5_find_X5 6 (by decide) (by decide +kernel) rfl dX5_find_82 ?_
              refine lv_iload hx hb dX5_find_85 (lv_at hl 0 rfl) ?_
              refine lv_aload_n hx hb dX5_find_87 rfl (lv_at hl 1 rfl) ?_
              refine xw_get C hw hC.o (ci := 4) rfl iX5_find_X5 15 (by decide) (by decide +kernel) rfl dX5_find_88 ?_
              refine lv_iload hx hb dX5_find_91 (lv_at hl 0 rfl) ?_
              refine xw_ialdN C hw hC.rr (show k < 9 by omega) (by decide) dX5_find_93 ?_
              refine xw_ti (y := (xeo1 (ro3 k))) (rfl) ?_
              refine lv_iconst (v := (-1)) hx hb dX5_find_94 (by decide) ?_
              cases hro : ro3 k with
              | none =>
                refine lv_icmp_ne (tgt := 102) hx hb dX5_find_95 (by decide) (fun hc => absurd (rfl) hc) (fun _ => ?_)
                refine lv_lconst (v := 0) hx hb dX5_find_98 (by decide) ?_
                refine xw_tl (y := (xJ 0)) (xJ_0.symm) ?_
                refine lv_goto (tgt := 120) hx hb dX5_find_99 (by decide) ?_
                refine xw_lastN C hw hS (hC.r 0 (by decide) e0) (show k < 64 by omega) (by decide) dX5_find_120 (fun H locs hw hS => ?_)
                rw [xrowJ_up] at hw
                have hC := hC.set (i := 0) (by decide) (show xlc 0 = 64 by decide) (f := va_up (xYm M ro3 k) k 0) (xsup_up (hC.rs 0 (by decide) e0) (by omega))
                obtain ⟨lr31, hlr⟩ : ∃ zz9, zz9 = va_up lr5 (0) (va_up (xYm M ro3 k) k 0) := ⟨_, rfl⟩
                rw [← hlr] at hC
                have e11 : lr31 11 = xfl M := (congrFun hlr _).trans ((va_up_ne _ _ (by decide)).trans e11)
                have e0 : lr31 0 = va_up (xYm M ro3 k) k 0 := (congrFun hlr _).trans (va_up_self _ _ _)
                refine lv_iinc (v := (nI (k + 1))) (lv' := [(4, .int (nI (k + 1))), (0, .ref mo), (1, .int (nI c1)), (2, .int (nI c2)), (3, .int (nI d9))]) hx hb dX5_find_121 hl (k := 0) rfl (x_inc k) (by decide) rfl (fun ls hl => ?_)
                refine lv_goto (tgt := 75) hx hb dX5_find_124 (by decide) ?_
                exact ih (k + 1) _ lr31 ls _ _ (by omega) hC e11 (by rw [e0, ← xYm_s, hro]) hw hS (lv_sub hl [0, 1, 2, 3, 4] rfl)
              | some e =>
                have hek := (hRd.2.1 k e (by omega) hro).1
                have hek2 := xrk_le ro3 k
                refine lv_icmp_ne (tgt := 102) hx hb dX5_find_95 (by decide) (fun _ => ?_) (fun hc => absurd hc (fun q => absurd q (xeo1_nm (by omega))))
                refine lv_aload_n hx hb dX5_find_102 rfl (lv_at hl 1 rfl) ?_
                refine xw_get C hw hC.o (ci := 4) rfl iX5_find_X5 14 (by decide) (by decide +kernel) rfl dX5_find_103 ?_
                refine lv_bipush (v := 10) hx hb dX5_find_106 (by decide) ?_
                refine xw_ti (y := (nI 10)) (by decide) ?_
                refine lv_aload_n hx hb dX5_find_108 rfl (lv_at hl 1 rfl) ?_
                refine xw_get C hw hC.o (ci := 4) rfl iX5_find_X5 15 (by decide) (by decide +kernel) rfl dX5_find_109 ?_
                refine lv_iload hx hb dX5_find_112 (lv_at hl 0 rfl) ?_
                refine xw_ialdN C hw hC.rr (show k < 9 by omega) (by decide) dX5_find_114 ?_
                refine xw_ti (y := (nI e)) ((congrArg xeo1 hro).trans rfl) ?_
                refine lv_imul hx hb dX5_find_115 ?_
                refine xw_ti (y := (nI (10 * e))) (pk_mul _ _) ?_
                refine lv_bipush (v := 9) hx hb dX5_find_116 (by decide) ?_
                refine xw_ti (y := (nI 9)) (by decide) ?_
                refine lv_iadd hx hb dX5_find_118 ?_
                refine xw_ti (y := (nI (10 * e + 9))) (nI_add _ _) ?_
                refine xw_laldN C hw (hC.t e11) (show 10 * e + 9 < 640 by omega) (by decide) dX5_find_119 ?_
                refine xw_tl (y := (xJ (M e 9))) (congrArg xJ ((xfl_at _ (show e < 64 by omega) (show 9 < 10 by omega)))) ?_
                refine xw_lastN C hw hS (hC.r 0 (by decide) e0) (show k < 64 by omega) (by decide) dX5_find_120 (fun H locs hw hS => ?_)
                rw [xrowJ_up] at hw
                have hC := hC.set (i := 0) (by decide) (show xlc 0 = 64 by decide) (f := va_up (xYm M ro3 k) k (M e 9)) (xsup_up (hC.rs 0 (by decide) e0) (by omega))
                obtain ⟨lr31, hlr⟩ : ∃ zz9, zz9 = va_up lr5 (0) (va_up (xYm M ro3 k) k (M e 9)) := ⟨_, rfl⟩
                rw [← hlr] at hC
                have e11 : lr31 11 = xfl M := (congrFun hlr _).trans ((va_up_ne _ _ (by decide)).trans e11)
                have e0 : lr31 0 = va_up (xYm M ro3 k) k (M e 9) := (congrFun hlr _).trans (va_up_self _ _ _)
                refine lv_iinc (v := (nI (k + 1))) (lv' := [(4, .int (nI (k + 1))), (0, .ref mo), (1, .int (nI c1)), (2, .int (nI c2)), (3, .int (nI d9))]) hx hb dX5_find_121 hl (k := 0) rfl (x_inc k) (by decide) rfl (fun ls hl => ?_)
                refine lv_goto (tgt := 75) hx hb dX5_find_124 (by decide) ?_
                exact ih (k + 1) _ lr31 ls _ _ (by omega) hC e11 (by rw [e0, ← xYm_s, hro]) hw hS (lv_sub hl [0, 1, 2, 3, 4] rfl)
          exact loop (d9 + 1) 0 _ lr11 ls _ _ (by omega) hC e11 (by rw [xYm_0]; exact e0) hw hS (lv_sub hl [0, 1, 2, 3, 4] rfl)
        · skip
          refine lv_aload_n hx hb dX5_find_56 rfl (lv_at hl 0 rfl) ?_
          refine xw_get C hw hC.o (ci := 4) rfl iX5_find_X5 19 (by decide) (by decide +kernel) rfl dX5_find_57 ?_
          refine lv_if_ne (tgt := 65) hx hb dX5_find_60 (by decide) (fun hc => absurd (rfl) hc) (fun _ => ?_)
          refine lv_iconst (v := (-1)) hx hb dX5_find_63 (by decide) ?_
          exact xw_iret C hw hS (Nat.le_of_ble_eq_true rfl) (Nat.le_of_ble_eq_true rfl) (Or.inr (Or.inr (Or.inr (Or.inr ⟨c1, c2, d9, hc1, hc2, rfl, rfl, hn1, hn2, hdd, rfl, hc, Or.inl ⟨rfl, fun Y hY => xRd_no hRd (by omega) hn9 hr9 hz9 Y (xSol_cg (fun k hk i hi => (hMc k (by omega) i hi).symm) (fun i hi => (hMt i hi).symm) hY), _, _, _, hC⟩⟩)))) dX5_find_64
      · skip
        have hc := (nI_eq (by omega) (by decide)).mp hc
        refine lv_aload_n hx hb dX5_find_38 rfl (lv_at hl 0 rfl) ?_
        refine lv_iconst (v := 4) hx hb dX5_find_39 (by decide) ?_
        refine xw_ci (xw_V (n := 1) (rest := []) C hw (kX5_raise l G B _ mo la ia rq 0 mn im lr1 ro1 me1 wr hC 4) gX5_find_X5_raise rfl rfl rfl (by decide +kernel) ⟨Nat.le_of_ble_eq_true rfl, Nat.le_of_ble_eq_true rfl⟩ hC.o rfl rfl hl.1 rfl (Nat.le_of_ble_eq_true rfl) dX5_find_40 ⟨Nat.le_of_ble_eq_true rfl, Nat.le_of_ble_eq_true rfl⟩ hS) hS (fun ru u H locs hp hw hS => ?_)
        obtain ⟨hr, hu⟩ := hp
        rw [hu] at hw
        refine xw_ti (y := 0) (hr) ?_
        have hC := hC.setO 4 mn me1 hC.m50
        exact xw_iret C hw hS (Nat.le_of_ble_eq_true rfl) (Nat.le_of_ble_eq_true rfl) (Or.inr (Or.inr (Or.inr (Or.inl ⟨rfl, ⟨c1, c2, hc1, hc2, rfl, rfl, hn1, hn2⟩, ⟨d9, hdd, rfl⟩, by omega, _, _, _, hC⟩)))) dX5_find_43
    · skip
      refine xw_ti (y := 0) (hz) ?_
      refine lv_if_ne (tgt := 29) hx hb dX5_find_20 (by decide) (fun hc => absurd (rfl) hc) (fun _ => ?_)
      refine lv_aload_n hx hb dX5_find_23 rfl (lv_at hl 0 rfl) ?_
      refine lv_iconst (v := 3) hx hb dX5_find_24 (by decide) ?_
      refine xw_ci (xw_V (n := 1) (rest := []) C hw (kX5_raise l G B _ mo la ia rq 0 mn im lr1 ro1 me1 wr hC 3) gX5_find_X5_raise rfl rfl rfl (by decide +kernel) ⟨Nat.le_of_ble_eq_true rfl, Nat.le_of_ble_eq_true rfl⟩ hC.o rfl rfl hl.1 rfl (Nat.le_of_ble_eq_true rfl) dX5_find_25 ⟨Nat.le_of_ble_eq_true rfl, Nat.le_of_ble_eq_true rfl⟩ hS) hS (fun ru u H locs hp hw hS => ?_)
      obtain ⟨hr, hu⟩ := hp
      rw [hu] at hw
      refine xw_ti (y := 0) (hr) ?_
      have hC := hC.setO 3 mn me1 hC.m50
      exact xw_iret C hw hS (Nat.le_of_ble_eq_true rfl) (Nat.le_of_ble_eq_true rfl) (Or.inr (Or.inr (Or.inl ⟨rfl, ⟨c1, c2, hc1, hc2, rfl, rfl, hn1, hn2⟩, hin, _, _, _, hC⟩))) dX5_find_28
