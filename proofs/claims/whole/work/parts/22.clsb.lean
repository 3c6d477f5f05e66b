/-! ===== Fraction, and CertificateSums: what refuses and keeps (laid by wip/whole/m_clsb.py) ===== -/
abbrev rmX1_init : Room := { frames := 4, cells := 4, slots := 132, locals := 87 }
theorem iX1_init_X1 : ∀ w ∈ wsX10, w ∈ wsX1_init := by decide +kernel
theorem iX1_init_X3 : ∀ w ∈ wsX30, w ∈ wsX1_init := by decide +kernel
set_option maxHeartbeats 4000000 in
set_option maxRecDepth 100000 in
theorem kX1_init (l : Launch) (G : xG) (B : Nat) (w : xM) (h ht rt nt : Nat) (T : xP) (hb0 rb nb : Nat) (Bt : xP) (hh : w h = some (.inr (1, [.null, .null]))) (pt : xPoly G w ht rt nt T) (pb : xPoly G w hb0 rb nb Bt) : Met l yX1_init wsX1_init rmX1_init (va_Pc [.ref h, .ref ht, .ref hb0] (xB G B w)) (va_Qv (fun u => ∃ p1 r1 p2 r2 : Nat, w p1 = none ∧ w r1 = none ∧ w p2 = none ∧ w r2 = none ∧ r1 ≠ p1 ∧ p2 ≠ p1 ∧ r2 ≠ p1 ∧ p2 ≠ r1 ∧ r2 ≠ r1 ∧ r2 ≠ p2 ∧ u = xu (xset G (xset G w p1 r1 (xlen T nt) T) p2 r2 (xlen Bt nb) Bt) h (.inr (1, [.ref p1, .ref p2]))) (xE G B) (xA B)) 4 132 (xA B) := by
  refine xw_start (own := RX1) (mn := "<init>") (cc := cX1_init) (nL := 3) (rt := none) (by decide) rfl rfl rfl (Nat.le_of_ble_eq_true rfl) ?_
  intro p ev s m below meth cd ls C hl hw hS
  obtain ⟨hx, hb, -, -, -, hts, -, -, -, -⟩ := id C
  have hl : lv_has ls 3 [(0, .ref h), (1, .ref ht), (2, .ref hb0)] := hl
  refine lv_aload_n hx hb dX1_init_0 rfl (lv_at hl 0 rfl) ?_
  refine xw_obj C hl.1 (by decide +kernel) (by decide +kernel) (by decide +kernel) (Nat.le_of_ble_eq_true rfl) (Nat.le_of_ble_eq_true rfl) dX1_init_1 ?_
  refine lv_aload_n hx hb dX1_init_4 rfl (lv_at hl 0 rfl) ?_
  refine xw_new C hw hS (ci := 2) rfl iX1_init_X3 tyX3 tyX3_ok (by decide +kernel) (by decide +kernel) (by decide +kernel) (fs := [.null, .int 0]) (fun j hj => by rcases (show j = 0 ∨ j = 1 by omega) with rfl | rfl <;> rfl) (Nat.le_of_ble_eq_true rfl) (Nat.le_of_ble_eq_true rfl) dX1_init_5 (fun p1 H hp1 hw hS => ?_)
  have k1 := x_nn hh hp1
  refine lv_dup hx hb dX1_init_8 rfl ?_
  refine lv_aload_n hx hb dX1_init_9 rfl (lv_at hl 1 rfl) ?_
  refine xw_cv (xw_I (n := 1) (rest := [.ref p1, .ref h]) C hw (kX3_init_ l G B _ p1 ht rt nt T (xu_s _ _ _) (pt.xu hp1) (x_nn pt.1 hp1)) gX1_init_X3_init_ rfl rfl rfl (by decide +kernel) (by decide +kernel) (by decide +kernel) rfl (by decide +kernel) ⟨Nat.le_of_ble_eq_true rfl, Nat.le_of_ble_eq_true rfl⟩ rfl hl.1 rfl (Nat.le_of_ble_eq_true rfl) dX1_init_10 ⟨Nat.le_of_ble_eq_true rfl, Nat.le_of_ble_eq_true rfl⟩ hS) hS (fun u1 H locs hq hw hS => ?_)
  obtain ⟨r1, hr1, d1, hu⟩ := hq
  rw [hu, xset_x d1] at hw
  have wr1 : w r1 = none := by rw [xu_n _ _ d1] at hr1; exact hr1
  have k2 := x_nn hh wr1
  have hh1 : xset G w p1 r1 (xlen T nt) T h = some (.inr (1, [.null, .null])) := (xset_o k1 k2).trans hh
  refine xw_putF C hw hS hh1 (ci := 1) rfl iX1_init_X1 tyX1 tyX1_ok nmX1 0 (by decide) (by decide +kernel) rfl rfl rfl (ty := (.object "CertificateSums$Polynomial")) (by decide +kernel) rfl rfl (Nat.le_of_ble_eq_true rfl) dX1_init_13 (fun H locs hw hS => ?_)
  have hw : xW G B (xu (xset G w p1 r1 (xlen T nt) T) h (.inr (1, [.ref p1, .null]))) H := hw
  refine lv_aload_n hx hb dX1_init_16 rfl (lv_at hl 0 rfl) ?_
  refine xw_new C hw hS (ci := 2) rfl iX1_init_X3 tyX3 tyX3_ok (by decide +kernel) (by decide +kernel) (by decide +kernel) (fs := [.null, .int 0]) (fun j hj => by rcases (show j = 0 ∨ j = 1 by omega) with rfl | rfl <;> rfl) (Nat.le_of_ble_eq_true rfl) (Nat.le_of_ble_eq_true rfl) dX1_init_17 (fun p2 H hp2 hw hS => ?_)
  have e1 : p2 ≠ h := fun z => by rw [z, xu_s] at hp2; cases hp2
  have hp2a : xset G w p1 r1 (xlen T nt) T p2 = none := by rw [xu_n _ _ e1] at hp2; exact hp2
  have qp := xset_s (G := G) (w := w) d1 (xlen_sup pt.2.2.1) (Nat.le_trans (xlen_le _ _) pt.2.2.2)
  have e2 : p2 ≠ p1 := Ne.symm (x_nn qp.1 hp2a)
  have e3 : p2 ≠ r1 := Ne.symm (x_nn qp.2.1 hp2a)
  have wp2 : w p2 = none := by rw [xset_o e2 e3] at hp2a; exact hp2a
  have pb1 : xPoly G (xu (xset G w p1 r1 (xlen T nt) T) h (.inr (1, [.ref p1, .null]))) hb0 rb nb Bt := by
    have a := xset_n (G := G) (h := p1) (r := r1) (n := xlen T nt) (f := T) pb (x_nn pb.1 hp1) (x_nn pb.2.1 wr1) (x_nn pb.1 wr1) (x_nn pb.2.1 hp1)
    exact ⟨by rw [xu_n _ _ (x_ne pb.1 hh (fun z => by simp at z))]; exact a.1, by rw [xu_n _ _ (x_ne pb.2.1 hh (fun z => by simp at z))]; exact a.2.1, a.2.2⟩
  refine lv_dup hx hb dX1_init_20 rfl ?_
  refine lv_aload_n hx hb dX1_init_21 rfl (lv_at hl 2 rfl) ?_
  refine xw_cv (xw_I (n := 1) (rest := [.ref p2, .ref h]) C hw (kX3_init_ l G B _ p2 hb0 rb nb Bt (xu_s _ _ _) (pb1.xu hp2) (x_nn pb1.1 hp2)) gX1_init_X3_init_ rfl rfl rfl (by decide +kernel) (by decide +kernel) (by decide +kernel) rfl (by decide +kernel) ⟨Nat.le_of_ble_eq_true rfl, Nat.le_of_ble_eq_true rfl⟩ rfl hl.1 rfl (Nat.le_of_ble_eq_true rfl) dX1_init_22 ⟨Nat.le_of_ble_eq_true rfl, Nat.le_of_ble_eq_true rfl⟩ hS) hS (fun u1 H locs hq hw hS => ?_)
  obtain ⟨r2, hr2, d2, hu⟩ := hq
  rw [hu, xset_x d2] at hw
  have hr2a : xu (xset G w p1 r1 (xlen T nt) T) h (.inr (1, [.ref p1, .null])) r2 = none := by rw [xu_n _ _ d2] at hr2; exact hr2
  have f1 : r2 ≠ h := fun z => by rw [z, xu_s] at hr2a; cases hr2a
  have hr2b : xset G w p1 r1 (xlen T nt) T r2 = none := by rw [xu_n _ _ f1] at hr2a; exact hr2a
  have f2 : r2 ≠ p1 := Ne.symm (x_nn qp.1 hr2b)
  have f3 : r2 ≠ r1 := Ne.symm (x_nn qp.2.1 hr2b)
  have wr2 : w r2 = none := by rw [xset_o f2 f3] at hr2b; exact hr2b
  have hh2 : xset G (xu (xset G w p1 r1 (xlen T nt) T) h (.inr (1, [.ref p1, .null]))) p2 r2 (xlen Bt nb) Bt h = some (.inr (1, [.ref p1, .null])) := (xset_o (Ne.symm e1) (Ne.symm f1)).trans (xu_s _ _ _)
  refine xw_putF C hw hS hh2 (ci := 1) rfl iX1_init_X1 tyX1 tyX1_ok nmX1 1 (by decide) (by decide +kernel) rfl rfl rfl (ty := (.object "CertificateSums$Polynomial")) (by decide +kernel) rfl rfl (Nat.le_of_ble_eq_true rfl) dX1_init_25 (fun H locs hw hS => ?_)
  have hw : xW G B (xu (xset G (xset G w p1 r1 (xlen T nt) T) p2 r2 (xlen Bt nb) Bt) h (.inr (1, [.ref p1, .ref p2]))) H := by rw [xset_xc e1 f1, xu_u] at hw; exact hw
  exact xw_vret C hw hS (Nat.le_of_ble_eq_true rfl) (Nat.le_of_ble_eq_true rfl) (⟨p1, r1, p2, r2, hp1, wr1, wp2, wr2, d1, e2, f2, e3, f3, d2, rfl⟩) dX1_init_28

abbrev rmX4_known : Room := { frames := 6, cells := 1, slots := 6, locals := 82 }
theorem iX4_known_X4 : ∀ w ∈ wsX40, w ∈ wsX4_known := by decide +kernel
set_option maxHeartbeats 4000000 in
set_option maxRecDepth 100000 in
theorem kX4_known (l : Launch) (hl9 : l.stackTraces = false) (G : xG) (B : Nat) (w : xM) (pa ra cp fr ad : Nat → Nat) (md : Nat) (ps : Nat → xP) (eo : Nat → Option Nat) (tb : Nat → Bool) (wr : xM) (hC : xCL G w pa ra cp fr ad md ps eo tb wr) (x : Int32) : vx_Met l yX4_known wsX4_known rmX4_known (va_Pc [.ref (ad 0), .int x] (xBz G B w)) (xQr G B (fun r u => ∃ k, k < md ∧ x = nI k ∧ r = fr k ∧ u = w)) (xXC G B (fun E u => E = eI ∧ ¬ xIs md x ∧ u = w)) 1 6 (xA B) := by
  refine xx_start (own := RX4) (mn := "known") (cc := cX4_known) (nL := 3) (rt := (some (.object "CertificateSums$Fraction"))) (by decide) rfl rfl rfl (Nat.le_of_ble_eq_true rfl) ?_
  intro p ev s m below meth cd ls C hl hw hS hz hno
  obtain ⟨hx, hb, -, -, -, hts, -, -, -, -⟩ := id C
  have hl : lv_has ls 3 [(0, .ref (ad 0)), (1, .int x)] := hl
  have h50 := hC.m50
  obtain ⟨ff, hff, hff1, hff2⟩ := hC.ff
  refine lv_iload_n hx hb dX4_known_0 rfl (lv_at hl 1 rfl) ?_
  refine lv_if_lt (tgt := 22) hx hb dX4_known_1 (by decide) (fun hc => ?_) (fun hc => ?_)
  · skip
    refine lv_null hx hb dX4_known_22 ?_
    refine lv_astore_nN (lv' := [(2, .null), (0, .ref (ad 0)), (1, .int x)]) hx hb dX4_known_23 rfl hl (by decide) rfl (fun ls hl => ?_)
    refine lv_aload_nN hx hb dX4_known_24 rfl (lv_at hl 0 rfl) ?_
    refine lv_ifnonnullN hx hb dX4_known_25 ?_
    exact xx_throw C hno hl9 hz hw hS hl.1 (cls := eI) (by decide +kernel) (by decide +kernel) (by decide +kernel) (by decide +kernel) (is := 169) (text := (xTx.lookup 169).getD "") (by decide +kernel) (by decide +kernel) (by decide +kernel) (by decide +kernel) dX4_known_28 dX4_known_31 dX4_known_32 dX4_known_34 dX4_known_37 (Nat.le_of_ble_eq_true rfl) (Nat.le_of_ble_eq_true rfl) (Nat.le_of_ble_eq_true rfl) (Nat.le_of_ble_eq_true rfl) (Nat.le_of_ble_eq_true rfl) (Nat.le_of_ble_eq_true rfl) (⟨rfl, xIs_neg hc h50, rfl⟩)
  · skip
    obtain ⟨j, hj, rfl⟩ := nI_of hc
    refine lv_iload_n hx hb dX4_known_4 rfl (lv_at hl 1 rfl) ?_
    refine lv_aload_n hx hb dX4_known_5 rfl (lv_at hl 0 rfl) ?_
    refine xw_get C hw hC.x (ci := 3) rfl iX4_known_X4 2 (by decide) (by decide +kernel) rfl dX4_known_6 ?_
    refine xw_alen C hw 4 rfl hff (N := 50) rfl dX4_known_9 ?_
    refine xw_cge (tgt := 22) hx hb dX4_known_10 (by decide) hj (by decide) (fun hc2 => ?_) (fun hc2 => ?_)
    · skip
      refine lv_null hx hb dX4_known_22 ?_
      refine lv_astore_nN (lv' := [(2, .null), (0, .ref (ad 0)), (1, .int (nI j))]) hx hb dX4_known_23 rfl hl (by decide) rfl (fun ls hl => ?_)
      refine lv_aload_nN hx hb dX4_known_24 rfl (lv_at hl 0 rfl) ?_
      refine lv_ifnonnullN hx hb dX4_known_25 ?_
      exact xx_throw C hno hl9 hz hw hS hl.1 (cls := eI) (by decide +kernel) (by decide +kernel) (by decide +kernel) (by decide +kernel) (is := 169) (text := (xTx.lookup 169).getD "") (by decide +kernel) (by decide +kernel) (by decide +kernel) (by decide +kernel) dX4_known_28 dX4_known_31 dX4_known_32 dX4_known_34 dX4_known_37 (Nat.le_of_ble_eq_true rfl) (Nat.le_of_ble_eq_true rfl) (Nat.le_of_ble_eq_true rfl) (Nat.le_of_ble_eq_true rfl) (Nat.le_of_ble_eq_true rfl) (Nat.le_of_ble_eq_true rfl) (⟨rfl, xIs_big hj (by omega) h50, rfl⟩)
    · skip
      refine lv_aload_n hx hb dX4_known_13 rfl (lv_at hl 0 rfl) ?_
      refine xw_get C hw hC.x (ci := 3) rfl iX4_known_X4 2 (by decide) (by decide +kernel) rfl dX4_known_14 ?_
      refine lv_iload_n hx hb dX4_known_17 rfl (lv_at hl 1 rfl) ?_
      by_cases hjm : j < md
      · skip
        refine xw_aaldN C hw 4 rfl hff hc2 (by decide) (v := .ref (fr j)) (by rw [hff1 j hjm]; rfl) dX4_known_18 ?_
        refine lv_goto (tgt := 23) hx hb dX4_known_19 (by decide) ?_
        refine lv_astore_n (lv' := [(2, .ref (fr j)), (0, .ref (ad 0)), (1, .int (nI j))]) hx hb dX4_known_23 rfl hl (by decide) rfl (fun ls hl => ?_)
        refine lv_aload_n hx hb dX4_known_24 rfl (lv_at hl 0 rfl) ?_
        refine lv_ifnonnull (tgt := 38) hx hb dX4_known_25 (by decide) ?_
        refine lv_aload_n hx hb dX4_known_38 rfl (lv_at hl 0 rfl) ?_
        refine vx_ret ?_
        exact xw_aret C hw hS (Nat.le_of_ble_eq_true rfl) (Nat.le_of_ble_eq_true rfl) (⟨j, hjm, rfl, rfl, rfl⟩) dX4_known_39
      · skip
        refine xw_aaldN C hw 4 rfl hff hc2 (by decide) (v := .null) (by rw [hff2 j (by omega) hc2]; rfl) dX4_known_18 ?_
        refine lv_goto (tgt := 23) hx hb dX4_known_19 (by decide) ?_
        refine lv_astore_nN (lv' := [(2, .null), (0, .ref (ad 0)), (1, .int (nI j))]) hx hb dX4_known_23 rfl hl (by decide) rfl (fun ls hl => ?_)
        refine lv_aload_nN hx hb dX4_known_24 rfl (lv_at hl 0 rfl) ?_
        refine lv_ifnonnullN hx hb dX4_known_25 ?_
        exact xx_throw C hno hl9 hz hw hS hl.1 (cls := eI) (by decide +kernel) (by decide +kernel) (by decide +kernel) (by decide +kernel) (is := 169) (text := (xTx.lookup 169).getD "") (by decide +kernel) (by decide +kernel) (by decide +kernel) (by decide +kernel) dX4_known_28 dX4_known_31 dX4_known_32 dX4_known_34 dX4_known_37 (Nat.le_of_ble_eq_true rfl) (Nat.le_of_ble_eq_true rfl) (Nat.le_of_ble_eq_true rfl) (Nat.le_of_ble_eq_true rfl) (Nat.le_of_ble_eq_true rfl) (Nat.le_of_ble_eq_true rfl) (⟨rfl, xIs_big hj (by omega) h50, rfl⟩)

abbrev rmX4_refuseWhenFull : Room := { frames := 6, cells := 1, slots := 6, locals := 82 }
theorem iX4_refuseWhenFull_X4 : ∀ w ∈ wsX40, w ∈ wsX4_refuseWhenFull := by decide +kernel
set_option maxHeartbeats 4000000 in
set_option maxRecDepth 100000 in
theorem kX4_refuseWhenFull (l : Launch) (hl9 : l.stackTraces = false) (G : xG) (B : Nat) (w : xM) (pa ra cp fr ad : Nat → Nat) (md : Nat) (ps : Nat → xP) (eo : Nat → Option Nat) (tb : Nat → Bool) (wr : xM) (hC : xCL G w pa ra cp fr ad md ps eo tb wr) : vx_Met l yX4_refuseWhenFull wsX4_refuseWhenFull rmX4_refuseWhenFull (va_Pc [.ref (ad 0)] (xBz G B w)) (va_Qv (fun u => md < 50 ∧ u = w) (xE G B) (xA B)) (xXC G B (fun E u => E = eS ∧ ¬ md < 50 ∧ u = w)) 1 6 (xA B) := by
  refine xx_start (own := RX4) (mn := "refuseWhenFull") (cc := cX4_refuseWhenFull) (nL := 1) (rt := none) (by decide) rfl rfl rfl (Nat.le_of_ble_eq_true rfl) ?_
  intro p ev s m below meth cd ls C hl hw hS hz hno
  obtain ⟨hx, hb, -, -, -, hts, -, -, -, -⟩ := id C
  have hl : lv_has ls 1 [(0, .ref (ad 0))] := hl
  have h50 := hC.m50
  obtain ⟨ff, hff, hff1, hff2⟩ := hC.ff
  refine lv_aload_n hx hb dX4_refuseWhenFull_0 rfl (lv_at hl 0 rfl) ?_
  refine xw_get C hw hC.x (ci := 3) rfl iX4_refuseWhenFull_X4 3 (by decide) (by decide +kernel) rfl dX4_refuseWhenFull_1 ?_
  refine lv_if_lt (tgt := 19) hx hb dX4_refuseWhenFull_4 (by decide) (fun hc => absurd hc (nI_pos (by omega))) (fun _ => ?_)
  refine lv_aload_n hx hb dX4_refuseWhenFull_7 rfl (lv_at hl 0 rfl) ?_
  refine xw_get C hw hC.x (ci := 3) rfl iX4_refuseWhenFull_X4 3 (by decide) (by decide +kernel) rfl dX4_refuseWhenFull_8 ?_
  refine lv_aload_n hx hb dX4_refuseWhenFull_11 rfl (lv_at hl 0 rfl) ?_
  refine xw_get C hw hC.x (ci := 3) rfl iX4_refuseWhenFull_X4 2 (by decide) (by decide +kernel) rfl dX4_refuseWhenFull_12 ?_
  refine xw_alen C hw 4 rfl hff (N := 50) rfl dX4_refuseWhenFull_15 ?_
  refine xw_clt (tgt := 29) hx hb dX4_refuseWhenFull_16 (by decide) (by omega) (by decide) (fun hc => ?_) (fun hc => ?_)
  · skip
    refine vx_ret ?_
    exact xw_vret C hw hS (Nat.le_of_ble_eq_true rfl) (Nat.le_of_ble_eq_true rfl) (⟨hc, rfl⟩) dX4_refuseWhenFull_29
  · skip
    exact xx_throw C hno hl9 hz hw hS hl.1 (cls := eS) (by decide +kernel) (by decide +kernel) (by decide +kernel) (by decide +kernel) (is := 174) (text := (xTx.lookup 174).getD "") (by decide +kernel) (by decide +kernel) (by decide +kernel) (by decide +kernel) dX4_refuseWhenFull_19 dX4_refuseWhenFull_22 dX4_refuseWhenFull_23 dX4_refuseWhenFull_25 dX4_refuseWhenFull_28 (Nat.le_of_ble_eq_true rfl) (Nat.le_of_ble_eq_true rfl) (Nat.le_of_ble_eq_true rfl) (Nat.le_of_ble_eq_true rfl) (Nat.le_of_ble_eq_true rfl) (Nat.le_of_ble_eq_true rfl) (⟨rfl, by omega, rfl⟩)

abbrev rmX4_refuseZeroRatioBottom : Room := { frames := 6, cells := 1, slots := 6, locals := 82 }
theorem iX4_refuseZeroRatioBottom_X4 : ∀ w ∈ wsX40, w ∈ wsX4_refuseZeroRatioBottom := by decide +kernel
set_option maxHeartbeats 4000000 in
set_option maxRecDepth 100000 in
theorem kX4_refuseZeroRatioBottom (l : Launch) (hl9 : l.stackTraces = false) (G : xG) (B : Nat) (w : xM) (pa ra cp fr ad : Nat → Nat) (md : Nat) (ps : Nat → xP) (eo : Nat → Option Nat) (tb : Nat → Bool) (wr : xM) (hC : xCL G w pa ra cp fr ad md ps eo tb wr) : vx_Met l yX4_refuseZeroRatioBottom wsX4_refuseZeroRatioBottom rmX4_refuseZeroRatioBottom (va_Pc [.ref (ad 0)] (xBz G B w)) (va_Qv (fun u => xlen (ps 1) 64 ≠ 0 ∧ u = w) (xE G B) (xA B)) (xXC G B (fun E u => E = eA ∧ xlen (ps 1) 64 = 0 ∧ u = w)) 1 6 (xA B) := by
  refine xx_start (own := RX4) (mn := "refuseZeroRatioBottom") (cc := cX4_refuseZeroRatioBottom) (nL := 1) (rt := none) (by decide) rfl rfl rfl (Nat.le_of_ble_eq_true rfl) ?_
  intro p ev s m below meth cd ls C hl hw hS hz hno
  obtain ⟨hx, hb, -, -, -, hts, -, -, -, -⟩ := id C
  have hl : lv_has ls 1 [(0, .ref (ad 0))] := hl
  refine lv_aload_n hx hb dX4_refuseZeroRatioBottom_0 rfl (lv_at hl 0 rfl) ?_
  refine xw_get C hw hC.x (ci := 3) rfl iX4_refuseZeroRatioBottom_X4 1 (by decide) (by decide +kernel) rfl dX4_refuseZeroRatioBottom_1 ?_
  refine xw_ci (xw_V (n := 0) (rest := []) C hw (kX3_isZero l G B w (pa 1) (ra 1) (cp 1) (ps 1) (hC.p 1 (by omega))) gX4_refuseZeroRatioBottom_X3_isZero rfl rfl rfl (by decide +kernel) ⟨Nat.le_of_ble_eq_true rfl, Nat.le_of_ble_eq_true rfl⟩ (hC.p 1 (by omega)).1 rfl rfl hl.1 rfl (Nat.le_of_ble_eq_true rfl) dX4_refuseZeroRatioBottom_4 ⟨Nat.le_of_ble_eq_true rfl, Nat.le_of_ble_eq_true rfl⟩ hS) hS (fun rq q H locs hq hw hS => ?_)
  obtain ⟨hq, hu⟩ := hq
  rw [hu] at hw
  rw [← xz64 hC (show 1 < 21 + 2 * md by omega)] at hq
  rcases hq with ⟨hq, hzz⟩ | ⟨hq, hzz⟩
  · skip
    refine xw_ti (y := 1) (hq) ?_
    refine lv_if_eq (tgt := 20) hx hb dX4_refuseZeroRatioBottom_7 (by decide) (fun hc => absurd hc (by decide)) (fun _ => ?_)
    exact xx_throw C hno hl9 hz hw hS hl.1 (cls := eA) (by decide +kernel) (by decide +kernel) (by decide +kernel) (by decide +kernel) (is := 177) (text := (xTx.lookup 177).getD "") (by decide +kernel) (by decide +kernel) (by decide +kernel) (by decide +kernel) dX4_refuseZeroRatioBottom_10 dX4_refuseZeroRatioBottom_13 dX4_refuseZeroRatioBottom_14 dX4_refuseZeroRatioBottom_16 dX4_refuseZeroRatioBottom_19 (Nat.le_of_ble_eq_true rfl) (Nat.le_of_ble_eq_true rfl) (Nat.le_of_ble_eq_true rfl) (Nat.le_of_ble_eq_true rfl) (Nat.le_of_ble_eq_true rfl) (Nat.le_of_ble_eq_true rfl) (⟨rfl, hzz, rfl⟩)
  · skip
    refine xw_ti (y := 0) (hq) ?_
    refine lv_if_eq (tgt := 20) hx hb dX4_refuseZeroRatioBottom_7 (by decide) (fun _ => ?_) (fun hc => absurd (rfl) hc)
    refine vx_ret ?_
    exact xw_vret C hw hS (Nat.le_of_ble_eq_true rfl) (Nat.le_of_ble_eq_true rfl) (⟨hzz, rfl⟩) dX4_refuseZeroRatioBottom_20

abbrev rmX4_refuseZeroDivisors : Room := { frames := 7, cells := 2, slots := 12, locals := 102 }
theorem iX4_refuseZeroDivisors_X1 : ∀ w ∈ wsX10, w ∈ wsX4_refuseZeroDivisors := by decide +kernel
set_option maxHeartbeats 4000000 in
set_option maxRecDepth 100000 in
theorem kX4_refuseZeroDivisors (l : Launch) (hl9 : l.stackTraces = false) (G : xG) (B : Nat) (w : xM) (pa ra cp fr ad : Nat → Nat) (md : Nat) (ps : Nat → xP) (eo : Nat → Option Nat) (tb : Nat → Bool) (wr : xM) (hC : xCL G w pa ra cp fr ad md ps eo tb wr) (k : Nat) (hk : k < md) : vx_Met l yX4_refuseZeroDivisors wsX4_refuseZeroDivisors rmX4_refuseZeroDivisors (va_Pc [.ref (ad 0), .ref (fr k)] (xBz G B w)) (va_Qv (fun u => xlen (ps 1) 64 ≠ 0 ∧ xlen (ps (21 + 2 * k)) 64 ≠ 0 ∧ u = w) (xE G B) (xA B)) (xXC G B (fun E u => E = eA ∧ (xlen (ps 1) 64 = 0 ∨ xlen (ps (21 + 2 * k)) 64 = 0) ∧ u = w)) 2 12 (xA B) := by
  refine xx_start (own := RX4) (mn := "refuseZeroDivisors") (cc := cX4_refuseZeroDivisors) (nL := 2) (rt := none) (by decide) rfl rfl rfl (Nat.le_of_ble_eq_true rfl) ?_
  intro p ev s m below meth cd ls C hl hw hS hz hno
  obtain ⟨hx, hb, -, -, -, hts, -, -, -, -⟩ := id C
  have hl : lv_has ls 2 [(0, .ref (ad 0)), (1, .ref (fr k))] := hl
  refine lv_aload_n hx hb dX4_refuseZeroDivisors_0 rfl (lv_at hl 0 rfl) ?_
  refine xx_cv C hno (xx_V (n := 0) (rest := []) C hw hz (kX4_refuseZeroRatioBottom l hl9 G B w pa ra cp fr ad md ps eo tb wr hC) gX4_refuseZeroDivisors_X4_refuseZeroRatioBottom rfl rfl rfl (by decide +kernel) ⟨Nat.le_of_ble_eq_true rfl, Nat.le_of_ble_eq_true rfl⟩ hC.x rfl rfl hl.1 rfl (Nat.le_of_ble_eq_true rfl) dX4_refuseZeroDivisors_1 ⟨Nat.le_of_ble_eq_true rfl, Nat.le_of_ble_eq_true rfl⟩ hS) hS (Nat.le_of_ble_eq_true rfl) (Nat.le_of_ble_eq_true rfl) (fun E u h => ⟨h.1, Or.inl h.2.1, h.2.2⟩) (fun u H locs hq hw hS => ?_)
  obtain ⟨h1, hu⟩ := hq
  rw [hu] at hw
  refine lv_aload_n hx hb dX4_refuseZeroDivisors_4 rfl (lv_at hl 1 rfl) ?_
  refine xw_get C hw (hC.fo k hk) (ci := 1) rfl iX4_refuseZeroDivisors_X1 0 (by decide) (by decide +kernel) rfl dX4_refuseZeroDivisors_5 ?_
  refine xw_ci (xw_V (n := 0) (rest := []) C hw (kX3_isZero l G B w (pa (21 + 2 * k)) (ra (21 + 2 * k)) (cp (21 + 2 * k)) (ps (21 + 2 * k)) (hC.p (21 + 2 * k) (by omega))) gX4_refuseZeroDivisors_X3_isZero rfl rfl rfl (by decide +kernel) ⟨Nat.le_of_ble_eq_true rfl, Nat.le_of_ble_eq_true rfl⟩ (hC.p (21 + 2 * k) (by omega)).1 rfl rfl hl.1 rfl (Nat.le_of_ble_eq_true rfl) dX4_refuseZeroDivisors_8 ⟨Nat.le_of_ble_eq_true rfl, Nat.le_of_ble_eq_true rfl⟩ hS) hS (fun rq q H locs hq hw hS => ?_)
  obtain ⟨hq, hu⟩ := hq
  rw [hu] at hw
  rw [← xz64 hC (show 21 + 2 * k < 21 + 2 * md by omega)] at hq
  rcases hq with ⟨hq, hzz⟩ | ⟨hq, hzz⟩
  · skip
    refine xw_ti (y := 1) (hq) ?_
    refine lv_if_eq (tgt := 24) hx hb dX4_refuseZeroDivisors_11 (by decide) (fun hc => absurd hc (by decide)) (fun _ => ?_)
    exact xx_throw C hno hl9 hz hw hS hl.1 (cls := eA) (by decide +kernel) (by decide +kernel) (by decide +kernel) (by decide +kernel) (is := 179) (text := (xTx.lookup 179).getD "") (by decide +kernel) (by decide +kernel) (by decide +kernel) (by decide +kernel) dX4_refuseZeroDivisors_14 dX4_refuseZeroDivisors_17 dX4_refuseZeroDivisors_18 dX4_refuseZeroDivisors_20 dX4_refuseZeroDivisors_23 (Nat.le_of_ble_eq_true rfl) (Nat.le_of_ble_eq_true rfl) (Nat.le_of_ble_eq_true rfl) (Nat.le_of_ble_eq_true rfl) (Nat.le_of_ble_eq_true rfl) (Nat.le_of_ble_eq_true rfl) (⟨rfl, Or.inr hzz, rfl⟩)
  · skip
    refine xw_ti (y := 0) (hq) ?_
    refine lv_if_eq (tgt := 24) hx hb dX4_refuseZeroDivisors_11 (by decide) (fun _ => ?_) (fun hc => absurd (rfl) hc)
    refine vx_ret ?_
    exact xw_vret C hw hS (Nat.le_of_ble_eq_true rfl) (Nat.le_of_ble_eq_true rfl) (⟨h1, hzz, rfl⟩) dX4_refuseZeroDivisors_24

abbrev rmX4_refuseWrongBound : Room := { frames := 6, cells := 1, slots := 6, locals := 82 }
set_option maxHeartbeats 4000000 in
set_option maxRecDepth 100000 in
theorem kX4_refuseWrongBound (l : Launch) (hl9 : l.stackTraces = false) (G : xG) (B : Nat) (w : xM) (x : Int32) : vx_Met l yX4_refuseWrongBound wsX4_refuseWrongBound rmX4_refuseWrongBound (va_Pc [.int x] (xBz G B w)) (va_Qv (fun u => xIs 9 x ∧ u = w) (xE G B) (xA B)) (xXC G B (fun E u => E = eG ∧ ¬ xIs 9 x ∧ u = w)) 1 6 (xA B) := by
  refine xx_start (own := RX4) (mn := "refuseWrongBound") (cc := cX4_refuseWrongBound) (nL := 1) (rt := none) (by decide) rfl rfl rfl (Nat.le_of_ble_eq_true rfl) ?_
  intro p ev s m below meth cd ls C hl hw hS hz hno
  obtain ⟨hx, hb, -, -, -, hts, -, -, -, -⟩ := id C
  have hl : lv_has ls 1 [(0, .int x)] := hl
  refine lv_iload_n hx hb dX4_refuseWrongBound_0 rfl (lv_at hl 0 rfl) ?_
  refine lv_if_lt (tgt := 10) hx hb dX4_refuseWrongBound_1 (by decide) (fun hc => ?_) (fun hc => ?_)
  · skip
    exact xx_throw C hno hl9 hz hw hS hl.1 (cls := eG) (by decide +kernel) (by decide +kernel) (by decide +kernel) (by decide +kernel) (is := 181) (text := (xTx.lookup 181).getD "") (by decide +kernel) (by decide +kernel) (by decide +kernel) (by decide +kernel) dX4_refuseWrongBound_10 dX4_refuseWrongBound_13 dX4_refuseWrongBound_14 dX4_refuseWrongBound_16 dX4_refuseWrongBound_19 (Nat.le_of_ble_eq_true rfl) (Nat.le_of_ble_eq_true rfl) (Nat.le_of_ble_eq_true rfl) (Nat.le_of_ble_eq_true rfl) (Nat.le_of_ble_eq_true rfl) (Nat.le_of_ble_eq_true rfl) (⟨rfl, xIs_neg hc (by decide), rfl⟩)
  · skip
    obtain ⟨j, hj, rfl⟩ := nI_of hc
    refine lv_iload_n hx hb dX4_refuseWrongBound_4 rfl (lv_at hl 0 rfl) ?_
    refine lv_bipush (v := 8) hx hb dX4_refuseWrongBound_5 (by decide) ?_
    refine xw_ti (y := (nI 8)) (by decide) ?_
    refine xw_cle (tgt := 20) hx hb dX4_refuseWrongBound_7 (by decide) hj (by decide) (fun hc2 => ?_) (fun hc2 => ?_)
    · skip
      refine vx_ret ?_
      exact xw_vret C hw hS (Nat.le_of_ble_eq_true rfl) (Nat.le_of_ble_eq_true rfl) (⟨⟨j, by omega, rfl⟩, rfl⟩) dX4_refuseWrongBound_20
    · skip
      exact xx_throw C hno hl9 hz hw hS hl.1 (cls := eG) (by decide +kernel) (by decide +kernel) (by decide +kernel) (by decide +kernel) (is := 181) (text := (xTx.lookup 181).getD "") (by decide +kernel) (by decide +kernel) (by decide +kernel) (by decide +kernel) dX4_refuseWrongBound_10 dX4_refuseWrongBound_13 dX4_refuseWrongBound_14 dX4_refuseWrongBound_16 dX4_refuseWrongBound_19 (Nat.le_of_ble_eq_true rfl) (Nat.le_of_ble_eq_true rfl) (Nat.le_of_ble_eq_true rfl) (Nat.le_of_ble_eq_true rfl) (Nat.le_of_ble_eq_true rfl) (Nat.le_of_ble_eq_true rfl) (⟨rfl, xIs_big hj (by omega) (by decide), rfl⟩)

abbrev rmX4_keepResult : Room := { frames := 7, cells := 6, slots := 140, locals := 122 }
theorem iX4_keepResult_X1 : ∀ w ∈ wsX10, w ∈ wsX4_keepResult := by decide +kernel
theorem iX4_keepResult_X3 : ∀ w ∈ wsX30, w ∈ wsX4_keepResult := by decide +kernel
theorem iX4_keepResult_X4 : ∀ w ∈ wsX40, w ∈ wsX4_keepResult := by decide +kernel
set_option maxHeartbeats 4000000 in
set_option maxRecDepth 100000 in
theorem kX4_keepResult (l : Launch) (hl9 : l.stackTraces = false) (G : xG) (B : Nat) (w : xM) (pa ra cp fr ad : Nat → Nat) (md : Nat) (ps : Nat → xP) (eo : Nat → Option Nat) (tb : Nat → Bool) (wr : xM) (hC : xCL G w pa ra cp fr ad md ps eo tb wr) (t b : xP) (et : ps 2 = t) (eb : ps 3 = b) (hb0 : xlen b 64 ≠ 0) : vx_Met l yX4_keepResult wsX4_keepResult rmX4_keepResult (va_Pc [.ref (ad 0)] (xBz G B w)) (va_Qi (fun r u => xMk G ad md ps wr (t) (b) r u) (xE G B) (xA B)) (xXC G B (fun E u => xMkE G pa ra cp fr ad md ps wr (t) (b) E u)) 6 140 (xA B) := by
  refine xx_start (own := RX4) (mn := "keepResult") (cc := cX4_keepResult) (nL := 2) (rt := (some .int)) (by decide) rfl rfl rfl (Nat.le_of_ble_eq_true rfl) ?_
  intro p ev s m below meth cd ls C hl hw hS hz hno
  obtain ⟨hx, hb, -, -, -, hts, -, -, -, -⟩ := id C
  have hl : lv_has ls 2 [(0, .ref (ad 0))] := hl
  refine lv_aload_n hx hb dX4_keepResult_0 rfl (lv_at hl 0 rfl) ?_
  refine xx_cv C hno (xx_V (n := 0) (rest := []) C hw hz (kX4_refuseWhenFull l hl9 G B w pa ra cp fr ad md ps eo tb wr hC) gX4_keepResult_X4_refuseWhenFull rfl rfl rfl (by decide +kernel) ⟨Nat.le_of_ble_eq_true rfl, Nat.le_of_ble_eq_true rfl⟩ hC.x rfl rfl hl.1 rfl (Nat.le_of_ble_eq_true rfl) dX4_keepResult_1 ⟨Nat.le_of_ble_eq_true rfl, Nat.le_of_ble_eq_true rfl⟩ hS) hS (Nat.le_of_ble_eq_true rfl) (Nat.le_of_ble_eq_true rfl) (fun E u h => ⟨h.1, Or.inl h.2.1, by rw [h.2.2]; exact xKp.self hC⟩) (fun u H locs hq hw hS => ?_)
  obtain ⟨hmd, hu⟩ := hq
  rw [hu] at hw
  refine lv_aload_n hx hb dX4_keepResult_4 rfl (lv_at hl 0 rfl) ?_
  refine xw_cv (xw_V (n := 0) (rest := []) C hw (kX4_toLowestTerms l G B w pa ra cp fr ad md ps eo tb wr hC t b et eb hb0) gX4_keepResult_X4_toLowestTerms rfl rfl rfl (by decide +kernel) ⟨Nat.le_of_ble_eq_true rfl, Nat.le_of_ble_eq_true rfl⟩ hC.x rfl rfl hl.1 rfl (Nat.le_of_ble_eq_true rfl) dX4_keepResult_5 ⟨Nat.le_of_ble_eq_true rfl, Nat.le_of_ble_eq_true rfl⟩ hS) hS (fun u1 H locs hq hw hS => ?_)
  obtain ⟨q, hC, e2, e3, hkp⟩ := hq
  have p2 := hC.pw 2 (by omega) (by omega) e2
  have p3 := hC.pw 3 (by omega) (by omega) e3
  have l2 := xlen_le (xnT t b) 64
  have l3 := xlen_le (xnB t b) 64
  have hkE : xKp G pa ra cp fr ad md ps wr u1 := ⟨q, eo, tb, hC, fun i hi => hkp i (by omega)⟩
  refine lv_aload_n hx hb dX4_keepResult_8 rfl (lv_at hl 0 rfl) ?_
  refine xw_get C hw hC.x (ci := 3) rfl iX4_keepResult_X4 4 (by decide) (by decide +kernel) rfl dX4_keepResult_9 ?_
  refine xw_get C hw p2.1 (ci := 2) rfl iX4_keepResult_X3 1 (by decide) (by decide +kernel) rfl dX4_keepResult_12 ?_
  refine lv_bipush (v := 20) hx hb dX4_keepResult_15 (by decide) ?_
  refine xw_ti (y := (nI 20)) (by decide) ?_
  refine lv_icmp_gt (tgt := 32) hx hb dX4_keepResult_17 (by decide) (fun hc => ?_) (fun hc => ?_)
  · skip
    exact xx_throw C hno hl9 hz hw hS hl.1 (cls := eS) (by decide +kernel) (by decide +kernel) (by decide +kernel) (by decide +kernel) (is := 192) (text := (xTx.lookup 192).getD "") (by decide +kernel) (by decide +kernel) (by decide +kernel) (by decide +kernel) dX4_keepResult_32 dX4_keepResult_35 dX4_keepResult_36 dX4_keepResult_38 dX4_keepResult_41 (Nat.le_of_ble_eq_true rfl) (Nat.le_of_ble_eq_true rfl) (Nat.le_of_ble_eq_true rfl) (Nat.le_of_ble_eq_true rfl) (Nat.le_of_ble_eq_true rfl) (Nat.le_of_ble_eq_true rfl) (⟨rfl, Or.inr (Or.inl ((x_lt_hi (by omega) (by omega)).mp hc)), hkE⟩)
  · skip
    have hc : xlen (xnT t b) 64 ≤ 21 := Nat.not_lt.mp fun q => hc ((x_lt_hi (by omega) (by omega)).mpr q)
    refine lv_aload_n hx hb dX4_keepResult_20 rfl (lv_at hl 0 rfl) ?_
    refine xw_get C hw hC.x (ci := 3) rfl iX4_keepResult_X4 5 (by decide) (by decide +kernel) rfl dX4_keepResult_21 ?_
    refine xw_get C hw p3.1 (ci := 2) rfl iX4_keepResult_X3 1 (by decide) (by decide +kernel) rfl dX4_keepResult_24 ?_
    refine lv_bipush (v := 20) hx hb dX4_keepResult_27 (by decide) ?_
    refine xw_ti (y := (nI 20)) (by decide) ?_
    refine lv_icmp_le (tgt := 42) hx hb dX4_keepResult_29 (by decide) (fun hc2 => ?_) (fun hc2 => ?_)
    · skip
      have hc2 : xlen (xnB t b) 64 ≤ 21 := (x_ge_hi (by omega) (by omega)).mp hc2
      obtain ⟨ff, hff, hff1, hff2⟩ := hC.ff
      refine lv_aload_n hx hb dX4_keepResult_42 rfl (lv_at hl 0 rfl) ?_
      refine xw_get C hw hC.x (ci := 3) rfl iX4_keepResult_X4 3 (by decide) (by decide +kernel) rfl dX4_keepResult_43 ?_
      refine lv_istore_n (lv' := [(1, .int (nI md)), (0, .ref (ad 0))]) hx hb dX4_keepResult_46 rfl hl (by decide) rfl (fun ls hl => ?_)
      refine lv_aload_n hx hb dX4_keepResult_47 rfl (lv_at hl 1 rfl) ?_
      refine xw_get C hw hC.x (ci := 3) rfl iX4_keepResult_X4 2 (by decide) (by decide +kernel) rfl dX4_keepResult_48 ?_
      refine lv_iload_n hx hb dX4_keepResult_51 rfl (lv_at hl 0 rfl) ?_
      refine xw_new C hw hS (ci := 1) rfl iX4_keepResult_X1 tyX1 tyX1_ok (by decide +kernel) (by decide +kernel) (by decide +kernel) (fs := [.null, .null]) (fun j hj => by rcases (show j = 0 ∨ j = 1 by omega) with rfl | rfl <;> rfl) (Nat.le_of_ble_eq_true rfl) (Nat.le_of_ble_eq_true rfl) dX4_keepResult_52 (fun q0 H hq0 hw hS => ?_)
      have hx0 := x_nn hC.x hq0
      have hx1 := x_nn hff hq0
      refine lv_dup hx hb dX4_keepResult_55 rfl ?_
      refine lv_aload_n hx hb dX4_keepResult_56 rfl (lv_at hl 1 rfl) ?_
      refine xw_get C hw ((xu_n _ _ hx0).trans hC.x) (ci := 3) rfl iX4_keepResult_X4 4 (by decide) (by decide +kernel) rfl dX4_keepResult_57 ?_
      refine lv_aload_n hx hb dX4_keepResult_60 rfl (lv_at hl 1 rfl) ?_
      refine xw_get C hw ((xu_n _ _ hx0).trans hC.x) (ci := 3) rfl iX4_keepResult_X4 5 (by decide) (by decide +kernel) rfl dX4_keepResult_61 ?_
      refine xw_cv (xw_I (n := 2) (rest := [.ref q0, .int (nI md), .ref (ad 1)]) C hw (kX1_init l G B _ q0 (pa 2) (ra 2) 64 (xnT t b) (pa 3) (ra 3) 64 (xnB t b) (xu_s _ _ _) (p2.xu hq0) (p3.xu hq0)) gX4_keepResult_X1_init rfl rfl rfl (by decide +kernel) (by decide +kernel) (by decide +kernel) rfl (by decide +kernel) ⟨Nat.le_of_ble_eq_true rfl, Nat.le_of_ble_eq_true rfl⟩ rfl hl.1 rfl (Nat.le_of_ble_eq_true rfl) dX4_keepResult_64 ⟨Nat.le_of_ble_eq_true rfl, Nat.le_of_ble_eq_true rfl⟩ hS) hS (fun u2 H locs hq hw hS => ?_)
      obtain ⟨p1, r1, pb, rb, w1, w2, w3, w4, d5, d6, d7, d8, d9, d10, hu⟩ := hq
      have k1 : p1 ≠ q0 := fun z => by rw [z, xu_s] at w1; cases w1
      have k2 : r1 ≠ q0 := fun z => by rw [z, xu_s] at w2; cases w2
      have k3 : pb ≠ q0 := fun z => by rw [z, xu_s] at w3; cases w3
      have k4 : rb ≠ q0 := fun z => by rw [z, xu_s] at w4; cases w4
      rw [xu_n _ _ k1] at w1
      rw [xu_n _ _ k2] at w2
      rw [xu_n _ _ k3] at w3
      rw [xu_n _ _ k4] at w4
      rw [hu, xset_xc2 k1 k2 k3 k4, xu_u] at hw
      have y0 : (xu (xset G (xset G u1 p1 r1 (xlen (xnT t b) 64) (xnT t b)) pb rb (xlen (xnB t b) 64) (xnB t b)) q0 (.inr (1, [.ref p1, .ref pb]))) (ad 0) = some (.inr (3, [.ref (pa 0), .ref (pa 1), .ref (ad 1), .int (nI md), .ref (pa 2), .ref (pa 3), .ref (pa 4), .ref (pa 5), .ref (pa 6), .ref (ad 2)])) := by rw [xu_n _ _ hx0, xset_o (x_nn hC.x w3) (x_nn hC.x w4), xset_o (x_nn hC.x w1) (x_nn hC.x w2)]; exact hC.x
      have y1 : (xu (xset G (xset G u1 p1 r1 (xlen (xnT t b) 64) (xnT t b)) pb rb (xlen (xnB t b) 64) (xnB t b)) q0 (.inr (1, [.ref p1, .ref pb]))) (ad 1) = some (.inl (G.2 4, 50, xq ff)) := by rw [xu_n _ _ hx1, xset_o (x_nn hff w3) (x_nn hff w4), xset_o (x_nn hff w1) (x_nn hff w2)]; exact hff
      have a01 : ad 0 ≠ ad 1 := x_ne hC.x hff (fun z => by simp at z)
      refine xw_aastN C hw hS 4 1 (r := (RX1, TX1, 2)) rfl y1 (xu_s _ _ _) rfl hmd (by decide) dX4_keepResult_67 (fun H locs hw hS => ?_)
      have y2 : (xu (xu (xset G (xset G u1 p1 r1 (xlen (xnT t b) 64) (xnT t b)) pb rb (xlen (xnB t b) 64) (xnB t b)) q0 (.inr (1, [.ref p1, .ref pb]))) (ad 1) (.inl (G.2 4, 50, xq (va_up ff md (some q0))))) (ad 0) = some (.inr (3, [.ref (pa 0), .ref (pa 1), .ref (ad 1), .int (nI md), .ref (pa 2), .ref (pa 3), .ref (pa 4), .ref (pa 5), .ref (pa 6), .ref (ad 2)])) := (xu_n _ _ a01).trans y0
      refine lv_aload_n hx hb dX4_keepResult_68 rfl (lv_at hl 1 rfl) ?_
      refine lv_dup hx hb dX4_keepResult_69 rfl ?_
      refine xw_get C hw y2 (ci := 3) rfl iX4_keepResult_X4 3 (by decide) (by decide +kernel) rfl dX4_keepResult_70 ?_
      refine lv_iconst (v := 1) hx hb dX4_keepResult_73 (by decide) ?_
      refine lv_iadd hx hb dX4_keepResult_74 ?_
      refine xw_ti (y := (nI (md + 1))) (nI_1 md) ?_
      refine xw_put C hw hS y2 (ci := 3) rfl iX4_keepResult_X4 tyX4 tyX4_ok nmX4 3 (by decide) (by decide +kernel) rfl (ty := .int) (by decide +kernel) rfl rfl (Nat.le_of_ble_eq_true rfl) dX4_keepResult_75 (fun H locs hw hS => ?_)
      have hw : xW G B (xnew G u1 pa ad md ff q0 p1 r1 (xlen (xnT t b) 64) pb rb (xlen (xnB t b) 64) (xnT t b) (xnB t b)) H := hw
      have hN := hC.new hmd hff hq0 w1 w2 w3 w4 k1 k2 k3 k4 d5 d6 d7 d8 d9 d10 (xlen_sup p2.2.2.1) (xlen_sup p3.2.2.1) l2 l3
      refine lv_iload_n hx hb dX4_keepResult_78 rfl (lv_at hl 0 rfl) ?_
      refine vx_ret ?_
      exact xw_iret C hw hS (Nat.le_of_ble_eq_true rfl) (Nat.le_of_ble_eq_true rfl) (⟨rfl, hmd, hc, hc2, _, _, _, _, _, _, _, hN, fun i hi => by rw [va_up_ne _ _ (by omega), va_up_ne _ _ (by omega)]; exact hkp i (by omega), by rw [va_up_ne _ _ (by omega), va_up_self], va_up_self _ _ _⟩) dX4_keepResult_79
    · skip
      exact xx_throw C hno hl9 hz hw hS hl.1 (cls := eS) (by decide +kernel) (by decide +kernel) (by decide +kernel) (by decide +kernel) (is := 192) (text := (xTx.lookup 192).getD "") (by decide +kernel) (by decide +kernel) (by decide +kernel) (by decide +kernel) dX4_keepResult_32 dX4_keepResult_35 dX4_keepResult_36 dX4_keepResult_38 dX4_keepResult_41 (Nat.le_of_ble_eq_true rfl) (Nat.le_of_ble_eq_true rfl) (Nat.le_of_ble_eq_true rfl) (Nat.le_of_ble_eq_true rfl) (Nat.le_of_ble_eq_true rfl) (Nat.le_of_ble_eq_true rfl) (⟨rfl, Or.inr (Or.inr (Nat.lt_of_not_le fun q => hc2 ((x_ge_hi (by omega) (by omega)).mpr q))), hkE⟩)
