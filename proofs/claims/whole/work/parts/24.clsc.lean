/-! ===== CertificateSums: ratio to proves (laid by wip/whole/m_clsc.py) ===== -/
abbrev rmX4_ratio : Room := { frames := 6, cells := 12, slots := 200, locals := 82 }
theorem iX4_ratio_X4 : ∀ w ∈ wsX40, w ∈ wsX4_ratio := by decide +kernel
set_option maxHeartbeats 4000000 in
set_option maxRecDepth 100000 in
theorem kX4_ratio (l : Launch) (hl9 : l.stackTraces = false) (G : xG) (B : Nat) (w : xM) (pa ra cp fr ad : Nat → Nat) (md : Nat) (ps : Nat → xP) (eo : Nat → Option Nat) (tb : Nat → Bool) (wr : xM) (hC : xCL G w pa ra cp fr ad md ps eo tb wr) (z x : Int32) (v : Int64) : vx_Met l yX4_ratio wsX4_ratio rmX4_ratio (va_Pc [.ref (ad 0), .int z, .int x, .long v] (xBz G B w)) (va_Qi (fun r u => ∃ k, k < 4 ∧ x = nI k ∧ ((r = 1 ∧ ps (if z = 0 then 1 else 0) k ≠ xR v) ∨ (r = 0 ∧ ps (if z = 0 then 1 else 0) k = xR v)) ∧ xCL G u pa ra cp fr ad md (va_up ps (if z = 0 then 1 else 0) (va_up (ps (if z = 0 then 1 else 0)) k (xR v))) eo tb wr) (xE G B) (xA B)) (xXC G B (fun E u => E = eG ∧ ¬ xIs 4 x ∧ u = w)) 12 200 (xA B) := by
  refine xx_start (own := RX4) (mn := "ratio") (cc := cX4_ratio) (nL := 8) (rt := (some .boolean)) (by decide) rfl rfl rfl (Nat.le_of_ble_eq_true rfl) ?_
  intro p ev s m below meth cd ls C hl hw hS hz hno
  obtain ⟨hx, hb, -, -, -, hts, -, -, -, -⟩ := id C
  have hl : lv_has ls 8 [(0, .ref (ad 0)), (1, .int z), (2, .int x), (3, .long v)] := hl
  refine lv_iload_n hx hb dX4_ratio_0 rfl (lv_at hl 2 rfl) ?_
  refine lv_if_lt (tgt := 9) hx hb dX4_ratio_1 (by decide) (fun hc => ?_) (fun hc => ?_)
  · skip
    exact xx_throw C hno hl9 hz hw hS hl.1 (cls := eG) (by decide +kernel) (by decide +kernel) (by decide +kernel) (by decide +kernel) (is := 59) (text := (xTx.lookup 59).getD "") (by decide +kernel) (by decide +kernel) (by decide +kernel) (by decide +kernel) dX4_ratio_9 dX4_ratio_12 dX4_ratio_13 dX4_ratio_15 dX4_ratio_18 (Nat.le_of_ble_eq_true rfl) (Nat.le_of_ble_eq_true rfl) (Nat.le_of_ble_eq_true rfl) (Nat.le_of_ble_eq_true rfl) (Nat.le_of_ble_eq_true rfl) (Nat.le_of_ble_eq_true rfl) (⟨rfl, xIs_neg hc (by decide), rfl⟩)
  · skip
    obtain ⟨j, hj, rfl⟩ := nI_of hc
    refine lv_iload_n hx hb dX4_ratio_4 rfl (lv_at hl 2 rfl) ?_
    refine lv_iconst (v := 3) hx hb dX4_ratio_5 (by decide) ?_
    refine xw_ti (y := (nI 3)) (by decide) ?_
    refine xw_cle (tgt := 19) hx hb dX4_ratio_6 (by decide) hj (by decide) (fun hc2 => ?_) (fun hc2 => ?_)
    · skip
      have hj4 : j < 4 := by omega
      refine lv_iload_n hx hb dX4_ratio_19 rfl (lv_at hl 1 rfl) ?_
      refine lv_if_eq (tgt := 30) hx hb dX4_ratio_20 (by decide) (fun hz0 => ?_) (fun hz0 => ?_)
      · skip
        have hz1 : (if z = 0 then 1 else 0 : Nat) = 1 := if_pos hz0
        have pp : xPoly G w (pa 1) (ra 1) 4 (ps 1) := by have q := hC.p 1 (by omega); rw [hC.2.2.2.1.2.1] at q; exact q
        rw [hz1]
        refine lv_aload_n hx hb dX4_ratio_30 rfl (lv_at hl 0 rfl) ?_
        refine xw_get C hw hC.x (ci := 3) rfl iX4_ratio_X4 1 (by decide) (by decide +kernel) rfl dX4_ratio_31 ?_
        refine lv_astore (lv' := [(5, .ref (pa 1)), (0, .ref (ad 0)), (1, .int z), (2, .int (nI j)), (3, .long v)]) hx hb dX4_ratio_34 hl (by decide) rfl (fun ls hl => ?_)
        refine lv_lload_n hx hb dX4_ratio_36 rfl (lv_at hl 4 rfl) ?_
        refine xw_ci (xw_S (n := 1) (rest := []) C hw (kX2_reduced l G B _ v) gX4_ratio_X2_reduced rfl rfl rfl (by decide +kernel) ⟨Nat.le_of_ble_eq_true rfl, Nat.le_of_ble_eq_true rfl⟩ rfl hl.1 rfl (Nat.le_of_ble_eq_true rfl) dX4_ratio_37 ⟨Nat.le_of_ble_eq_true rfl, Nat.le_of_ble_eq_true rfl⟩ hS) hS (fun ru u H locs hp hw hS => ?_)
        obtain ⟨hr, hu⟩ := hp
        rw [hu] at hw
        refine xw_ti (y := (xI (xR v))) (hr) ?_
        refine lv_istore (lv' := [(6, .int (xI (xR v))), (5, .ref (pa 1)), (0, .ref (ad 0)), (1, .int z), (2, .int (nI j)), (3, .long v)]) hx hb dX4_ratio_40 hl (by decide) rfl (fun ls hl => ?_)
        refine lv_aload hx hb dX4_ratio_42 (lv_at hl 1 rfl) ?_
        refine lv_iload_n hx hb dX4_ratio_44 rfl (lv_at hl 4 rfl) ?_
        refine xw_ci (xw_V (n := 1) (rest := []) C hw (kX3_coefficient l G B _ (pa 1) (ra 1) 4 (ps 1) (nI j) pp) gX4_ratio_X3_coefficient rfl rfl rfl (by decide +kernel) ⟨Nat.le_of_ble_eq_true rfl, Nat.le_of_ble_eq_true rfl⟩ pp.1 rfl rfl hl.1 rfl (Nat.le_of_ble_eq_true rfl) dX4_ratio_45 ⟨Nat.le_of_ble_eq_true rfl, Nat.le_of_ble_eq_true rfl⟩ hS) hS (fun ru u H locs hp hw hS => ?_)
        obtain ⟨hr, hu⟩ := hp
        rw [hu] at hw
        refine xw_ti (y := (xI (ps 1 j))) (hr.trans (by rw [xcf_n _ (by omega)])) ?_
        refine lv_iload hx hb dX4_ratio_48 (lv_at hl 0 rfl) ?_
        refine lv_icmp_eq (tgt := 57) hx hb dX4_ratio_50 (by decide) (fun hc3 => ?_) (fun hc3 => ?_)
        · skip
          refine lv_iconst (v := 0) hx hb dX4_ratio_57 (by decide) ?_
          refine lv_istore (lv' := [(7, .int 0), (6, .int (xI (xR v))), (5, .ref (pa 1)), (0, .ref (ad 0)), (1, .int z), (2, .int (nI j)), (3, .long v)]) hx hb dX4_ratio_58 hl (by decide) rfl (fun ls hl => ?_)
          refine lv_aload hx hb dX4_ratio_60 (lv_at hl 2 rfl) ?_
          refine lv_iload_n hx hb dX4_ratio_62 rfl (lv_at hl 5 rfl) ?_
          refine lv_iload hx hb dX4_ratio_63 (lv_at hl 1 rfl) ?_
          refine xw_cv (xw_V (n := 2) (rest := []) C hw (kX3_put l G B _ (pa 1) (ra 1) 4 (ps 1) j (xR v) pp hj4) gX4_ratio_X3_put rfl rfl rfl (by decide +kernel) ⟨Nat.le_of_ble_eq_true rfl, Nat.le_of_ble_eq_true rfl⟩ pp.1 rfl rfl hl.1 rfl (Nat.le_of_ble_eq_true rfl) dX4_ratio_65 ⟨Nat.le_of_ble_eq_true rfl, Nat.le_of_ble_eq_true rfl⟩ hS) hS (fun u H locs hpp hw hS => ?_)
          rw [hpp] at hw
          have hC := hC.set (i := 1) (by omega) hC.2.2.2.1.2.1 (xsup_up (v := xR v) pp.2.2.1 hj4)
          refine lv_iload hx hb dX4_ratio_68 (lv_at hl 0 rfl) ?_
          refine vx_ret ?_
          exact xw_zret C hw hS (Nat.le_of_ble_eq_true rfl) (Nat.le_of_ble_eq_true rfl) (Or.inl rfl) (⟨j, hj4, rfl, Or.inr ⟨rfl, xI_inj hc3⟩, hC⟩) dX4_ratio_70
        · skip
          refine lv_iconst (v := 1) hx hb dX4_ratio_53 (by decide) ?_
          refine lv_goto (tgt := 58) hx hb dX4_ratio_54 (by decide) ?_
          refine lv_istore (lv' := [(7, .int 1), (6, .int (xI (xR v))), (5, .ref (pa 1)), (0, .ref (ad 0)), (1, .int z), (2, .int (nI j)), (3, .long v)]) hx hb dX4_ratio_58 hl (by decide) rfl (fun ls hl => ?_)
          refine lv_aload hx hb dX4_ratio_60 (lv_at hl 2 rfl) ?_
          refine lv_iload_n hx hb dX4_ratio_62 rfl (lv_at hl 5 rfl) ?_
          refine lv_iload hx hb dX4_ratio_63 (lv_at hl 1 rfl) ?_
          refine xw_cv (xw_V (n := 2) (rest := []) C hw (kX3_put l G B _ (pa 1) (ra 1) 4 (ps 1) j (xR v) pp hj4) gX4_ratio_X3_put rfl rfl rfl (by decide +kernel) ⟨Nat.le_of_ble_eq_true rfl, Nat.le_of_ble_eq_true rfl⟩ pp.1 rfl rfl hl.1 rfl (Nat.le_of_ble_eq_true rfl) dX4_ratio_65 ⟨Nat.le_of_ble_eq_true rfl, Nat.le_of_ble_eq_true rfl⟩ hS) hS (fun u H locs hpp hw hS => ?_)
          rw [hpp] at hw
          have hC := hC.set (i := 1) (by omega) hC.2.2.2.1.2.1 (xsup_up (v := xR v) pp.2.2.1 hj4)
          refine lv_iload hx hb dX4_ratio_68 (lv_at hl 0 rfl) ?_
          refine vx_ret ?_
          exact xw_zret C hw hS (Nat.le_of_ble_eq_true rfl) (Nat.le_of_ble_eq_true rfl) (Or.inr rfl) (⟨j, hj4, rfl, Or.inl ⟨rfl, fun q => hc3 (by rw [q])⟩, hC⟩) dX4_ratio_70
      · skip
        have hz1 : (if z = 0 then 1 else 0 : Nat) = 0 := if_neg hz0
        have pp : xPoly G w (pa 0) (ra 0) 4 (ps 0) := by have q := hC.p 0 (by omega); rw [hC.2.2.2.1.1] at q; exact q
        rw [hz1]
        refine lv_aload_n hx hb dX4_ratio_23 rfl (lv_at hl 0 rfl) ?_
        refine xw_get C hw hC.x (ci := 3) rfl iX4_ratio_X4 0 (by decide) (by decide +kernel) rfl dX4_ratio_24 ?_
        refine lv_goto (tgt := 34) hx hb dX4_ratio_27 (by decide) ?_
        refine lv_astore (lv' := [(5, .ref (pa 0)), (0, .ref (ad 0)), (1, .int z), (2, .int (nI j)), (3, .long v)]) hx hb dX4_ratio_34 hl (by decide) rfl (fun ls hl => ?_)
        refine lv_lload_n hx hb dX4_ratio_36 rfl (lv_at hl 4 rfl) ?_
        refine xw_ci (xw_S (n := 1) (rest := []) C hw (kX2_reduced l G B _ v) gX4_ratio_X2_reduced rfl rfl rfl (by decide +kernel) ⟨Nat.le_of_ble_eq_true rfl, Nat.le_of_ble_eq_true rfl⟩ rfl hl.1 rfl (Nat.le_of_ble_eq_true rfl) dX4_ratio_37 ⟨Nat.le_of_ble_eq_true rfl, Nat.le_of_ble_eq_true rfl⟩ hS) hS (fun ru u H locs hp hw hS => ?_)
        obtain ⟨hr, hu⟩ := hp
        rw [hu] at hw
        refine xw_ti (y := (xI (xR v))) (hr) ?_
        refine lv_istore (lv' := [(6, .int (xI (xR v))), (5, .ref (pa 0)), (0, .ref (ad 0)), (1, .int z), (2, .int (nI j)), (3, .long v)]) hx hb dX4_ratio_40 hl (by decide) rfl (fun ls hl => ?_)
        refine lv_aload hx hb dX4_ratio_42 (lv_at hl 1 rfl) ?_
        refine lv_iload_n hx hb dX4_ratio_44 rfl (lv_at hl 4 rfl) ?_
        refine xw_ci (xw_V (n := 1) (rest := []) C hw (kX3_coefficient l G B _ (pa 0) (ra 0) 4 (ps 0) (nI j) pp) gX4_ratio_X3_coefficient rfl rfl rfl (by decide +kernel) ⟨Nat.le_of_ble_eq_true rfl, Nat.le_of_ble_eq_true rfl⟩ pp.1 rfl rfl hl.1 rfl (Nat.le_of_ble_eq_true rfl) dX4_ratio_45 ⟨Nat.le_of_ble_eq_true rfl, Nat.le_of_ble_eq_true rfl⟩ hS) hS (fun ru u H locs hp hw hS => ?_)
        obtain ⟨hr, hu⟩ := hp
        rw [hu] at hw
        refine xw_ti (y := (xI (ps 0 j))) (hr.trans (by rw [xcf_n _ (by omega)])) ?_
        refine lv_iload hx hb dX4_ratio_48 (lv_at hl 0 rfl) ?_
        refine lv_icmp_eq (tgt := 57) hx hb dX4_ratio_50 (by decide) (fun hc3 => ?_) (fun hc3 => ?_)
        · skip
          refine lv_iconst (v := 0) hx hb dX4_ratio_57 (by decide) ?_
          refine lv_istore (lv' := [(7, .int 0), (6, .int (xI (xR v))), (5, .ref (pa 0)), (0, .ref (ad 0)), (1, .int z), (2, .int (nI j)), (3, .long v)]) hx hb dX4_ratio_58 hl (by decide) rfl (fun ls hl => ?_)
          refine lv_aload hx hb dX4_ratio_60 (lv_at hl 2 rfl) ?_
          refine lv_iload_n hx hb dX4_ratio_62 rfl (lv_at hl 5 rfl) ?_
          refine lv_iload hx hb dX4_ratio_63 (lv_at hl 1 rfl) ?_
          refine xw_cv (xw_V (n := 2) (rest := []) C hw (kX3_put l G B _ (pa 0) (ra 0) 4 (ps 0) j (xR v) pp hj4) gX4_ratio_X3_put rfl rfl rfl (by decide +kernel) ⟨Nat.le_of_ble_eq_true rfl, Nat.le_of_ble_eq_true rfl⟩ pp.1 rfl rfl hl.1 rfl (Nat.le_of_ble_eq_true rfl) dX4_ratio_65 ⟨Nat.le_of_ble_eq_true rfl, Nat.le_of_ble_eq_true rfl⟩ hS) hS (fun u H locs hpp hw hS => ?_)
          rw [hpp] at hw
          have hC := hC.set (i := 0) (by omega) hC.2.2.2.1.1 (xsup_up (v := xR v) pp.2.2.1 hj4)
          refine lv_iload hx hb dX4_ratio_68 (lv_at hl 0 rfl) ?_
          refine vx_ret ?_
          exact xw_zret C hw hS (Nat.le_of_ble_eq_true rfl) (Nat.le_of_ble_eq_true rfl) (Or.inl rfl) (⟨j, hj4, rfl, Or.inr ⟨rfl, xI_inj hc3⟩, hC⟩) dX4_ratio_70
        · skip
          refine lv_iconst (v := 1) hx hb dX4_ratio_53 (by decide) ?_
          refine lv_goto (tgt := 58) hx hb dX4_ratio_54 (by decide) ?_
          refine lv_istore (lv' := [(7, .int 1), (6, .int (xI (xR v))), (5, .ref (pa 0)), (0, .ref (ad 0)), (1, .int z), (2, .int (nI j)), (3, .long v)]) hx hb dX4_ratio_58 hl (by decide) rfl (fun ls hl => ?_)
          refine lv_aload hx hb dX4_ratio_60 (lv_at hl 2 rfl) ?_
          refine lv_iload_n hx hb dX4_ratio_62 rfl (lv_at hl 5 rfl) ?_
          refine lv_iload hx hb dX4_ratio_63 (lv_at hl 1 rfl) ?_
          refine xw_cv (xw_V (n := 2) (rest := []) C hw (kX3_put l G B _ (pa 0) (ra 0) 4 (ps 0) j (xR v) pp hj4) gX4_ratio_X3_put rfl rfl rfl (by decide +kernel) ⟨Nat.le_of_ble_eq_true rfl, Nat.le_of_ble_eq_true rfl⟩ pp.1 rfl rfl hl.1 rfl (Nat.le_of_ble_eq_true rfl) dX4_ratio_65 ⟨Nat.le_of_ble_eq_true rfl, Nat.le_of_ble_eq_true rfl⟩ hS) hS (fun u H locs hpp hw hS => ?_)
          rw [hpp] at hw
          have hC := hC.set (i := 0) (by omega) hC.2.2.2.1.1 (xsup_up (v := xR v) pp.2.2.1 hj4)
          refine lv_iload hx hb dX4_ratio_68 (lv_at hl 0 rfl) ?_
          refine vx_ret ?_
          exact xw_zret C hw hS (Nat.le_of_ble_eq_true rfl) (Nat.le_of_ble_eq_true rfl) (Or.inr rfl) (⟨j, hj4, rfl, Or.inl ⟨rfl, fun q => hc3 (by rw [q])⟩, hC⟩) dX4_ratio_70
    · skip
      exact xx_throw C hno hl9 hz hw hS hl.1 (cls := eG) (by decide +kernel) (by decide +kernel) (by decide +kernel) (by decide +kernel) (is := 59) (text := (xTx.lookup 59).getD "") (by decide +kernel) (by decide +kernel) (by decide +kernel) (by decide +kernel) dX4_ratio_9 dX4_ratio_12 dX4_ratio_13 dX4_ratio_15 dX4_ratio_18 (Nat.le_of_ble_eq_true rfl) (Nat.le_of_ble_eq_true rfl) (Nat.le_of_ble_eq_true rfl) (Nat.le_of_ble_eq_true rfl) (Nat.le_of_ble_eq_true rfl) (Nat.le_of_ble_eq_true rfl) (⟨rfl, xIs_big hj (by omega) (by decide), rfl⟩)

abbrev rmX4_number : Room := { frames := 8, cells := 12, slots := 200, locals := 143 }
theorem iX4_number_X4 : ∀ w ∈ wsX40, w ∈ wsX4_number := by decide +kernel
set_option maxHeartbeats 4000000 in
set_option maxRecDepth 100000 in
theorem kX4_number (l : Launch) (hl9 : l.stackTraces = false) (G : xG) (B : Nat) (w : xM) (pa ra cp fr ad : Nat → Nat) (md : Nat) (ps : Nat → xP) (eo : Nat → Option Nat) (tb : Nat → Bool) (wr : xM) (hC : xCL G w pa ra cp fr ad md ps eo tb wr) (v : Int64) : vx_Met l yX4_number wsX4_number rmX4_number (va_Pc [.ref (ad 0), .long v] (xBz G B w)) (va_Qi (fun r u => xMk G ad md ps wr (va_up (fun _ => 0) 0 (xR v)) (x1) r u) (xE G B) (xA B)) (xXC G B (fun E u => xMkE G pa ra cp fr ad md ps wr (va_up (fun _ => 0) 0 (xR v)) (x1) E u)) 12 200 (xA B) := by
  refine xx_start (own := RX4) (mn := "number") (cc := cX4_number) (nL := 3) (rt := (some .int)) (by decide) rfl rfl rfl (Nat.le_of_ble_eq_true rfl) ?_
  intro p ev s m below meth cd ls C hl hw hS hz hno
  obtain ⟨hx, hb, -, -, -, hts, -, -, -, -⟩ := id C
  have hl : lv_has ls 3 [(0, .ref (ad 0)), (1, .long v)] := hl
  have hk7 : ∀ i, i < 2 ∨ 21 ≤ i → ps i = ps i := fun _ _ => rfl
  refine lv_aload_n hx hb dX4_number_0 rfl (lv_at hl 0 rfl) ?_
  refine xw_get C hw hC.x (ci := 3) rfl iX4_number_X4 4 (by decide) (by decide +kernel) rfl dX4_number_1 ?_
  refine xw_cv (xw_V (n := 0) (rest := []) C hw (kX3_clear l G B _ (pa 2) (ra 2) 64 (ps 2) (hC.pw 2 (by omega) (by omega) rfl)) gX4_number_X3_clear rfl rfl rfl (by decide +kernel) ⟨Nat.le_of_ble_eq_true rfl, Nat.le_of_ble_eq_true rfl⟩ (hC.p 2 (by omega)).1 rfl rfl hl.1 rfl (Nat.le_of_ble_eq_true rfl) dX4_number_4 ⟨Nat.le_of_ble_eq_true rfl, Nat.le_of_ble_eq_true rfl⟩ hS) hS (fun u H locs hpp hw hS => ?_)
  rw [hpp] at hw
  have hC := hC.set (i := 2) (by omega) (hC.cap (by omega) (by omega)) (f := (fun _ => 0)) (xsup_z _)
  obtain ⟨ps3, hps⟩ : ∃ zz9, zz9 = va_up ps (2) ((fun _ => 0)) := ⟨_, rfl⟩
  rw [← hps] at hC
  have hk7 : ∀ i, i < 2 ∨ 21 ≤ i → ps3 i = ps i := fun i hi => (congrFun hps i).trans ((va_up_ne _ _ (by omega)).trans (hk7 i hi))
  have e2 : ps3 (2) = (fun _ => 0) := by rw [hps, va_up_self]
  refine lv_aload_n hx hb dX4_number_7 rfl (lv_at hl 0 rfl) ?_
  refine xw_get C hw hC.x (ci := 3) rfl iX4_number_X4 4 (by decide) (by decide +kernel) rfl dX4_number_8 ?_
  refine lv_iconst (v := 0) hx hb dX4_number_11 (by decide) ?_
  refine xw_ti (y := (nI 0)) (nI_0.symm) ?_
  refine lv_lload_n hx hb dX4_number_12 rfl (lv_at hl 1 rfl) ?_
  refine xw_ci (xw_S (n := 1) (rest := [.int (nI 0), .ref (pa 2)]) C hw (kX2_reduced l G B _ v) gX4_number_X2_reduced rfl rfl rfl (by decide +kernel) ⟨Nat.le_of_ble_eq_true rfl, Nat.le_of_ble_eq_true rfl⟩ rfl hl.1 rfl (Nat.le_of_ble_eq_true rfl) dX4_number_13 ⟨Nat.le_of_ble_eq_true rfl, Nat.le_of_ble_eq_true rfl⟩ hS) hS (fun ru u H locs hp hw hS => ?_)
  obtain ⟨hr, hu⟩ := hp
  rw [hu] at hw
  refine xw_ti (y := (xI (xR v))) (hr) ?_
  refine xw_cv (xw_V (n := 2) (rest := []) C hw (kX3_put l G B _ (pa 2) (ra 2) 64 (fun _ => 0) 0 (xR v) (hC.pw 2 (by omega) (by omega) e2) (by decide)) gX4_number_X3_put rfl rfl rfl (by decide +kernel) ⟨Nat.le_of_ble_eq_true rfl, Nat.le_of_ble_eq_true rfl⟩ (hC.p 2 (by omega)).1 rfl rfl hl.1 rfl (Nat.le_of_ble_eq_true rfl) dX4_number_16 ⟨Nat.le_of_ble_eq_true rfl, Nat.le_of_ble_eq_true rfl⟩ hS) hS (fun u H locs hpp hw hS => ?_)
  rw [hpp] at hw
  have hC := hC.set (i := 2) (by omega) (hC.cap (by omega) (by omega)) (f := va_up (fun _ => 0) 0 (xR v)) (xc_sup (by decide))
  obtain ⟨ps4, hps⟩ : ∃ zz9, zz9 = va_up ps3 (2) (va_up (fun _ => 0) 0 (xR v)) := ⟨_, rfl⟩
  rw [← hps] at hC
  have hk7 : ∀ i, i < 2 ∨ 21 ≤ i → ps4 i = ps i := fun i hi => (congrFun hps i).trans ((va_up_ne _ _ (by omega)).trans (hk7 i hi))
  have e2 : ps4 (2) = va_up (fun _ => 0) 0 (xR v) := by rw [hps, va_up_self]
  refine lv_aload_n hx hb dX4_number_19 rfl (lv_at hl 0 rfl) ?_
  refine xw_get C hw hC.x (ci := 3) rfl iX4_number_X4 5 (by decide) (by decide +kernel) rfl dX4_number_20 ?_
  refine xw_cv (xw_V (n := 0) (rest := []) C hw (kX3_clear l G B _ (pa 3) (ra 3) 64 (ps4 3) (hC.pw 3 (by omega) (by omega) rfl)) gX4_number_X3_clear rfl rfl rfl (by decide +kernel) ⟨Nat.le_of_ble_eq_true rfl, Nat.le_of_ble_eq_true rfl⟩ (hC.p 3 (by omega)).1 rfl rfl hl.1 rfl (Nat.le_of_ble_eq_true rfl) dX4_number_23 ⟨Nat.le_of_ble_eq_true rfl, Nat.le_of_ble_eq_true rfl⟩ hS) hS (fun u H locs hpp hw hS => ?_)
  rw [hpp] at hw
  have hC := hC.set (i := 3) (by omega) (hC.cap (by omega) (by omega)) (f := (fun _ => 0)) (xsup_z _)
  obtain ⟨ps5, hps⟩ : ∃ zz9, zz9 = va_up ps4 (3) ((fun _ => 0)) := ⟨_, rfl⟩
  rw [← hps] at hC
  have e2 : ps5 (2) = va_up (fun _ => 0) 0 (xR v) := (congrFun hps _).trans ((va_up_ne _ _ (by omega)).trans e2)
  have hk7 : ∀ i, i < 2 ∨ 21 ≤ i → ps5 i = ps i := fun i hi => (congrFun hps i).trans ((va_up_ne _ _ (by omega)).trans (hk7 i hi))
  have e3 : ps5 (3) = (fun _ => 0) := by rw [hps, va_up_self]
  refine lv_aload_n hx hb dX4_number_26 rfl (lv_at hl 0 rfl) ?_
  refine xw_get C hw hC.x (ci := 3) rfl iX4_number_X4 5 (by decide) (by decide +kernel) rfl dX4_number_27 ?_
  refine lv_iconst (v := 0) hx hb dX4_number_30 (by decide) ?_
  refine xw_ti (y := (nI 0)) (nI_0.symm) ?_
  refine lv_iconst (v := 1) hx hb dX4_number_31 (by decide) ?_
  refine xw_ti (y := (xI 1)) (xI_1.symm) ?_
  refine xw_cv (xw_V (n := 2) (rest := []) C hw (kX3_put l G B _ (pa 3) (ra 3) 64 (fun _ => 0) 0 1 (hC.pw 3 (by omega) (by omega) e3) (by decide)) gX4_number_X3_put rfl rfl rfl (by decide +kernel) ⟨Nat.le_of_ble_eq_true rfl, Nat.le_of_ble_eq_true rfl⟩ (hC.p 3 (by omega)).1 rfl rfl hl.1 rfl (Nat.le_of_ble_eq_true rfl) dX4_number_32 ⟨Nat.le_of_ble_eq_true rfl, Nat.le_of_ble_eq_true rfl⟩ hS) hS (fun u H locs hpp hw hS => ?_)
  rw [hpp] at hw
  have hC := hC.set (i := 3) (by omega) (hC.cap (by omega) (by omega)) (f := x1) (xc_sup (by decide))
  obtain ⟨ps6, hps⟩ : ∃ zz9, zz9 = va_up ps5 (3) (x1) := ⟨_, rfl⟩
  rw [← hps] at hC
  have e2 : ps6 (2) = va_up (fun _ => 0) 0 (xR v) := (congrFun hps _).trans ((va_up_ne _ _ (by omega)).trans e2)
  have hk7 : ∀ i, i < 2 ∨ 21 ≤ i → ps6 i = ps i := fun i hi => (congrFun hps i).trans ((va_up_ne _ _ (by omega)).trans (hk7 i hi))
  have e3 : ps6 (3) = x1 := by rw [hps, va_up_self]
  refine lv_aload_n hx hb dX4_number_35 rfl (lv_at hl 0 rfl) ?_
  refine xx_ci C hno (xx_V (n := 0) (rest := []) C hw hz (kX4_keepResult l hl9 G B _ pa ra cp fr ad md ps6 eo tb wr hC (va_up (fun _ => 0) 0 (xR v)) (x1) e2 e3 (x1_ne)) gX4_number_X4_keepResult rfl rfl rfl (by decide +kernel) ⟨Nat.le_of_ble_eq_true rfl, Nat.le_of_ble_eq_true rfl⟩ hC.x rfl rfl hl.1 rfl (Nat.le_of_ble_eq_true rfl) dX4_number_36 ⟨Nat.le_of_ble_eq_true rfl, Nat.le_of_ble_eq_true rfl⟩ hS) hS (Nat.le_of_ble_eq_true rfl) (Nat.le_of_ble_eq_true rfl) (fun E u h => h.trans hk7) (fun rz z H locs hz9 hw hS => ?_)
  refine vx_ret ?_
  exact xw_iret C hw hS (Nat.le_of_ble_eq_true rfl) (Nat.le_of_ble_eq_true rfl) (hz9.trans hk7) dX4_number_39

abbrev rmX4_letter : Room := { frames := 8, cells := 12, slots := 200, locals := 143 }
theorem iX4_letter_X4 : ∀ w ∈ wsX40, w ∈ wsX4_letter := by decide +kernel
set_option maxHeartbeats 4000000 in
set_option maxRecDepth 100000 in
theorem kX4_letter (l : Launch) (hl9 : l.stackTraces = false) (G : xG) (B : Nat) (w : xM) (pa ra cp fr ad : Nat → Nat) (md : Nat) (ps : Nat → xP) (eo : Nat → Option Nat) (tb : Nat → Bool) (wr : xM) (hC : xCL G w pa ra cp fr ad md ps eo tb wr)  : vx_Met l yX4_letter wsX4_letter rmX4_letter (va_Pc [.ref (ad 0)] (xBz G B w)) (va_Qi (fun r u => xMk G ad md ps wr (va_up (fun _ => 0) 1 1) (x1) r u) (xE G B) (xA B)) (xXC G B (fun E u => xMkE G pa ra cp fr ad md ps wr (va_up (fun _ => 0) 1 1) (x1) E u)) 12 200 (xA B) := by
  refine xx_start (own := RX4) (mn := "letter") (cc := cX4_letter) (nL := 1) (rt := (some .int)) (by decide) rfl rfl rfl (Nat.le_of_ble_eq_true rfl) ?_
  intro p ev s m below meth cd ls C hl hw hS hz hno
  obtain ⟨hx, hb, -, -, -, hts, -, -, -, -⟩ := id C
  have hl : lv_has ls 1 [(0, .ref (ad 0))] := hl
  have hk7 : ∀ i, i < 2 ∨ 21 ≤ i → ps i = ps i := fun _ _ => rfl
  refine lv_aload_n hx hb dX4_letter_0 rfl (lv_at hl 0 rfl) ?_
  refine xw_get C hw hC.x (ci := 3) rfl iX4_letter_X4 4 (by decide) (by decide +kernel) rfl dX4_letter_1 ?_
  refine xw_cv (xw_V (n := 0) (rest := []) C hw (kX3_clear l G B _ (pa 2) (ra 2) 64 (ps 2) (hC.pw 2 (by omega) (by omega) rfl)) gX4_letter_X3_clear rfl rfl rfl (by decide +kernel) ⟨Nat.le_of_ble_eq_true rfl, Nat.le_of_ble_eq_true rfl⟩ (hC.p 2 (by omega)).1 rfl rfl hl.1 rfl (Nat.le_of_ble_eq_true rfl) dX4_letter_4 ⟨Nat.le_of_ble_eq_true rfl, Nat.le_of_ble_eq_true rfl⟩ hS) hS (fun u H locs hpp hw hS => ?_)
  rw [hpp] at hw
  have hC := hC.set (i := 2) (by omega) (hC.cap (by omega) (by omega)) (f := (fun _ => 0)) (xsup_z _)
  obtain ⟨ps3, hps⟩ : ∃ zz9, zz9 = va_up ps (2) ((fun _ => 0)) := ⟨_, rfl⟩
  rw [← hps] at hC
  have hk7 : ∀ i, i < 2 ∨ 21 ≤ i → ps3 i = ps i := fun i hi => (congrFun hps i).trans ((va_up_ne _ _ (by omega)).trans (hk7 i hi))
  have e2 : ps3 (2) = (fun _ => 0) := by rw [hps, va_up_self]
  refine lv_aload_n hx hb dX4_letter_7 rfl (lv_at hl 0 rfl) ?_
  refine xw_get C hw hC.x (ci := 3) rfl iX4_letter_X4 4 (by decide) (by decide +kernel) rfl dX4_letter_8 ?_
  refine lv_iconst (v := 1) hx hb dX4_letter_11 (by decide) ?_
  refine xw_ti (y := (nI 1)) (by decide) ?_
  refine lv_iconst (v := 1) hx hb dX4_letter_12 (by decide) ?_
  refine xw_ti (y := (xI 1)) (xI_1.symm) ?_
  refine xw_cv (xw_V (n := 2) (rest := []) C hw (kX3_put l G B _ (pa 2) (ra 2) 64 (fun _ => 0) 1 1 (hC.pw 2 (by omega) (by omega) e2) (by decide)) gX4_letter_X3_put rfl rfl rfl (by decide +kernel) ⟨Nat.le_of_ble_eq_true rfl, Nat.le_of_ble_eq_true rfl⟩ (hC.p 2 (by omega)).1 rfl rfl hl.1 rfl (Nat.le_of_ble_eq_true rfl) dX4_letter_13 ⟨Nat.le_of_ble_eq_true rfl, Nat.le_of_ble_eq_true rfl⟩ hS) hS (fun u H locs hpp hw hS => ?_)
  rw [hpp] at hw
  have hC := hC.set (i := 2) (by omega) (hC.cap (by omega) (by omega)) (f := va_up (fun _ => 0) 1 1) (xc_sup (by decide))
  obtain ⟨ps4, hps⟩ : ∃ zz9, zz9 = va_up ps3 (2) (va_up (fun _ => 0) 1 1) := ⟨_, rfl⟩
  rw [← hps] at hC
  have hk7 : ∀ i, i < 2 ∨ 21 ≤ i → ps4 i = ps i := fun i hi => (congrFun hps i).trans ((va_up_ne _ _ (by omega)).trans (hk7 i hi))
  have e2 : ps4 (2) = va_up (fun _ => 0) 1 1 := by rw [hps, va_up_self]
  refine lv_aload_n hx hb dX4_letter_16 rfl (lv_at hl 0 rfl) ?_
  refine xw_get C hw hC.x (ci := 3) rfl iX4_letter_X4 5 (by decide) (by decide +kernel) rfl dX4_letter_17 ?_
  refine xw_cv (xw_V (n := 0) (rest := []) C hw (kX3_clear l G B _ (pa 3) (ra 3) 64 (ps4 3) (hC.pw 3 (by omega) (by omega) rfl)) gX4_letter_X3_clear rfl rfl rfl (by decide +kernel) ⟨Nat.le_of_ble_eq_true rfl, Nat.le_of_ble_eq_true rfl⟩ (hC.p 3 (by omega)).1 rfl rfl hl.1 rfl (Nat.le_of_ble_eq_true rfl) dX4_letter_20 ⟨Nat.le_of_ble_eq_true rfl, Nat.le_of_ble_eq_true rfl⟩ hS) hS (fun u H locs hpp hw hS => ?_)
  rw [hpp] at hw
  have hC := hC.set (i := 3) (by omega) (hC.cap (by omega) (by omega)) (f := (fun _ => 0)) (xsup_z _)
  obtain ⟨ps5, hps⟩ : ∃ zz9, zz9 = va_up ps4 (3) ((fun _ => 0)) := ⟨_, rfl⟩
  rw [← hps] at hC
  have e2 : ps5 (2) = va_up (fun _ => 0) 1 1 := (congrFun hps _).trans ((va_up_ne _ _ (by omega)).trans e2)
  have hk7 : ∀ i, i < 2 ∨ 21 ≤ i → ps5 i = ps i := fun i hi => (congrFun hps i).trans ((va_up_ne _ _ (by omega)).trans (hk7 i hi))
  have e3 : ps5 (3) = (fun _ => 0) := by rw [hps, va_up_self]
  refine lv_aload_n hx hb dX4_letter_23 rfl (lv_at hl 0 rfl) ?_
  refine xw_get C hw hC.x (ci := 3) rfl iX4_letter_X4 5 (by decide) (by decide +kernel) rfl dX4_letter_24 ?_
  refine lv_iconst (v := 0) hx hb dX4_letter_27 (by decide) ?_
  refine xw_ti (y := (nI 0)) (nI_0.symm) ?_
  refine lv_iconst (v := 1) hx hb dX4_letter_28 (by decide) ?_
  refine xw_ti (y := (xI 1)) (xI_1.symm) ?_
  refine xw_cv (xw_V (n := 2) (rest := []) C hw (kX3_put l G B _ (pa 3) (ra 3) 64 (fun _ => 0) 0 1 (hC.pw 3 (by omega) (by omega) e3) (by decide)) gX4_letter_X3_put rfl rfl rfl (by decide +kernel) ⟨Nat.le_of_ble_eq_true rfl, Nat.le_of_ble_eq_true rfl⟩ (hC.p 3 (by omega)).1 rfl rfl hl.1 rfl (Nat.le_of_ble_eq_true rfl) dX4_letter_29 ⟨Nat.le_of_ble_eq_true rfl, Nat.le_of_ble_eq_true rfl⟩ hS) hS (fun u H locs hpp hw hS => ?_)
  rw [hpp] at hw
  have hC := hC.set (i := 3) (by omega) (hC.cap (by omega) (by omega)) (f := x1) (xc_sup (by decide))
  obtain ⟨ps6, hps⟩ : ∃ zz9, zz9 = va_up ps5 (3) (x1) := ⟨_, rfl⟩
  rw [← hps] at hC
  have e2 : ps6 (2) = va_up (fun _ => 0) 1 1 := (congrFun hps _).trans ((va_up_ne _ _ (by omega)).trans e2)
  have hk7 : ∀ i, i < 2 ∨ 21 ≤ i → ps6 i = ps i := fun i hi => (congrFun hps i).trans ((va_up_ne _ _ (by omega)).trans (hk7 i hi))
  have e3 : ps6 (3) = x1 := by rw [hps, va_up_self]
  refine lv_aload_n hx hb dX4_letter_32 rfl (lv_at hl 0 rfl) ?_
  refine xx_ci C hno (xx_V (n := 0) (rest := []) C hw hz (kX4_keepResult l hl9 G B _ pa ra cp fr ad md ps6 eo tb wr hC (va_up (fun _ => 0) 1 1) (x1) e2 e3 (x1_ne)) gX4_letter_X4_keepResult rfl rfl rfl (by decide +kernel) ⟨Nat.le_of_ble_eq_true rfl, Nat.le_of_ble_eq_true rfl⟩ hC.x rfl rfl hl.1 rfl (Nat.le_of_ble_eq_true rfl) dX4_letter_33 ⟨Nat.le_of_ble_eq_true rfl, Nat.le_of_ble_eq_true rfl⟩ hS) hS (Nat.le_of_ble_eq_true rfl) (Nat.le_of_ble_eq_true rfl) (fun E u h => h.trans hk7) (fun rz z H locs hz9 hw hS => ?_)
  refine vx_ret ?_
  exact xw_iret C hw hS (Nat.le_of_ble_eq_true rfl) (Nat.le_of_ble_eq_true rfl) (hz9.trans hk7) dX4_letter_36

abbrev rmX4_add : Room := { frames := 8, cells := 12, slots := 200, locals := 143 }
theorem iX4_add_X1 : ∀ w ∈ wsX10, w ∈ wsX4_add := by decide +kernel
theorem iX4_add_X4 : ∀ w ∈ wsX40, w ∈ wsX4_add := by decide +kernel
set_option maxHeartbeats 4000000 in
set_option maxRecDepth 100000 in
theorem kX4_add (l : Launch) (hl9 : l.stackTraces = false) (G : xG) (B : Nat) (w : xM) (pa ra cp fr ad : Nat → Nat) (md : Nat) (ps : Nat → xP) (eo : Nat → Option Nat) (tb : Nat → Bool) (wr : xM) (hC : xCL G w pa ra cp fr ad md ps eo tb wr) (hF : ∀ k, k < md → xsup (ps (21 + 2 * k)) 21 ∧ xsup (ps (22 + 2 * k)) 21 ∧ xlen (ps (22 + 2 * k)) 64 ≠ 0) (x y : Int32) : vx_Met l yX4_add wsX4_add rmX4_add (va_Pc [.ref (ad 0), .int x, .int y] (xBz G B w)) (va_Qi (fun r u => ∃ k1 k2, k1 < md ∧ k2 < md ∧ x = nI k1 ∧ y = nI k2 ∧ xMk G ad md ps wr (xgat (xmul (ps (21 + 2 * k1)) (ps (22 + 2 * k2))) (xO 1) (xmul (ps (21 + 2 * k2)) (ps (22 + 2 * k1))) 0) (xmul (ps (22 + 2 * k1)) (ps (22 + 2 * k2))) r u) (xE G B) (xA B)) (xXC G B (fun E u => (E = eI ∧ ¬ (xIs md x ∧ xIs md y) ∧ xKp G pa ra cp fr ad md ps wr u) ∨ (∃ k1 k2, k1 < md ∧ k2 < md ∧ x = nI k1 ∧ y = nI k2 ∧ xMkE G pa ra cp fr ad md ps wr (xgat (xmul (ps (21 + 2 * k1)) (ps (22 + 2 * k2))) (xO 1) (xmul (ps (21 + 2 * k2)) (ps (22 + 2 * k1))) 0) (xmul (ps (22 + 2 * k1)) (ps (22 + 2 * k2))) E u))) 12 200 (xA B) := by
  refine xx_start (own := RX4) (mn := "add") (cc := cX4_add) (nL := 5) (rt := (some .int)) (by decide) rfl rfl rfl (Nat.le_of_ble_eq_true rfl) ?_
  intro p ev s m below meth cd ls C hl hw hS hz hno
  obtain ⟨hx, hb, -, -, -, hts, -, -, -, -⟩ := id C
  have hl : lv_has ls 5 [(0, .ref (ad 0)), (1, .int x), (2, .int y)] := hl
  have hself := xKp.self hC
  refine lv_aload_n hx hb dX4_add_0 rfl (lv_at hl 0 rfl) ?_
  refine lv_iload_n hx hb dX4_add_1 rfl (lv_at hl 1 rfl) ?_
  refine xx_cr C hno (xx_V (n := 1) (rest := []) C hw hz (kX4_known l hl9 G B _ pa ra cp fr ad md ps eo tb wr hC x) gX4_add_X4_known rfl rfl rfl (by decide +kernel) ⟨Nat.le_of_ble_eq_true rfl, Nat.le_of_ble_eq_true rfl⟩ hC.x rfl rfl hl.1 rfl (Nat.le_of_ble_eq_true rfl) dX4_add_2 ⟨Nat.le_of_ble_eq_true rfl, Nat.le_of_ble_eq_true rfl⟩ hS) hS (Nat.le_of_ble_eq_true rfl) (Nat.le_of_ble_eq_true rfl) (fun E u h => Or.inl ⟨h.1, fun q => h.2.1 q.1, by rw [h.2.2]; exact hself⟩) (fun rq q H locs hq hw hS => ?_)
  obtain ⟨k1, hk1, rfl, hrq, hu⟩ := hq
  rw [hu] at hw
  refine xw_tv (y := .ref (fr k1)) (by rw [hrq]) ?_
  refine lv_astore_n (lv' := [(3, .ref (fr k1)), (0, .ref (ad 0)), (1, .int (nI k1)), (2, .int y)]) hx hb dX4_add_5 rfl hl (by decide) rfl (fun ls hl => ?_)
  refine lv_aload_n hx hb dX4_add_6 rfl (lv_at hl 1 rfl) ?_
  refine lv_iload_n hx hb dX4_add_7 rfl (lv_at hl 3 rfl) ?_
  refine xx_cr C hno (xx_V (n := 1) (rest := []) C hw hz (kX4_known l hl9 G B _ pa ra cp fr ad md ps eo tb wr hC y) gX4_add_X4_known rfl rfl rfl (by decide +kernel) ⟨Nat.le_of_ble_eq_true rfl, Nat.le_of_ble_eq_true rfl⟩ hC.x rfl rfl hl.1 rfl (Nat.le_of_ble_eq_true rfl) dX4_add_8 ⟨Nat.le_of_ble_eq_true rfl, Nat.le_of_ble_eq_true rfl⟩ hS) hS (Nat.le_of_ble_eq_true rfl) (Nat.le_of_ble_eq_true rfl) (fun E u h => Or.inl ⟨h.1, fun q => h.2.1 q.2, by rw [h.2.2]; exact hself⟩) (fun rq q H locs hq hw hS => ?_)
  obtain ⟨k2, hk2, rfl, hrq, hu⟩ := hq
  rw [hu] at hw
  refine xw_tv (y := .ref (fr k2)) (by rw [hrq]) ?_
  refine lv_astore (lv' := [(4, .ref (fr k2)), (3, .ref (fr k1)), (0, .ref (ad 0)), (1, .int (nI k1)), (2, .int (nI k2))]) hx hb dX4_add_11 hl (by decide) rfl (fun ls hl => ?_)
  have hk7 : ∀ i, i < 2 ∨ 21 ≤ i → ps i = ps i := fun _ _ => rfl
  have etk1 : ps (21 + 2 * k1) = (ps (21 + 2 * k1)) := rfl
  have ebk1 : ps (22 + 2 * k1) = (ps (22 + 2 * k1)) := rfl
  obtain ⟨stk1, sbk1, snk1⟩ := hF k1 hk1
  have etk2 : ps (21 + 2 * k2) = (ps (21 + 2 * k2)) := rfl
  have ebk2 : ps (22 + 2 * k2) = (ps (22 + 2 * k2)) := rfl
  obtain ⟨stk2, sbk2, snk2⟩ := hF k2 hk2
  refine lv_aload_n hx hb dX4_add_13 rfl (lv_at hl 2 rfl) ?_
  refine xw_get C hw hC.x (ci := 3) rfl iX4_add_X4 4 (by decide) (by decide +kernel) rfl dX4_add_14 ?_
  refine lv_aload_n hx hb dX4_add_17 rfl (lv_at hl 1 rfl) ?_
  refine xw_get C hw (hC.fo k1 hk1) (ci := 1) rfl iX4_add_X1 0 (by decide) (by decide +kernel) rfl dX4_add_18 ?_
  refine lv_aload hx hb dX4_add_21 (lv_at hl 0 rfl) ?_
  refine xw_get C hw (hC.fo k2 hk2) (ci := 1) rfl iX4_add_X1 1 (by decide) (by decide +kernel) rfl dX4_add_23 ?_
  refine xw_cv (xw_V (n := 2) (rest := []) C hw (kX3_setProduct l G B _ (pa 2) (ra 2) 64 (ps 2) (pa (21 + 2 * k1)) (ra (21 + 2 * k1)) (cp (21 + 2 * k1)) (ps (21 + 2 * k1)) (pa (22 + 2 * k2)) (ra (22 + 2 * k2)) (cp (22 + 2 * k2)) (ps (22 + 2 * k2)) (hC.pw 2 (by omega) (by omega) rfl) (hC.pe (21 + 2 * k1) (by omega) etk1) (hC.pe (22 + 2 * k2) (by omega) ebk2) (hC.pn (by omega) (by omega) (by omega)) (hC.rn (by omega) (by omega) (by omega)) (hC.pn (by omega) (by omega) (by omega)) (hC.rn (by omega) (by omega) (by omega)) (Nat.le_trans (Nat.add_le_add (xlen_sle stk1) (xlen_sle sbk2)) (by decide))) gX4_add_X3_setProduct rfl rfl rfl (by decide +kernel) ⟨Nat.le_of_ble_eq_true rfl, Nat.le_of_ble_eq_true rfl⟩ (hC.p 2 (by omega)).1 rfl rfl hl.1 rfl (Nat.le_of_ble_eq_true rfl) dX4_add_26 ⟨Nat.le_of_ble_eq_true rfl, Nat.le_of_ble_eq_true rfl⟩ hS) hS (fun u H locs hpp hw hS => ?_)
  rw [hpp] at hw
  have hC := hC.set (i := 2) (by omega) (hC.cap (by omega) (by omega)) (f := xmul (ps (21 + 2 * k1)) (ps (22 + 2 * k2))) (xsup_mono (xmul_sup stk1 sbk2) (by decide))
  obtain ⟨ps3, hps⟩ : ∃ zz9, zz9 = va_up ps (2) (xmul (ps (21 + 2 * k1)) (ps (22 + 2 * k2))) := ⟨_, rfl⟩
  rw [← hps] at hC
  have etk1 : ps3 (21 + 2 * k1) = (ps (21 + 2 * k1)) := (congrFun hps _).trans ((va_up_ne _ _ (by omega)).trans etk1)
  have ebk1 : ps3 (22 + 2 * k1) = (ps (22 + 2 * k1)) := (congrFun hps _).trans ((va_up_ne _ _ (by omega)).trans ebk1)
  have etk2 : ps3 (21 + 2 * k2) = (ps (21 + 2 * k2)) := (congrFun hps _).trans ((va_up_ne _ _ (by omega)).trans etk2)
  have ebk2 : ps3 (22 + 2 * k2) = (ps (22 + 2 * k2)) := (congrFun hps _).trans ((va_up_ne _ _ (by omega)).trans ebk2)
  have hk7 : ∀ i, i < 2 ∨ 21 ≤ i → ps3 i = ps i := fun i hi => (congrFun hps i).trans ((va_up_ne _ _ (by omega)).trans (hk7 i hi))
  have e2 : ps3 (2) = xmul (ps (21 + 2 * k1)) (ps (22 + 2 * k2)) := by rw [hps, va_up_self]
  refine lv_aload_n hx hb dX4_add_29 rfl (lv_at hl 2 rfl) ?_
  refine xw_get C hw hC.x (ci := 3) rfl iX4_add_X4 6 (by decide) (by decide +kernel) rfl dX4_add_30 ?_
  refine lv_aload hx hb dX4_add_33 (lv_at hl 0 rfl) ?_
  refine xw_get C hw (hC.fo k2 hk2) (ci := 1) rfl iX4_add_X1 0 (by decide) (by decide +kernel) rfl dX4_add_35 ?_
  refine lv_aload_n hx hb dX4_add_38 rfl (lv_at hl 1 rfl) ?_
  refine xw_get C hw (hC.fo k1 hk1) (ci := 1) rfl iX4_add_X1 1 (by decide) (by decide +kernel) rfl dX4_add_39 ?_
  refine xw_cv (xw_V (n := 2) (rest := []) C hw (kX3_setProduct l G B _ (pa 4) (ra 4) 64 (ps3 4) (pa (21 + 2 * k2)) (ra (21 + 2 * k2)) (cp (21 + 2 * k2)) (ps (21 + 2 * k2)) (pa (22 + 2 * k1)) (ra (22 + 2 * k1)) (cp (22 + 2 * k1)) (ps (22 + 2 * k1)) (hC.pw 4 (by omega) (by omega) rfl) (hC.pe (21 + 2 * k2) (by omega) etk2) (hC.pe (22 + 2 * k1) (by omega) ebk1) (hC.pn (by omega) (by omega) (by omega)) (hC.rn (by omega) (by omega) (by omega)) (hC.pn (by omega) (by omega) (by omega)) (hC.rn (by omega) (by omega) (by omega)) (Nat.le_trans (Nat.add_le_add (xlen_sle stk2) (xlen_sle sbk1)) (by decide))) gX4_add_X3_setProduct rfl rfl rfl (by decide +kernel) ⟨Nat.le_of_ble_eq_true rfl, Nat.le_of_ble_eq_true rfl⟩ (hC.p 4 (by omega)).1 rfl rfl hl.1 rfl (Nat.le_of_ble_eq_true rfl) dX4_add_42 ⟨Nat.le_of_ble_eq_true rfl, Nat.le_of_ble_eq_true rfl⟩ hS) hS (fun u H locs hpp hw hS => ?_)
  rw [hpp] at hw
  have hC := hC.set (i := 4) (by omega) (hC.cap (by omega) (by omega)) (f := xmul (ps (21 + 2 * k2)) (ps (22 + 2 * k1))) (xsup_mono (xmul_sup stk2 sbk1) (by decide))
  obtain ⟨ps4, hps⟩ : ∃ zz9, zz9 = va_up ps3 (4) (xmul (ps (21 + 2 * k2)) (ps (22 + 2 * k1))) := ⟨_, rfl⟩
  rw [← hps] at hC
  have etk1 : ps4 (21 + 2 * k1) = (ps (21 + 2 * k1)) := (congrFun hps _).trans ((va_up_ne _ _ (by omega)).trans etk1)
  have ebk1 : ps4 (22 + 2 * k1) = (ps (22 + 2 * k1)) := (congrFun hps _).trans ((va_up_ne _ _ (by omega)).trans ebk1)
  have etk2 : ps4 (21 + 2 * k2) = (ps (21 + 2 * k2)) := (congrFun hps _).trans ((va_up_ne _ _ (by omega)).trans etk2)
  have ebk2 : ps4 (22 + 2 * k2) = (ps (22 + 2 * k2)) := (congrFun hps _).trans ((va_up_ne _ _ (by omega)).trans ebk2)
  have e2 : ps4 (2) = xmul (ps (21 + 2 * k1)) (ps (22 + 2 * k2)) := (congrFun hps _).trans ((va_up_ne _ _ (by omega)).trans e2)
  have hk7 : ∀ i, i < 2 ∨ 21 ≤ i → ps4 i = ps i := fun i hi => (congrFun hps i).trans ((va_up_ne _ _ (by omega)).trans (hk7 i hi))
  have e4 : ps4 (4) = xmul (ps (21 + 2 * k2)) (ps (22 + 2 * k1)) := by rw [hps, va_up_self]
  refine lv_aload_n hx hb dX4_add_45 rfl (lv_at hl 2 rfl) ?_
  refine xw_get C hw hC.x (ci := 3) rfl iX4_add_X4 4 (by decide) (by decide +kernel) rfl dX4_add_46 ?_
  refine lv_aload_n hx hb dX4_add_49 rfl (lv_at hl 2 rfl) ?_
  refine xw_get C hw hC.x (ci := 3) rfl iX4_add_X4 6 (by decide) (by decide +kernel) rfl dX4_add_50 ?_
  refine lv_iconst (v := 1) hx hb dX4_add_53 (by decide) ?_
  refine xw_ti (y := (nI 1)) (by decide) ?_
  refine lv_iconst (v := 0) hx hb dX4_add_54 (by decide) ?_
  refine xw_ti (y := (nI 0)) (nI_0.symm) ?_
  refine xw_cv (xw_V (n := 3) (rest := []) C hw (kX3_gather l G B _ (pa 2) (ra 2) 64 (xmul (ps (21 + 2 * k1)) (ps (22 + 2 * k2))) (pa 4) (ra 4) 64 (xmul (ps (21 + 2 * k2)) (ps (22 + 2 * k1))) (hC.pw 2 (by omega) (by omega) e2) (hC.pw 4 (by omega) (by omega) e4) (hC.pn (by omega) (by omega) (by omega)) (hC.rn (by omega) (by omega) (by omega)) 1 0 (by decide) (Nat.le_trans (xlen_le _ _) (by decide))) gX4_add_X3_gather rfl rfl rfl (by decide +kernel) ⟨Nat.le_of_ble_eq_true rfl, Nat.le_of_ble_eq_true rfl⟩ (hC.p 2 (by omega)).1 rfl rfl hl.1 rfl (Nat.le_of_ble_eq_true rfl) dX4_add_55 ⟨Nat.le_of_ble_eq_true rfl, Nat.le_of_ble_eq_true rfl⟩ hS) hS (fun u H locs hpp hw hS => ?_)
  rw [hpp] at hw
  have hC := hC.set (i := 2) (by omega) (hC.cap (by omega) (by omega)) (f := xgat (xmul (ps (21 + 2 * k1)) (ps (22 + 2 * k2))) (xO 1) (xmul (ps (21 + 2 * k2)) (ps (22 + 2 * k1))) 0) (xgat_sup (hC.pw 2 (by omega) (by omega) e2).2.2.1 (hC.pw 4 (by omega) (by omega) e4).2.2.1 (by decide))
  obtain ⟨ps5, hps⟩ : ∃ zz9, zz9 = va_up ps4 (2) (xgat (xmul (ps (21 + 2 * k1)) (ps (22 + 2 * k2))) (xO 1) (xmul (ps (21 + 2 * k2)) (ps (22 + 2 * k1))) 0) := ⟨_, rfl⟩
  rw [← hps] at hC
  have etk1 : ps5 (21 + 2 * k1) = (ps (21 + 2 * k1)) := (congrFun hps _).trans ((va_up_ne _ _ (by omega)).trans etk1)
  have ebk1 : ps5 (22 + 2 * k1) = (ps (22 + 2 * k1)) := (congrFun hps _).trans ((va_up_ne _ _ (by omega)).trans ebk1)
  have etk2 : ps5 (21 + 2 * k2) = (ps (21 + 2 * k2)) := (congrFun hps _).trans ((va_up_ne _ _ (by omega)).trans etk2)
  have ebk2 : ps5 (22 + 2 * k2) = (ps (22 + 2 * k2)) := (congrFun hps _).trans ((va_up_ne _ _ (by omega)).trans ebk2)
  have e4 : ps5 (4) = xmul (ps (21 + 2 * k2)) (ps (22 + 2 * k1)) := (congrFun hps _).trans ((va_up_ne _ _ (by omega)).trans e4)
  have hk7 : ∀ i, i < 2 ∨ 21 ≤ i → ps5 i = ps i := fun i hi => (congrFun hps i).trans ((va_up_ne _ _ (by omega)).trans (hk7 i hi))
  have e2 : ps5 (2) = xgat (xmul (ps (21 + 2 * k1)) (ps (22 + 2 * k2))) (xO 1) (xmul (ps (21 + 2 * k2)) (ps (22 + 2 * k1))) 0 := by rw [hps, va_up_self]
  refine lv_aload_n hx hb dX4_add_58 rfl (lv_at hl 2 rfl) ?_
  refine xw_get C hw hC.x (ci := 3) rfl iX4_add_X4 5 (by decide) (by decide +kernel) rfl dX4_add_59 ?_
  refine lv_aload_n hx hb dX4_add_62 rfl (lv_at hl 1 rfl) ?_
  refine xw_get C hw (hC.fo k1 hk1) (ci := 1) rfl iX4_add_X1 1 (by decide) (by decide +kernel) rfl dX4_add_63 ?_
  refine lv_aload hx hb dX4_add_66 (lv_at hl 0 rfl) ?_
  refine xw_get C hw (hC.fo k2 hk2) (ci := 1) rfl iX4_add_X1 1 (by decide) (by decide +kernel) rfl dX4_add_68 ?_
  refine xw_cv (xw_V (n := 2) (rest := []) C hw (kX3_setProduct l G B _ (pa 3) (ra 3) 64 (ps5 3) (pa (22 + 2 * k1)) (ra (22 + 2 * k1)) (cp (22 + 2 * k1)) (ps (22 + 2 * k1)) (pa (22 + 2 * k2)) (ra (22 + 2 * k2)) (cp (22 + 2 * k2)) (ps (22 + 2 * k2)) (hC.pw 3 (by omega) (by omega) rfl) (hC.pe (22 + 2 * k1) (by omega) ebk1) (hC.pe (22 + 2 * k2) (by omega) ebk2) (hC.pn (by omega) (by omega) (by omega)) (hC.rn (by omega) (by omega) (by omega)) (hC.pn (by omega) (by omega) (by omega)) (hC.rn (by omega) (by omega) (by omega)) (Nat.le_trans (Nat.add_le_add (xlen_sle sbk1) (xlen_sle sbk2)) (by decide))) gX4_add_X3_setProduct rfl rfl rfl (by decide +kernel) ⟨Nat.le_of_ble_eq_true rfl, Nat.le_of_ble_eq_true rfl⟩ (hC.p 3 (by omega)).1 rfl rfl hl.1 rfl (Nat.le_of_ble_eq_true rfl) dX4_add_71 ⟨Nat.le_of_ble_eq_true rfl, Nat.le_of_ble_eq_true rfl⟩ hS) hS (fun u H locs hpp hw hS => ?_)
  rw [hpp] at hw
  have hC := hC.set (i := 3) (by omega) (hC.cap (by omega) (by omega)) (f := xmul (ps (22 + 2 * k1)) (ps (22 + 2 * k2))) (xsup_mono (xmul_sup sbk1 sbk2) (by decide))
  obtain ⟨ps6, hps⟩ : ∃ zz9, zz9 = va_up ps5 (3) (xmul (ps (22 + 2 * k1)) (ps (22 + 2 * k2))) := ⟨_, rfl⟩
  rw [← hps] at hC
  have etk1 : ps6 (21 + 2 * k1) = (ps (21 + 2 * k1)) := (congrFun hps _).trans ((va_up_ne _ _ (by omega)).trans etk1)
  have ebk1 : ps6 (22 + 2 * k1) = (ps (22 + 2 * k1)) := (congrFun hps _).trans ((va_up_ne _ _ (by omega)).trans ebk1)
  have etk2 : ps6 (21 + 2 * k2) = (ps (21 + 2 * k2)) := (congrFun hps _).trans ((va_up_ne _ _ (by omega)).trans etk2)
  have ebk2 : ps6 (22 + 2 * k2) = (ps (22 + 2 * k2)) := (congrFun hps _).trans ((va_up_ne _ _ (by omega)).trans ebk2)
  have e4 : ps6 (4) = xmul (ps (21 + 2 * k2)) (ps (22 + 2 * k1)) := (congrFun hps _).trans ((va_up_ne _ _ (by omega)).trans e4)
  have e2 : ps6 (2) = xgat (xmul (ps (21 + 2 * k1)) (ps (22 + 2 * k2))) (xO 1) (xmul (ps (21 + 2 * k2)) (ps (22 + 2 * k1))) 0 := (congrFun hps _).trans ((va_up_ne _ _ (by omega)).trans e2)
  have hk7 : ∀ i, i < 2 ∨ 21 ≤ i → ps6 i = ps i := fun i hi => (congrFun hps i).trans ((va_up_ne _ _ (by omega)).trans (hk7 i hi))
  have e3 : ps6 (3) = xmul (ps (22 + 2 * k1)) (ps (22 + 2 * k2)) := by rw [hps, va_up_self]
  refine lv_aload_n hx hb dX4_add_74 rfl (lv_at hl 2 rfl) ?_
  refine xx_ci C hno (xx_V (n := 0) (rest := []) C hw hz (kX4_keepResult l hl9 G B _ pa ra cp fr ad md ps6 eo tb wr hC (xgat (xmul (ps (21 + 2 * k1)) (ps (22 + 2 * k2))) (xO 1) (xmul (ps (21 + 2 * k2)) (ps (22 + 2 * k1))) 0) (xmul (ps (22 + 2 * k1)) (ps (22 + 2 * k2))) e2 e3 (xlen_mul_ne sbk1 sbk2 (by decide) (by decide) (by decide) snk1 snk2)) gX4_add_X4_keepResult rfl rfl rfl (by decide +kernel) ⟨Nat.le_of_ble_eq_true rfl, Nat.le_of_ble_eq_true rfl⟩ hC.x rfl rfl hl.1 rfl (Nat.le_of_ble_eq_true rfl) dX4_add_75 ⟨Nat.le_of_ble_eq_true rfl, Nat.le_of_ble_eq_true rfl⟩ hS) hS (Nat.le_of_ble_eq_true rfl) (Nat.le_of_ble_eq_true rfl) (fun E u h => Or.inr ⟨k1, k2, hk1, hk2, rfl, rfl, h.trans hk7⟩) (fun rz z H locs hz9 hw hS => ?_)
  refine vx_ret ?_
  exact xw_iret C hw hS (Nat.le_of_ble_eq_true rfl) (Nat.le_of_ble_eq_true rfl) (⟨k1, k2, hk1, hk2, rfl, rfl, hz9.trans hk7⟩) dX4_add_78

abbrev rmX4_times : Room := { frames := 8, cells := 12, slots := 200, locals := 143 }
theorem iX4_times_X1 : ∀ w ∈ wsX10, w ∈ wsX4_times := by decide +kernel
theorem iX4_times_X4 : ∀ w ∈ wsX40, w ∈ wsX4_times := by decide +kernel
set_option maxHeartbeats 4000000 in
set_option maxRecDepth 100000 in
theorem kX4_times (l : Launch) (hl9 : l.stackTraces = false) (G : xG) (B : Nat) (w : xM) (pa ra cp fr ad : Nat → Nat) (md : Nat) (ps : Nat → xP) (eo : Nat → Option Nat) (tb : Nat → Bool) (wr : xM) (hC : xCL G w pa ra cp fr ad md ps eo tb wr) (hF : ∀ k, k < md → xsup (ps (21 + 2 * k)) 21 ∧ xsup (ps (22 + 2 * k)) 21 ∧ xlen (ps (22 + 2 * k)) 64 ≠ 0) (x y : Int32) : vx_Met l yX4_times wsX4_times rmX4_times (va_Pc [.ref (ad 0), .int x, .int y] (xBz G B w)) (va_Qi (fun r u => ∃ k1 k2, k1 < md ∧ k2 < md ∧ x = nI k1 ∧ y = nI k2 ∧ xMk G ad md ps wr (xmul (ps (21 + 2 * k1)) (ps (21 + 2 * k2))) (xmul (ps (22 + 2 * k1)) (ps (22 + 2 * k2))) r u) (xE G B) (xA B)) (xXC G B (fun E u => (E = eI ∧ ¬ (xIs md x ∧ xIs md y) ∧ xKp G pa ra cp fr ad md ps wr u) ∨ (∃ k1 k2, k1 < md ∧ k2 < md ∧ x = nI k1 ∧ y = nI k2 ∧ xMkE G pa ra cp fr ad md ps wr (xmul (ps (21 + 2 * k1)) (ps (21 + 2 * k2))) (xmul (ps (22 + 2 * k1)) (ps (22 + 2 * k2))) E u))) 12 200 (xA B) := by
  refine xx_start (own := RX4) (mn := "times") (cc := cX4_times) (nL := 5) (rt := (some .int)) (by decide) rfl rfl rfl (Nat.le_of_ble_eq_true rfl) ?_
  intro p ev s m below meth cd ls C hl hw hS hz hno
  obtain ⟨hx, hb, -, -, -, hts, -, -, -, -⟩ := id C
  have hl : lv_has ls 5 [(0, .ref (ad 0)), (1, .int x), (2, .int y)] := hl
  have hself := xKp.self hC
  refine lv_aload_n hx hb dX4_times_0 rfl (lv_at hl 0 rfl) ?_
  refine lv_iload_n hx hb dX4_times_1 rfl (lv_at hl 1 rfl) ?_
  refine xx_cr C hno (xx_V (n := 1) (rest := []) C hw hz (kX4_known l hl9 G B _ pa ra cp fr ad md ps eo tb wr hC x) gX4_times_X4_known rfl rfl rfl (by decide +kernel) ⟨Nat.le_of_ble_eq_true rfl, Nat.le_of_ble_eq_true rfl⟩ hC.x rfl rfl hl.1 rfl (Nat.le_of_ble_eq_true rfl) dX4_times_2 ⟨Nat.le_of_ble_eq_true rfl, Nat.le_of_ble_eq_true rfl⟩ hS) hS (Nat.le_of_ble_eq_true rfl) (Nat.le_of_ble_eq_true rfl) (fun E u h => Or.inl ⟨h.1, fun q => h.2.1 q.1, by rw [h.2.2]; exact hself⟩) (fun rq q H locs hq hw hS => ?_)
  obtain ⟨k1, hk1, rfl, hrq, hu⟩ := hq
  rw [hu] at hw
  refine xw_tv (y := .ref (fr k1)) (by rw [hrq]) ?_
  refine lv_astore_n (lv' := [(3, .ref (fr k1)), (0, .ref (ad 0)), (1, .int (nI k1)), (2, .int y)]) hx hb dX4_times_5 rfl hl (by decide) rfl (fun ls hl => ?_)
  refine lv_aload_n hx hb dX4_times_6 rfl (lv_at hl 1 rfl) ?_
  refine lv_iload_n hx hb dX4_times_7 rfl (lv_at hl 3 rfl) ?_
  refine xx_cr C hno (xx_V (n := 1) (rest := []) C hw hz (kX4_known l hl9 G B _ pa ra cp fr ad md ps eo tb wr hC y) gX4_times_X4_known rfl rfl rfl (by decide +kernel) ⟨Nat.le_of_ble_eq_true rfl, Nat.le_of_ble_eq_true rfl⟩ hC.x rfl rfl hl.1 rfl (Nat.le_of_ble_eq_true rfl) dX4_times_8 ⟨Nat.le_of_ble_eq_true rfl, Nat.le_of_ble_eq_true rfl⟩ hS) hS (Nat.le_of_ble_eq_true rfl) (Nat.le_of_ble_eq_true rfl) (fun E u h => Or.inl ⟨h.1, fun q => h.2.1 q.2, by rw [h.2.2]; exact hself⟩) (fun rq q H locs hq hw hS => ?_)
  obtain ⟨k2, hk2, rfl, hrq, hu⟩ := hq
  rw [hu] at hw
  refine xw_tv (y := .ref (fr k2)) (by rw [hrq]) ?_
  refine lv_astore (lv' := [(4, .ref (fr k2)), (3, .ref (fr k1)), (0, .ref (ad 0)), (1, .int (nI k1)), (2, .int (nI k2))]) hx hb dX4_times_11 hl (by decide) rfl (fun ls hl => ?_)
  have hk7 : ∀ i, i < 2 ∨ 21 ≤ i → ps i = ps i := fun _ _ => rfl
  have etk1 : ps (21 + 2 * k1) = (ps (21 + 2 * k1)) := rfl
  have ebk1 : ps (22 + 2 * k1) = (ps (22 + 2 * k1)) := rfl
  obtain ⟨stk1, sbk1, snk1⟩ := hF k1 hk1
  have etk2 : ps (21 + 2 * k2) = (ps (21 + 2 * k2)) := rfl
  have ebk2 : ps (22 + 2 * k2) = (ps (22 + 2 * k2)) := rfl
  obtain ⟨stk2, sbk2, snk2⟩ := hF k2 hk2
  refine lv_aload_n hx hb dX4_times_13 rfl (lv_at hl 2 rfl) ?_
  refine xw_get C hw hC.x (ci := 3) rfl iX4_times_X4 4 (by decide) (by decide +kernel) rfl dX4_times_14 ?_
  refine lv_aload_n hx hb dX4_times_17 rfl (lv_at hl 1 rfl) ?_
  refine xw_get C hw (hC.fo k1 hk1) (ci := 1) rfl iX4_times_X1 0 (by decide) (by decide +kernel) rfl dX4_times_18 ?_
  refine lv_aload hx hb dX4_times_21 (lv_at hl 0 rfl) ?_
  refine xw_get C hw (hC.fo k2 hk2) (ci := 1) rfl iX4_times_X1 0 (by decide) (by decide +kernel) rfl dX4_times_23 ?_
  refine xw_cv (xw_V (n := 2) (rest := []) C hw (kX3_setProduct l G B _ (pa 2) (ra 2) 64 (ps 2) (pa (21 + 2 * k1)) (ra (21 + 2 * k1)) (cp (21 + 2 * k1)) (ps (21 + 2 * k1)) (pa (21 + 2 * k2)) (ra (21 + 2 * k2)) (cp (21 + 2 * k2)) (ps (21 + 2 * k2)) (hC.pw 2 (by omega) (by omega) rfl) (hC.pe (21 + 2 * k1) (by omega) etk1) (hC.pe (21 + 2 * k2) (by omega) etk2) (hC.pn (by omega) (by omega) (by omega)) (hC.rn (by omega) (by omega) (by omega)) (hC.pn (by omega) (by omega) (by omega)) (hC.rn (by omega) (by omega) (by omega)) (Nat.le_trans (Nat.add_le_add (xlen_sle stk1) (xlen_sle stk2)) (by decide))) gX4_times_X3_setProduct rfl rfl rfl (by decide +kernel) ⟨Nat.le_of_ble_eq_true rfl, Nat.le_of_ble_eq_true rfl⟩ (hC.p 2 (by omega)).1 rfl rfl hl.1 rfl (Nat.le_of_ble_eq_true rfl) dX4_times_26 ⟨Nat.le_of_ble_eq_true rfl, Nat.le_of_ble_eq_true rfl⟩ hS) hS (fun u H locs hpp hw hS => ?_)
  rw [hpp] at hw
  have hC := hC.set (i := 2) (by omega) (hC.cap (by omega) (by omega)) (f := xmul (ps (21 + 2 * k1)) (ps (21 + 2 * k2))) (xsup_mono (xmul_sup stk1 stk2) (by decide))
  obtain ⟨ps3, hps⟩ : ∃ zz9, zz9 = va_up ps (2) (xmul (ps (21 + 2 * k1)) (ps (21 + 2 * k2))) := ⟨_, rfl⟩
  rw [← hps] at hC
  have etk1 : ps3 (21 + 2 * k1) = (ps (21 + 2 * k1)) := (congrFun hps _).trans ((va_up_ne _ _ (by omega)).trans etk1)
  have ebk1 : ps3 (22 + 2 * k1) = (ps (22 + 2 * k1)) := (congrFun hps _).trans ((va_up_ne _ _ (by omega)).trans ebk1)
  have etk2 : ps3 (21 + 2 * k2) = (ps (21 + 2 * k2)) := (congrFun hps _).trans ((va_up_ne _ _ (by omega)).trans etk2)
  have ebk2 : ps3 (22 + 2 * k2) = (ps (22 + 2 * k2)) := (congrFun hps _).trans ((va_up_ne _ _ (by omega)).trans ebk2)
  have hk7 : ∀ i, i < 2 ∨ 21 ≤ i → ps3 i = ps i := fun i hi => (congrFun hps i).trans ((va_up_ne _ _ (by omega)).trans (hk7 i hi))
  have e2 : ps3 (2) = xmul (ps (21 + 2 * k1)) (ps (21 + 2 * k2)) := by rw [hps, va_up_self]
  refine lv_aload_n hx hb dX4_times_29 rfl (lv_at hl 2 rfl) ?_
  refine xw_get C hw hC.x (ci := 3) rfl iX4_times_X4 5 (by decide) (by decide +kernel) rfl dX4_times_30 ?_
  refine lv_aload_n hx hb dX4_times_33 rfl (lv_at hl 1 rfl) ?_
  refine xw_get C hw (hC.fo k1 hk1) (ci := 1) rfl iX4_times_X1 1 (by decide) (by decide +kernel) rfl dX4_times_34 ?_
  refine lv_aload hx hb dX4_times_37 (lv_at hl 0 rfl) ?_
  refine xw_get C hw (hC.fo k2 hk2) (ci := 1) rfl iX4_times_X1 1 (by decide) (by decide +kernel) rfl dX4_times_39 ?_
  refine xw_cv (xw_V (n := 2) (rest := []) C hw (kX3_setProduct l G B _ (pa 3) (ra 3) 64 (ps3 3) (pa (22 + 2 * k1)) (ra (22 + 2 * k1)) (cp (22 + 2 * k1)) (ps (22 + 2 * k1)) (pa (22 + 2 * k2)) (ra (22 + 2 * k2)) (cp (22 + 2 * k2)) (ps (22 + 2 * k2)) (hC.pw 3 (by omega) (by omega) rfl) (hC.pe (22 + 2 * k1) (by omega) ebk1) (hC.pe (22 + 2 * k2) (by omega) ebk2) (hC.pn (by omega) (by omega) (by omega)) (hC.rn (by omega) (by omega) (by omega)) (hC.pn (by omega) (by omega) (by omega)) (hC.rn (by omega) (by omega) (by omega)) (Nat.le_trans (Nat.add_le_add (xlen_sle sbk1) (xlen_sle sbk2)) (by decide))) gX4_times_X3_setProduct rfl rfl rfl (by decide +kernel) ⟨Nat.le_of_ble_eq_true rfl, Nat.le_of_ble_eq_true rfl⟩ (hC.p 3 (by omega)).1 rfl rfl hl.1 rfl (Nat.le_of_ble_eq_true rfl) dX4_times_42 ⟨Nat.le_of_ble_eq_true rfl, Nat.le_of_ble_eq_true rfl⟩ hS) hS (fun u H locs hpp hw hS => ?_)
  rw [hpp] at hw
  have hC := hC.set (i := 3) (by omega) (hC.cap (by omega) (by omega)) (f := xmul (ps (22 + 2 * k1)) (ps (22 + 2 * k2))) (xsup_mono (xmul_sup sbk1 sbk2) (by decide))
  obtain ⟨ps4, hps⟩ : ∃ zz9, zz9 = va_up ps3 (3) (xmul (ps (22 + 2 * k1)) (ps (22 + 2 * k2))) := ⟨_, rfl⟩
  rw [← hps] at hC
  have etk1 : ps4 (21 + 2 * k1) = (ps (21 + 2 * k1)) := (congrFun hps _).trans ((va_up_ne _ _ (by omega)).trans etk1)
  have ebk1 : ps4 (22 + 2 * k1) = (ps (22 + 2 * k1)) := (congrFun hps _).trans ((va_up_ne _ _ (by omega)).trans ebk1)
  have etk2 : ps4 (21 + 2 * k2) = (ps (21 + 2 * k2)) := (congrFun hps _).trans ((va_up_ne _ _ (by omega)).trans etk2)
  have ebk2 : ps4 (22 + 2 * k2) = (ps (22 + 2 * k2)) := (congrFun hps _).trans ((va_up_ne _ _ (by omega)).trans ebk2)
  have e2 : ps4 (2) = xmul (ps (21 + 2 * k1)) (ps (21 + 2 * k2)) := (congrFun hps _).trans ((va_up_ne _ _ (by omega)).trans e2)
  have hk7 : ∀ i, i < 2 ∨ 21 ≤ i → ps4 i = ps i := fun i hi => (congrFun hps i).trans ((va_up_ne _ _ (by omega)).trans (hk7 i hi))
  have e3 : ps4 (3) = xmul (ps (22 + 2 * k1)) (ps (22 + 2 * k2)) := by rw [hps, va_up_self]
  refine lv_aload_n hx hb dX4_times_45 rfl (lv_at hl 2 rfl) ?_
  refine xx_ci C hno (xx_V (n := 0) (rest := []) C hw hz (kX4_keepResult l hl9 G B _ pa ra cp fr ad md ps4 eo tb wr hC (xmul (ps (21 + 2 * k1)) (ps (21 + 2 * k2))) (xmul (ps (22 + 2 * k1)) (ps (22 + 2 * k2))) e2 e3 (xlen_mul_ne sbk1 sbk2 (by decide) (by decide) (by decide) snk1 snk2)) gX4_times_X4_keepResult rfl rfl rfl (by decide +kernel) ⟨Nat.le_of_ble_eq_true rfl, Nat.le_of_ble_eq_true rfl⟩ hC.x rfl rfl hl.1 rfl (Nat.le_of_ble_eq_true rfl) dX4_times_46 ⟨Nat.le_of_ble_eq_true rfl, Nat.le_of_ble_eq_true rfl⟩ hS) hS (Nat.le_of_ble_eq_true rfl) (Nat.le_of_ble_eq_true rfl) (fun E u h => Or.inr ⟨k1, k2, hk1, hk2, rfl, rfl, h.trans hk7⟩) (fun rz z H locs hz9 hw hS => ?_)
  refine vx_ret ?_
  exact xw_iret C hw hS (Nat.le_of_ble_eq_true rfl) (Nat.le_of_ble_eq_true rfl) (⟨k1, k2, hk1, hk2, rfl, rfl, hz9.trans hk7⟩) dX4_times_49

abbrev rmX4_over : Room := { frames := 8, cells := 12, slots := 200, locals := 143 }
theorem iX4_over_X1 : ∀ w ∈ wsX10, w ∈ wsX4_over := by decide +kernel
theorem iX4_over_X4 : ∀ w ∈ wsX40, w ∈ wsX4_over := by decide +kernel
set_option maxHeartbeats 4000000 in
set_option maxRecDepth 100000 in
theorem kX4_over (l : Launch) (hl9 : l.stackTraces = false) (G : xG) (B : Nat) (w : xM) (pa ra cp fr ad : Nat → Nat) (md : Nat) (ps : Nat → xP) (eo : Nat → Option Nat) (tb : Nat → Bool) (wr : xM) (hC : xCL G w pa ra cp fr ad md ps eo tb wr) (hF : ∀ k, k < md → xsup (ps (21 + 2 * k)) 21 ∧ xsup (ps (22 + 2 * k)) 21 ∧ xlen (ps (22 + 2 * k)) 64 ≠ 0) (x y : Int32) : vx_Met l yX4_over wsX4_over rmX4_over (va_Pc [.ref (ad 0), .int x, .int y] (xBz G B w)) (va_Qi (fun r u => ∃ k1 k2, k1 < md ∧ k2 < md ∧ x = nI k1 ∧ y = nI k2 ∧ xlen (ps (21 + 2 * k2)) 64 ≠ 0 ∧ xMk G ad md ps wr (xmul (ps (21 + 2 * k1)) (ps (22 + 2 * k2))) (xmul (ps (22 + 2 * k1)) (ps (21 + 2 * k2))) r u) (xE G B) (xA B)) (xXC G B (fun E u => (E = eI ∧ ¬ (xIs md x ∧ xIs md y) ∧ xKp G pa ra cp fr ad md ps wr u) ∨ (∃ k1 k2, k1 < md ∧ k2 < md ∧ x = nI k1 ∧ y = nI k2 ∧ xlen (ps (21 + 2 * k2)) 64 ≠ 0 ∧ xMkE G pa ra cp fr ad md ps wr (xmul (ps (21 + 2 * k1)) (ps (22 + 2 * k2))) (xmul (ps (22 + 2 * k1)) (ps (21 + 2 * k2))) E u) ∨ (E = eA ∧ (∃ k1 k2, k1 < md ∧ k2 < md ∧ x = nI k1 ∧ y = nI k2 ∧ xlen (ps (21 + 2 * k2)) 64 = 0) ∧ xKp G pa ra cp fr ad md ps wr u))) 12 200 (xA B) := by
  refine xx_start (own := RX4) (mn := "over") (cc := cX4_over) (nL := 5) (rt := (some .int)) (by decide) rfl rfl rfl (Nat.le_of_ble_eq_true rfl) ?_
  intro p ev s m below meth cd ls C hl hw hS hz hno
  obtain ⟨hx, hb, -, -, -, hts, -, -, -, -⟩ := id C
  have hl : lv_has ls 5 [(0, .ref (ad 0)), (1, .int x), (2, .int y)] := hl
  have hself := xKp.self hC
  refine lv_aload_n hx hb dX4_over_0 rfl (lv_at hl 0 rfl) ?_
  refine lv_iload_n hx hb dX4_over_1 rfl (lv_at hl 1 rfl) ?_
  refine xx_cr C hno (xx_V (n := 1) (rest := []) C hw hz (kX4_known l hl9 G B _ pa ra cp fr ad md ps eo tb wr hC x) gX4_over_X4_known rfl rfl rfl (by decide +kernel) ⟨Nat.le_of_ble_eq_true rfl, Nat.le_of_ble_eq_true rfl⟩ hC.x rfl rfl hl.1 rfl (Nat.le_of_ble_eq_true rfl) dX4_over_2 ⟨Nat.le_of_ble_eq_true rfl, Nat.le_of_ble_eq_true rfl⟩ hS) hS (Nat.le_of_ble_eq_true rfl) (Nat.le_of_ble_eq_true rfl) (fun E u h => Or.inl ⟨h.1, fun q => h.2.1 q.1, by rw [h.2.2]; exact hself⟩) (fun rq q H locs hq hw hS => ?_)
  obtain ⟨k1, hk1, rfl, hrq, hu⟩ := hq
  rw [hu] at hw
  refine xw_tv (y := .ref (fr k1)) (by rw [hrq]) ?_
  refine lv_astore_n (lv' := [(3, .ref (fr k1)), (0, .ref (ad 0)), (1, .int (nI k1)), (2, .int y)]) hx hb dX4_over_5 rfl hl (by decide) rfl (fun ls hl => ?_)
  refine lv_aload_n hx hb dX4_over_6 rfl (lv_at hl 1 rfl) ?_
  refine lv_iload_n hx hb dX4_over_7 rfl (lv_at hl 3 rfl) ?_
  refine xx_cr C hno (xx_V (n := 1) (rest := []) C hw hz (kX4_known l hl9 G B _ pa ra cp fr ad md ps eo tb wr hC y) gX4_over_X4_known rfl rfl rfl (by decide +kernel) ⟨Nat.le_of_ble_eq_true rfl, Nat.le_of_ble_eq_true rfl⟩ hC.x rfl rfl hl.1 rfl (Nat.le_of_ble_eq_true rfl) dX4_over_8 ⟨Nat.le_of_ble_eq_true rfl, Nat.le_of_ble_eq_true rfl⟩ hS) hS (Nat.le_of_ble_eq_true rfl) (Nat.le_of_ble_eq_true rfl) (fun E u h => Or.inl ⟨h.1, fun q => h.2.1 q.2, by rw [h.2.2]; exact hself⟩) (fun rq q H locs hq hw hS => ?_)
  obtain ⟨k2, hk2, rfl, hrq, hu⟩ := hq
  rw [hu] at hw
  refine xw_tv (y := .ref (fr k2)) (by rw [hrq]) ?_
  refine lv_astore (lv' := [(4, .ref (fr k2)), (3, .ref (fr k1)), (0, .ref (ad 0)), (1, .int (nI k1)), (2, .int (nI k2))]) hx hb dX4_over_11 hl (by decide) rfl (fun ls hl => ?_)
  have hk7 : ∀ i, i < 2 ∨ 21 ≤ i → ps i = ps i := fun _ _ => rfl
  have etk1 : ps (21 + 2 * k1) = (ps (21 + 2 * k1)) := rfl
  have ebk1 : ps (22 + 2 * k1) = (ps (22 + 2 * k1)) := rfl
  obtain ⟨stk1, sbk1, snk1⟩ := hF k1 hk1
  have etk2 : ps (21 + 2 * k2) = (ps (21 + 2 * k2)) := rfl
  have ebk2 : ps (22 + 2 * k2) = (ps (22 + 2 * k2)) := rfl
  obtain ⟨stk2, sbk2, snk2⟩ := hF k2 hk2
  refine lv_aload hx hb dX4_over_13 (lv_at hl 0 rfl) ?_
  refine xw_get C hw (hC.fo k2 hk2) (ci := 1) rfl iX4_over_X1 0 (by decide) (by decide +kernel) rfl dX4_over_15 ?_
  refine xw_ci (xw_V (n := 0) (rest := []) C hw (kX3_isZero l G B w (pa (21 + 2 * k2)) (ra (21 + 2 * k2)) (cp (21 + 2 * k2)) (ps (21 + 2 * k2)) (hC.p (21 + 2 * k2) (by omega))) gX4_over_X3_isZero rfl rfl rfl (by decide +kernel) ⟨Nat.le_of_ble_eq_true rfl, Nat.le_of_ble_eq_true rfl⟩ (hC.p (21 + 2 * k2) (by omega)).1 rfl rfl hl.1 rfl (Nat.le_of_ble_eq_true rfl) dX4_over_18 ⟨Nat.le_of_ble_eq_true rfl, Nat.le_of_ble_eq_true rfl⟩ hS) hS (fun rq q H locs hq hw hS => ?_)
  obtain ⟨hq, hu⟩ := hq
  rw [hu] at hw
  rw [← xz64 hC (show 21 + 2 * k2 < 21 + 2 * md by omega)] at hq
  rcases hq with ⟨hq, hzz⟩ | ⟨hq, hzz⟩
  · skip
    refine xw_ti (y := 1) (hq) ?_
    refine lv_if_eq (tgt := 34) hx hb dX4_over_21 (by decide) (fun hc => absurd hc (by decide)) (fun _ => ?_)
    exact xx_throw C hno hl9 hz hw hS hl.1 (cls := eA) (by decide +kernel) (by decide +kernel) (by decide +kernel) (by decide +kernel) (is := 101) (text := (xTx.lookup 101).getD "") (by decide +kernel) (by decide +kernel) (by decide +kernel) (by decide +kernel) dX4_over_24 dX4_over_27 dX4_over_28 dX4_over_30 dX4_over_33 (Nat.le_of_ble_eq_true rfl) (Nat.le_of_ble_eq_true rfl) (Nat.le_of_ble_eq_true rfl) (Nat.le_of_ble_eq_true rfl) (Nat.le_of_ble_eq_true rfl) (Nat.le_of_ble_eq_true rfl) (Or.inr (Or.inr ⟨rfl, ⟨k1, k2, hk1, hk2, rfl, rfl, hzz⟩, hself⟩))
  · skip
    refine xw_ti (y := 0) (hq) ?_
    refine lv_if_eq (tgt := 34) hx hb dX4_over_21 (by decide) (fun _ => ?_) (fun hc => absurd (rfl) hc)
    refine lv_aload_n hx hb dX4_over_34 rfl (lv_at hl 2 rfl) ?_
    refine xw_get C hw hC.x (ci := 3) rfl iX4_over_X4 4 (by decide) (by decide +kernel) rfl dX4_over_35 ?_
    refine lv_aload_n hx hb dX4_over_38 rfl (lv_at hl 1 rfl) ?_
    refine xw_get C hw (hC.fo k1 hk1) (ci := 1) rfl iX4_over_X1 0 (by decide) (by decide +kernel) rfl dX4_over_39 ?_
    refine lv_aload hx hb dX4_over_42 (lv_at hl 0 rfl) ?_
    refine xw_get C hw (hC.fo k2 hk2) (ci := 1) rfl iX4_over_X1 1 (by decide) (by decide +kernel) rfl dX4_over_44 ?_
    refine xw_cv (xw_V (n := 2) (rest := []) C hw (kX3_setProduct l G B _ (pa 2) (ra 2) 64 (ps 2) (pa (21 + 2 * k1)) (ra (21 + 2 * k1)) (cp (21 + 2 * k1)) (ps (21 + 2 * k1)) (pa (22 + 2 * k2)) (ra (22 + 2 * k2)) (cp (22 + 2 * k2)) (ps (22 + 2 * k2)) (hC.pw 2 (by omega) (by omega) rfl) (hC.pe (21 + 2 * k1) (by omega) etk1) (hC.pe (22 + 2 * k2) (by omega) ebk2) (hC.pn (by omega) (by omega) (by omega)) (hC.rn (by omega) (by omega) (by omega)) (hC.pn (by omega) (by omega) (by omega)) (hC.rn (by omega) (by omega) (by omega)) (Nat.le_trans (Nat.add_le_add (xlen_sle stk1) (xlen_sle sbk2)) (by decide))) gX4_over_X3_setProduct rfl rfl rfl (by decide +kernel) ⟨Nat.le_of_ble_eq_true rfl, Nat.le_of_ble_eq_true rfl⟩ (hC.p 2 (by omega)).1 rfl rfl hl.1 rfl (Nat.le_of_ble_eq_true rfl) dX4_over_47 ⟨Nat.le_of_ble_eq_true rfl, Nat.le_of_ble_eq_true rfl⟩ hS) hS (fun u H locs hpp hw hS => ?_)
    rw [hpp] at hw
    have hC := hC.set (i := 2) (by omega) (hC.cap (by omega) (by omega)) (f := xmul (ps (21 + 2 * k1)) (ps (22 + 2 * k2))) (xsup_mono (xmul_sup stk1 sbk2) (by decide))
    obtain ⟨ps3, hps⟩ : ∃ zz9, zz9 = va_up ps (2) (xmul (ps (21 + 2 * k1)) (ps (22 + 2 * k2))) := ⟨_, rfl⟩
    rw [← hps] at hC
    have etk1 : ps3 (21 + 2 * k1) = (ps (21 + 2 * k1)) := (congrFun hps _).trans ((va_up_ne _ _ (by omega)).trans etk1)
    have ebk1 : ps3 (22 + 2 * k1) = (ps (22 + 2 * k1)) := (congrFun hps _).trans ((va_up_ne _ _ (by omega)).trans ebk1)
    have etk2 : ps3 (21 + 2 * k2) = (ps (21 + 2 * k2)) := (congrFun hps _).trans ((va_up_ne _ _ (by omega)).trans etk2)
    have ebk2 : ps3 (22 + 2 * k2) = (ps (22 + 2 * k2)) := (congrFun hps _).trans ((va_up_ne _ _ (by omega)).trans ebk2)
    have hk7 : ∀ i, i < 2 ∨ 21 ≤ i → ps3 i = ps i := fun i hi => (congrFun hps i).trans ((va_up_ne _ _ (by omega)).trans (hk7 i hi))
    have e2 : ps3 (2) = xmul (ps (21 + 2 * k1)) (ps (22 + 2 * k2)) := by rw [hps, va_up_self]
    refine lv_aload_n hx hb dX4_over_50 rfl (lv_at hl 2 rfl) ?_
    refine xw_get C hw hC.x (ci := 3) rfl iX4_over_X4 5 (by decide) (by decide +kernel) rfl dX4_over_51 ?_
    refine lv_aload_n hx hb dX4_over_54 rfl (lv_at hl 1 rfl) ?_
    refine xw_get C hw (hC.fo k1 hk1) (ci := 1) rfl iX4_over_X1 1 (by decide) (by decide +kernel) rfl dX4_over_55 ?_
    refine lv_aload hx hb dX4_over_58 (lv_at hl 0 rfl) ?_
    refine xw_get C hw (hC.fo k2 hk2) (ci := 1) rfl iX4_over_X1 0 (by decide) (by decide +kernel) rfl dX4_over_60 ?_
    refine xw_cv (xw_V (n := 2) (rest := []) C hw (kX3_setProduct l G B _ (pa 3) (ra 3) 64 (ps3 3) (pa (22 + 2 * k1)) (ra (22 + 2 * k1)) (cp (22 + 2 * k1)) (ps (22 + 2 * k1)) (pa (21 + 2 * k2)) (ra (21 + 2 * k2)) (cp (21 + 2 * k2)) (ps (21 + 2 * k2)) (hC.pw 3 (by omega) (by omega) rfl) (hC.pe (22 + 2 * k1) (by omega) ebk1) (hC.pe (21 + 2 * k2) (by omega) etk2) (hC.pn (by omega) (by omega) (by omega)) (hC.rn (by omega) (by omega) (by omega)) (hC.pn (by omega) (by omega) (by omega)) (hC.rn (by omega) (by omega) (by omega)) (Nat.le_trans (Nat.add_le_add (xlen_sle sbk1) (xlen_sle stk2)) (by decide))) gX4_over_X3_setProduct rfl rfl rfl (by decide +kernel) ⟨Nat.le_of_ble_eq_true rfl, Nat.le_of_ble_eq_true rfl⟩ (hC.p 3 (by omega)).1 rfl rfl hl.1 rfl (Nat.le_of_ble_eq_true rfl) dX4_over_63 ⟨Nat.le_of_ble_eq_true rfl, Nat.le_of_ble_eq_true rfl⟩ hS) hS (fun u H locs hpp hw hS => ?_)
    rw [hpp] at hw
    have hC := hC.set (i := 3) (by omega) (hC.cap (by omega) (by omega)) (f := xmul (ps (22 + 2 * k1)) (ps (21 + 2 * k2))) (xsup_mono (xmul_sup sbk1 stk2) (by decide))
    obtain ⟨ps4, hps⟩ : ∃ zz9, zz9 = va_up ps3 (3) (xmul (ps (22 + 2 * k1)) (ps (21 + 2 * k2))) := ⟨_, rfl⟩
    rw [← hps] at hC
    have etk1 : ps4 (21 + 2 * k1) = (ps (21 + 2 * k1)) := (congrFun hps _).trans ((va_up_ne _ _ (by omega)).trans etk1)
    have ebk1 : ps4 (22 + 2 * k1) = (ps (22 + 2 * k1)) := (congrFun hps _).trans ((va_up_ne _ _ (by omega)).trans ebk1)
    have etk2 : ps4 (21 + 2 * k2) = (ps (21 + 2 * k2)) := (congrFun hps _).trans ((va_up_ne _ _ (by omega)).trans etk2)
    have ebk2 : ps4 (22 + 2 * k2) = (ps (22 + 2 * k2)) := (congrFun hps _).trans ((va_up_ne _ _ (by omega)).trans ebk2)
    have e2 : ps4 (2) = xmul (ps (21 + 2 * k1)) (ps (22 + 2 * k2)) := (congrFun hps _).trans ((va_up_ne _ _ (by omega)).trans e2)
    have hk7 : ∀ i, i < 2 ∨ 21 ≤ i → ps4 i = ps i := fun i hi => (congrFun hps i).trans ((va_up_ne _ _ (by omega)).trans (hk7 i hi))
    have e3 : ps4 (3) = xmul (ps (22 + 2 * k1)) (ps (21 + 2 * k2)) := by rw [hps, va_up_self]
    refine lv_aload_n hx hb dX4_over_66 rfl (lv_at hl 2 rfl) ?_
    refine xx_ci C hno (xx_V (n := 0) (rest := []) C hw hz (kX4_keepResult l hl9 G B _ pa ra cp fr ad md ps4 eo tb wr hC (xmul (ps (21 + 2 * k1)) (ps (22 + 2 * k2))) (xmul (ps (22 + 2 * k1)) (ps (21 + 2 * k2))) e2 e3 (xlen_mul_ne sbk1 stk2 (by decide) (by decide) (by decide) snk1 hzz)) gX4_over_X4_keepResult rfl rfl rfl (by decide +kernel) ⟨Nat.le_of_ble_eq_true rfl, Nat.le_of_ble_eq_true rfl⟩ hC.x rfl rfl hl.1 rfl (Nat.le_of_ble_eq_true rfl) dX4_over_67 ⟨Nat.le_of_ble_eq_true rfl, Nat.le_of_ble_eq_true rfl⟩ hS) hS (Nat.le_of_ble_eq_true rfl) (Nat.le_of_ble_eq_true rfl) (fun E u h => Or.inr (Or.inl ⟨k1, k2, hk1, hk2, rfl, rfl, hzz, h.trans hk7⟩)) (fun rz z H locs hz9 hw hS => ?_)
    refine vx_ret ?_
    exact xw_iret C hw hS (Nat.le_of_ble_eq_true rfl) (Nat.le_of_ble_eq_true rfl) (⟨k1, k2, hk1, hk2, rfl, rfl, hzz, hz9.trans hk7⟩) dX4_over_70

abbrev rmX4_moved : Room := { frames := 8, cells := 12, slots := 200, locals := 143 }
theorem iX4_moved_X1 : ∀ w ∈ wsX10, w ∈ wsX4_moved := by decide +kernel
theorem iX4_moved_X4 : ∀ w ∈ wsX40, w ∈ wsX4_moved := by decide +kernel
set_option maxHeartbeats 4000000 in
set_option maxRecDepth 100000 in
theorem kX4_moved (l : Launch) (hl9 : l.stackTraces = false) (G : xG) (B : Nat) (w : xM) (pa ra cp fr ad : Nat → Nat) (md : Nat) (ps : Nat → xP) (eo : Nat → Option Nat) (tb : Nat → Bool) (wr : xM) (hC : xCL G w pa ra cp fr ad md ps eo tb wr) (hF : ∀ k, k < md → xsup (ps (21 + 2 * k)) 21 ∧ xsup (ps (22 + 2 * k)) 21 ∧ xlen (ps (22 + 2 * k)) 64 ≠ 0) (x : Int32) : vx_Met l yX4_moved wsX4_moved rmX4_moved (va_Pc [.ref (ad 0), .int x] (xBz G B w)) (va_Qi (fun r u => ∃ k1, k1 < md ∧ x = nI k1 ∧ xMk G ad md ps wr (xmv 64 (ps (21 + 2 * k1))) (xmv 64 (ps (22 + 2 * k1))) r u) (xE G B) (xA B)) (xXC G B (fun E u => (E = eI ∧ ¬ xIs md x ∧ xKp G pa ra cp fr ad md ps wr u) ∨ (∃ k1, k1 < md ∧ x = nI k1 ∧ xMkE G pa ra cp fr ad md ps wr (xmv 64 (ps (21 + 2 * k1))) (xmv 64 (ps (22 + 2 * k1))) E u))) 12 200 (xA B) := by
  refine xx_start (own := RX4) (mn := "moved") (cc := cX4_moved) (nL := 3) (rt := (some .int)) (by decide) rfl rfl rfl (Nat.le_of_ble_eq_true rfl) ?_
  intro p ev s m below meth cd ls C hl hw hS hz hno
  obtain ⟨hx, hb, -, -, -, hts, -, -, -, -⟩ := id C
  have hl : lv_has ls 3 [(0, .ref (ad 0)), (1, .int x)] := hl
  have hself := xKp.self hC
  refine lv_aload_n hx hb dX4_moved_0 rfl (lv_at hl 0 rfl) ?_
  refine lv_iload_n hx hb dX4_moved_1 rfl (lv_at hl 1 rfl) ?_
  refine xx_cr C hno (xx_V (n := 1) (rest := []) C hw hz (kX4_known l hl9 G B _ pa ra cp fr ad md ps eo tb wr hC x) gX4_moved_X4_known rfl rfl rfl (by decide +kernel) ⟨Nat.le_of_ble_eq_true rfl, Nat.le_of_ble_eq_true rfl⟩ hC.x rfl rfl hl.1 rfl (Nat.le_of_ble_eq_true rfl) dX4_moved_2 ⟨Nat.le_of_ble_eq_true rfl, Nat.le_of_ble_eq_true rfl⟩ hS) hS (Nat.le_of_ble_eq_true rfl) (Nat.le_of_ble_eq_true rfl) (fun E u h => Or.inl ⟨h.1, h.2.1, by rw [h.2.2]; exact hself⟩) (fun rq q H locs hq hw hS => ?_)
  obtain ⟨k1, hk1, rfl, hrq, hu⟩ := hq
  rw [hu] at hw
  refine xw_tv (y := .ref (fr k1)) (by rw [hrq]) ?_
  refine lv_astore_n (lv' := [(2, .ref (fr k1)), (0, .ref (ad 0)), (1, .int (nI k1))]) hx hb dX4_moved_5 rfl hl (by decide) rfl (fun ls hl => ?_)
  have hk7 : ∀ i, i < 2 ∨ 21 ≤ i → ps i = ps i := fun _ _ => rfl
  have etk1 : ps (21 + 2 * k1) = (ps (21 + 2 * k1)) := rfl
  have ebk1 : ps (22 + 2 * k1) = (ps (22 + 2 * k1)) := rfl
  obtain ⟨stk1, sbk1, snk1⟩ := hF k1 hk1
  have smt : xsup (xmv 64 (ps (21 + 2 * k1))) 21 := xmv_sup (xsup_mono stk1 (by decide)) stk1
  have smb : xsup (xmv 64 (ps (22 + 2 * k1))) 21 := xmv_sup (xsup_mono sbk1 (by decide)) sbk1
  refine lv_aload_n hx hb dX4_moved_6 rfl (lv_at hl 1 rfl) ?_
  refine xw_get C hw hC.x (ci := 3) rfl iX4_moved_X4 4 (by decide) (by decide +kernel) rfl dX4_moved_7 ?_
  refine lv_aload_n hx hb dX4_moved_10 rfl (lv_at hl 0 rfl) ?_
  refine xw_get C hw (hC.fo k1 hk1) (ci := 1) rfl iX4_moved_X1 0 (by decide) (by decide +kernel) rfl dX4_moved_11 ?_
  refine xw_cv (xw_V (n := 1) (rest := []) C hw (kX3_copy l G B _ (pa 2) (ra 2) 64 (ps 2) (pa (21 + 2 * k1)) (ra (21 + 2 * k1)) (cp (21 + 2 * k1)) (ps (21 + 2 * k1)) (hC.pw 2 (by omega) (by omega) rfl) (hC.pe (21 + 2 * k1) (by omega) etk1) (hC.pn (by omega) (by omega) (by omega)) (hC.rn (by omega) (by omega) (by omega)) (Nat.le_trans (xlen_sle stk1) (by decide))) gX4_moved_X3_copy rfl rfl rfl (by decide +kernel) ⟨Nat.le_of_ble_eq_true rfl, Nat.le_of_ble_eq_true rfl⟩ (hC.p 2 (by omega)).1 rfl rfl hl.1 rfl (Nat.le_of_ble_eq_true rfl) dX4_moved_14 ⟨Nat.le_of_ble_eq_true rfl, Nat.le_of_ble_eq_true rfl⟩ hS) hS (fun u H locs hpp hw hS => ?_)
  rw [hpp] at hw
  have hC := hC.set (i := 2) (by omega) (hC.cap (by omega) (by omega)) (f := (ps (21 + 2 * k1))) (xsup_mono stk1 (by decide))
  obtain ⟨ps3, hps⟩ : ∃ zz9, zz9 = va_up ps (2) ((ps (21 + 2 * k1))) := ⟨_, rfl⟩
  rw [← hps] at hC
  have etk1 : ps3 (21 + 2 * k1) = (ps (21 + 2 * k1)) := (congrFun hps _).trans ((va_up_ne _ _ (by omega)).trans etk1)
  have ebk1 : ps3 (22 + 2 * k1) = (ps (22 + 2 * k1)) := (congrFun hps _).trans ((va_up_ne _ _ (by omega)).trans ebk1)
  have hk7 : ∀ i, i < 2 ∨ 21 ≤ i → ps3 i = ps i := fun i hi => (congrFun hps i).trans ((va_up_ne _ _ (by omega)).trans (hk7 i hi))
  have e2 : ps3 (2) = (ps (21 + 2 * k1)) := by rw [hps, va_up_self]
  refine lv_aload_n hx hb dX4_moved_17 rfl (lv_at hl 1 rfl) ?_
  refine xw_get C hw hC.x (ci := 3) rfl iX4_moved_X4 4 (by decide) (by decide +kernel) rfl dX4_moved_18 ?_
  refine xw_cv (xw_V (n := 0) (rest := []) C hw (kX3_moveByOne l G B _ (pa 2) (ra 2) 64 (ps (21 + 2 * k1)) (hC.pw 2 (by omega) (by omega) e2)) gX4_moved_X3_moveByOne rfl rfl rfl (by decide +kernel) ⟨Nat.le_of_ble_eq_true rfl, Nat.le_of_ble_eq_true rfl⟩ (hC.p 2 (by omega)).1 rfl rfl hl.1 rfl (Nat.le_of_ble_eq_true rfl) dX4_moved_21 ⟨Nat.le_of_ble_eq_true rfl, Nat.le_of_ble_eq_true rfl⟩ hS) hS (fun u H locs hpp hw hS => ?_)
  rw [hpp] at hw
  have hC := hC.set (i := 2) (by omega) (hC.cap (by omega) (by omega)) (f := xmv 64 (ps (21 + 2 * k1))) (xsup_mono smt (by decide))
  obtain ⟨ps4, hps⟩ : ∃ zz9, zz9 = va_up ps3 (2) (xmv 64 (ps (21 + 2 * k1))) := ⟨_, rfl⟩
  rw [← hps] at hC
  have etk1 : ps4 (21 + 2 * k1) = (ps (21 + 2 * k1)) := (congrFun hps _).trans ((va_up_ne _ _ (by omega)).trans etk1)
  have ebk1 : ps4 (22 + 2 * k1) = (ps (22 + 2 * k1)) := (congrFun hps _).trans ((va_up_ne _ _ (by omega)).trans ebk1)
  have hk7 : ∀ i, i < 2 ∨ 21 ≤ i → ps4 i = ps i := fun i hi => (congrFun hps i).trans ((va_up_ne _ _ (by omega)).trans (hk7 i hi))
  have e2 : ps4 (2) = xmv 64 (ps (21 + 2 * k1)) := by rw [hps, va_up_self]
  refine lv_aload_n hx hb dX4_moved_24 rfl (lv_at hl 1 rfl) ?_
  refine xw_get C hw hC.x (ci := 3) rfl iX4_moved_X4 5 (by decide) (by decide +kernel) rfl dX4_moved_25 ?_
  refine lv_aload_n hx hb dX4_moved_28 rfl (lv_at hl 0 rfl) ?_
  refine xw_get C hw (hC.fo k1 hk1) (ci := 1) rfl iX4_moved_X1 1 (by decide) (by decide +kernel) rfl dX4_moved_29 ?_
  refine xw_cv (xw_V (n := 1) (rest := []) C hw (kX3_copy l G B _ (pa 3) (ra 3) 64 (ps4 3) (pa (22 + 2 * k1)) (ra (22 + 2 * k1)) (cp (22 + 2 * k1)) (ps (22 + 2 * k1)) (hC.pw 3 (by omega) (by omega) rfl) (hC.pe (22 + 2 * k1) (by omega) ebk1) (hC.pn (by omega) (by omega) (by omega)) (hC.rn (by omega) (by omega) (by omega)) (Nat.le_trans (xlen_sle sbk1) (by decide))) gX4_moved_X3_copy rfl rfl rfl (by decide +kernel) ⟨Nat.le_of_ble_eq_true rfl, Nat.le_of_ble_eq_true rfl⟩ (hC.p 3 (by omega)).1 rfl rfl hl.1 rfl (Nat.le_of_ble_eq_true rfl) dX4_moved_32 ⟨Nat.le_of_ble_eq_true rfl, Nat.le_of_ble_eq_true rfl⟩ hS) hS (fun u H locs hpp hw hS => ?_)
  rw [hpp] at hw
  have hC := hC.set (i := 3) (by omega) (hC.cap (by omega) (by omega)) (f := (ps (22 + 2 * k1))) (xsup_mono sbk1 (by decide))
  obtain ⟨ps5, hps⟩ : ∃ zz9, zz9 = va_up ps4 (3) ((ps (22 + 2 * k1))) := ⟨_, rfl⟩
  rw [← hps] at hC
  have etk1 : ps5 (21 + 2 * k1) = (ps (21 + 2 * k1)) := (congrFun hps _).trans ((va_up_ne _ _ (by omega)).trans etk1)
  have ebk1 : ps5 (22 + 2 * k1) = (ps (22 + 2 * k1)) := (congrFun hps _).trans ((va_up_ne _ _ (by omega)).trans ebk1)
  have e2 : ps5 (2) = xmv 64 (ps (21 + 2 * k1)) := (congrFun hps _).trans ((va_up_ne _ _ (by omega)).trans e2)
  have hk7 : ∀ i, i < 2 ∨ 21 ≤ i → ps5 i = ps i := fun i hi => (congrFun hps i).trans ((va_up_ne _ _ (by omega)).trans (hk7 i hi))
  have e3 : ps5 (3) = (ps (22 + 2 * k1)) := by rw [hps, va_up_self]
  refine lv_aload_n hx hb dX4_moved_35 rfl (lv_at hl 1 rfl) ?_
  refine xw_get C hw hC.x (ci := 3) rfl iX4_moved_X4 5 (by decide) (by decide +kernel) rfl dX4_moved_36 ?_
  refine xw_cv (xw_V (n := 0) (rest := []) C hw (kX3_moveByOne l G B _ (pa 3) (ra 3) 64 (ps (22 + 2 * k1)) (hC.pw 3 (by omega) (by omega) e3)) gX4_moved_X3_moveByOne rfl rfl rfl (by decide +kernel) ⟨Nat.le_of_ble_eq_true rfl, Nat.le_of_ble_eq_true rfl⟩ (hC.p 3 (by omega)).1 rfl rfl hl.1 rfl (Nat.le_of_ble_eq_true rfl) dX4_moved_39 ⟨Nat.le_of_ble_eq_true rfl, Nat.le_of_ble_eq_true rfl⟩ hS) hS (fun u H locs hpp hw hS => ?_)
  rw [hpp] at hw
  have hC := hC.set (i := 3) (by omega) (hC.cap (by omega) (by omega)) (f := xmv 64 (ps (22 + 2 * k1))) (xsup_mono smb (by decide))
  obtain ⟨ps6, hps⟩ : ∃ zz9, zz9 = va_up ps5 (3) (xmv 64 (ps (22 + 2 * k1))) := ⟨_, rfl⟩
  rw [← hps] at hC
  have etk1 : ps6 (21 + 2 * k1) = (ps (21 + 2 * k1)) := (congrFun hps _).trans ((va_up_ne _ _ (by omega)).trans etk1)
  have ebk1 : ps6 (22 + 2 * k1) = (ps (22 + 2 * k1)) := (congrFun hps _).trans ((va_up_ne _ _ (by omega)).trans ebk1)
  have e2 : ps6 (2) = xmv 64 (ps (21 + 2 * k1)) := (congrFun hps _).trans ((va_up_ne _ _ (by omega)).trans e2)
  have hk7 : ∀ i, i < 2 ∨ 21 ≤ i → ps6 i = ps i := fun i hi => (congrFun hps i).trans ((va_up_ne _ _ (by omega)).trans (hk7 i hi))
  have e3 : ps6 (3) = xmv 64 (ps (22 + 2 * k1)) := by rw [hps, va_up_self]
  refine lv_aload_n hx hb dX4_moved_42 rfl (lv_at hl 1 rfl) ?_
  refine xx_ci C hno (xx_V (n := 0) (rest := []) C hw hz (kX4_keepResult l hl9 G B _ pa ra cp fr ad md ps6 eo tb wr hC (xmv 64 (ps (21 + 2 * k1))) (xmv 64 (ps (22 + 2 * k1))) e2 e3 (by rw [xmv_len (xsup_mono sbk1 (by decide))]; exact snk1)) gX4_moved_X4_keepResult rfl rfl rfl (by decide +kernel) ⟨Nat.le_of_ble_eq_true rfl, Nat.le_of_ble_eq_true rfl⟩ hC.x rfl rfl hl.1 rfl (Nat.le_of_ble_eq_true rfl) dX4_moved_43 ⟨Nat.le_of_ble_eq_true rfl, Nat.le_of_ble_eq_true rfl⟩ hS) hS (Nat.le_of_ble_eq_true rfl) (Nat.le_of_ble_eq_true rfl) (fun E u h => Or.inr ⟨k1, hk1, rfl, h.trans hk7⟩) (fun rz z H locs hz9 hw hS => ?_)
  refine vx_ret ?_
  exact xw_iret C hw hS (Nat.le_of_ble_eq_true rfl) (Nat.le_of_ble_eq_true rfl) (⟨k1, hk1, rfl, hz9.trans hk7⟩) dX4_moved_46

abbrev rmX4_step : Room := { frames := 8, cells := 12, slots := 200, locals := 143 }
set_option maxHeartbeats 4000000 in
set_option maxRecDepth 100000 in
theorem kX4_step (l : Launch) (hl9 : l.stackTraces = false) (G : xG) (B : Nat) (w : xM) (pa ra cp fr ad : Nat → Nat) (md : Nat) (ps : Nat → xP) (eo : Nat → Option Nat) (tb : Nat → Bool) (wr : xM) (hC : xCL G w pa ra cp fr ad md ps eo tb wr) (hF : ∀ k, k < md → xsup (ps (21 + 2 * k)) 21 ∧ xsup (ps (22 + 2 * k)) 21 ∧ xlen (ps (22 + 2 * k)) 64 ≠ 0) (x : Int32) : vx_Met l yX4_step wsX4_step rmX4_step (va_Pc [.ref (ad 0), .int x] (xBz G B w)) (va_Qi (fun r u => ∃ k1, k1 < md ∧ x = nI k1 ∧ xlen (ps 1) 64 ≠ 0 ∧ xMk G ad md ps wr (xgat (xmul (xmul (xmv 64 (ps (21 + 2 * k1))) (ps 0)) (ps (22 + 2 * k1))) (xO 32002) (xmul (xmul (xmv 64 (ps (22 + 2 * k1))) (ps 1)) (ps (21 + 2 * k1))) 0) (xmul (xmul (xmv 64 (ps (22 + 2 * k1))) (ps 1)) (ps (22 + 2 * k1))) r u) (xE G B) (xA B)) (xXC G B (fun E u => (E = eI ∧ ¬ xIs md x ∧ xKp G pa ra cp fr ad md ps wr u) ∨ (E = eA ∧ xIs md x ∧ xlen (ps 1) 64 = 0 ∧ xKp G pa ra cp fr ad md ps wr u) ∨ (∃ k1, k1 < md ∧ x = nI k1 ∧ xlen (ps 1) 64 ≠ 0 ∧ xMkE G pa ra cp fr ad md ps wr (xgat (xmul (xmul (xmv 64 (ps (21 + 2 * k1))) (ps 0)) (ps (22 + 2 * k1))) (xO 32002) (xmul (xmul (xmv 64 (ps (22 + 2 * k1))) (ps 1)) (ps (21 + 2 * k1))) 0) (xmul (xmul (xmv 64 (ps (22 + 2 * k1))) (ps 1)) (ps (22 + 2 * k1))) E u))) 12 200 (xA B) := by
  refine xx_start (own := RX4) (mn := "step") (cc := cX4_step) (nL := 3) (rt := (some .int)) (by decide) rfl rfl rfl (Nat.le_of_ble_eq_true rfl) ?_
  intro p ev s m below meth cd ls C hl hw hS hz hno
  obtain ⟨hx, hb, -, -, -, hts, -, -, -, -⟩ := id C
  have hl : lv_has ls 3 [(0, .ref (ad 0)), (1, .int x)] := hl
  have hself := xKp.self hC
  refine lv_aload_n hx hb dX4_step_0 rfl (lv_at hl 0 rfl) ?_
  refine lv_iload_n hx hb dX4_step_1 rfl (lv_at hl 1 rfl) ?_
  refine xx_cr C hno (xx_V (n := 1) (rest := []) C hw hz (kX4_known l hl9 G B _ pa ra cp fr ad md ps eo tb wr hC x) gX4_step_X4_known rfl rfl rfl (by decide +kernel) ⟨Nat.le_of_ble_eq_true rfl, Nat.le_of_ble_eq_true rfl⟩ hC.x rfl rfl hl.1 rfl (Nat.le_of_ble_eq_true rfl) dX4_step_2 ⟨Nat.le_of_ble_eq_true rfl, Nat.le_of_ble_eq_true rfl⟩ hS) hS (Nat.le_of_ble_eq_true rfl) (Nat.le_of_ble_eq_true rfl) (fun E u h => Or.inl ⟨h.1, h.2.1, by rw [h.2.2]; exact hself⟩) (fun rq q H locs hq hw hS => ?_)
  obtain ⟨k1, hk1, rfl, hrq, hu⟩ := hq
  rw [hu] at hw
  refine xw_tv (y := .ref (fr k1)) (by rw [hrq]) ?_
  refine lv_astore_n (lv' := [(2, .ref (fr k1)), (0, .ref (ad 0)), (1, .int (nI k1))]) hx hb dX4_step_5 rfl hl (by decide) rfl (fun ls hl => ?_)
  refine lv_aload_n hx hb dX4_step_6 rfl (lv_at hl 1 rfl) ?_
  refine xx_cv C hno (xx_V (n := 0) (rest := []) C hw hz (kX4_refuseZeroRatioBottom l hl9 G B _ pa ra cp fr ad md ps eo tb wr hC) gX4_step_X4_refuseZeroRatioBottom rfl rfl rfl (by decide +kernel) ⟨Nat.le_of_ble_eq_true rfl, Nat.le_of_ble_eq_true rfl⟩ hC.x rfl rfl hl.1 rfl (Nat.le_of_ble_eq_true rfl) dX4_step_7 ⟨Nat.le_of_ble_eq_true rfl, Nat.le_of_ble_eq_true rfl⟩ hS) hS (Nat.le_of_ble_eq_true rfl) (Nat.le_of_ble_eq_true rfl) (fun E u h => Or.inr (Or.inl ⟨h.1, ⟨k1, hk1, rfl⟩, h.2.1, by rw [h.2.2]; exact hself⟩)) (fun u H locs hq hw hS => ?_)
  obtain ⟨hB0, hu⟩ := hq
  rw [hu] at hw
  obtain ⟨stk1, sbk1, snk1⟩ := hF k1 hk1
  have sB : xsup (ps 1) 4 := by have q := (hC.p 1 (by omega)).2.2.1; rw [hC.2.2.2.1.2.1] at q; exact q
  refine lv_aload_n hx hb dX4_step_10 rfl (lv_at hl 1 rfl) ?_
  refine lv_aload_n hx hb dX4_step_11 rfl (lv_at hl 0 rfl) ?_
  refine xw_cv (xw_V (n := 1) (rest := []) C hw (kX4_setToStep l G B _ pa ra cp fr ad md ps eo tb wr hC k1 hk1 _ _ _ _ rfl rfl rfl rfl stk1 sbk1) gX4_step_X4_setToStep rfl rfl rfl (by decide +kernel) ⟨Nat.le_of_ble_eq_true rfl, Nat.le_of_ble_eq_true rfl⟩ hC.x rfl rfl hl.1 rfl (Nat.le_of_ble_eq_true rfl) dX4_step_12 ⟨Nat.le_of_ble_eq_true rfl, Nat.le_of_ble_eq_true rfl⟩ hS) hS (fun u1 H locs hq hw hS => ?_)
  obtain ⟨q, hC, e2, e3, hkp⟩ := hq
  have hk7 : ∀ i, i < 2 ∨ 21 ≤ i → q i = ps i := fun i hi => hkp i (by omega)
  refine lv_aload_n hx hb dX4_step_15 rfl (lv_at hl 1 rfl) ?_
  refine xx_ci C hno (xx_V (n := 0) (rest := []) C hw hz (kX4_keepResult l hl9 G B _ pa ra cp fr ad md q eo tb wr hC (xgat (xmul (xmul (xmv 64 (ps (21 + 2 * k1))) (ps 0)) (ps (22 + 2 * k1))) (xO 32002) (xmul (xmul (xmv 64 (ps (22 + 2 * k1))) (ps 1)) (ps (21 + 2 * k1))) 0) (xmul (xmul (xmv 64 (ps (22 + 2 * k1))) (ps 1)) (ps (22 + 2 * k1))) e2 e3 (xlen_mul_ne (xmul_sup (xmv_sup (xsup_mono sbk1 (by decide)) sbk1) sB) sbk1 (by decide) (by decide) (by decide) (xlen_mul_ne (xmv_sup (xsup_mono sbk1 (by decide)) sbk1) sB (by decide) (by decide) (by decide) (by rw [xmv_len (xsup_mono sbk1 (by decide))]; exact snk1) hB0) snk1)) gX4_step_X4_keepResult rfl rfl rfl (by decide +kernel) ⟨Nat.le_of_ble_eq_true rfl, Nat.le_of_ble_eq_true rfl⟩ hC.x rfl rfl hl.1 rfl (Nat.le_of_ble_eq_true rfl) dX4_step_16 ⟨Nat.le_of_ble_eq_true rfl, Nat.le_of_ble_eq_true rfl⟩ hS) hS (Nat.le_of_ble_eq_true rfl) (Nat.le_of_ble_eq_true rfl) (fun E u h => Or.inr (Or.inr ⟨k1, hk1, rfl, hB0, h.trans hk7⟩)) (fun rz z H locs hz9 hw hS => ?_)
  refine vx_ret ?_
  exact xw_iret C hw hS (Nat.le_of_ble_eq_true rfl) (Nat.le_of_ble_eq_true rfl) (⟨k1, hk1, rfl, hB0, hz9.trans hk7⟩) dX4_step_19

abbrev rmX4_proves : Room := { frames := 7, cells := 12, slots := 200, locals := 104 }
theorem iX4_proves_X1 : ∀ w ∈ wsX10, w ∈ wsX4_proves := by decide +kernel
theorem iX4_proves_X4 : ∀ w ∈ wsX40, w ∈ wsX4_proves := by decide +kernel
set_option maxHeartbeats 4000000 in
set_option maxRecDepth 100000 in
theorem kX4_proves (l : Launch) (hl9 : l.stackTraces = false) (G : xG) (B : Nat) (w : xM) (pa ra cp fr ad : Nat → Nat) (md : Nat) (ps : Nat → xP) (eo : Nat → Option Nat) (tb : Nat → Bool) (wr : xM) (hC : xCL G w pa ra cp fr ad md ps eo tb wr) (hF : ∀ k, k < md → xsup (ps (21 + 2 * k)) 21 ∧ xsup (ps (22 + 2 * k)) 21 ∧ xlen (ps (22 + 2 * k)) 64 ≠ 0) (x y : Int32) : vx_Met l yX4_proves wsX4_proves rmX4_proves (va_Pc [.ref (ad 0), .int x, .int y] (xBz G B w)) (va_Qi (fun r u => ∃ k1 k2, k1 < md ∧ k2 < md ∧ x = nI k1 ∧ y = nI k2 ∧ xlen (ps 1) 64 ≠ 0 ∧ xKp G pa ra cp fr ad md ps wr u ∧ ((r = 1 ∧ xmul (ps (21 + 2 * k1)) (xmul (xmul (xmv 64 (ps (22 + 2 * k2))) (ps 1)) (ps (22 + 2 * k2))) = xmul (ps (22 + 2 * k1)) (xgat (xmul (xmul (xmv 64 (ps (21 + 2 * k2))) (ps 0)) (ps (22 + 2 * k2))) (xO 32002) (xmul (xmul (xmv 64 (ps (22 + 2 * k2))) (ps 1)) (ps (21 + 2 * k2))) 0)) ∨ (r = 0 ∧ xmul (ps (21 + 2 * k1)) (xmul (xmul (xmv 64 (ps (22 + 2 * k2))) (ps 1)) (ps (22 + 2 * k2))) ≠ xmul (ps (22 + 2 * k1)) (xgat (xmul (xmul (xmv 64 (ps (21 + 2 * k2))) (ps 0)) (ps (22 + 2 * k2))) (xO 32002) (xmul (xmul (xmv 64 (ps (22 + 2 * k2))) (ps 1)) (ps (21 + 2 * k2))) 0)))) (xE G B) (xA B)) (xXC G B (fun E u => (E = eI ∧ ¬ (xIs md x ∧ xIs md y) ∧ xKp G pa ra cp fr ad md ps wr u) ∨ (E = eA ∧ xIs md x ∧ xIs md y ∧ xlen (ps 1) 64 = 0 ∧ xKp G pa ra cp fr ad md ps wr u))) 12 200 (xA B) := by
  refine xx_start (own := RX4) (mn := "proves") (cc := cX4_proves) (nL := 5) (rt := (some .boolean)) (by decide) rfl rfl rfl (Nat.le_of_ble_eq_true rfl) ?_
  intro p ev s m below meth cd ls C hl hw hS hz hno
  obtain ⟨hx, hb, -, -, -, hts, -, -, -, -⟩ := id C
  have hl : lv_has ls 5 [(0, .ref (ad 0)), (1, .int x), (2, .int y)] := hl
  have hself := xKp.self hC
  refine lv_aload_n hx hb dX4_proves_0 rfl (lv_at hl 0 rfl) ?_
  refine lv_iload_n hx hb dX4_proves_1 rfl (lv_at hl 1 rfl) ?_
  refine xx_cr C hno (xx_V (n := 1) (rest := []) C hw hz (kX4_known l hl9 G B _ pa ra cp fr ad md ps eo tb wr hC x) gX4_proves_X4_known rfl rfl rfl (by decide +kernel) ⟨Nat.le_of_ble_eq_true rfl, Nat.le_of_ble_eq_true rfl⟩ hC.x rfl rfl hl.1 rfl (Nat.le_of_ble_eq_true rfl) dX4_proves_2 ⟨Nat.le_of_ble_eq_true rfl, Nat.le_of_ble_eq_true rfl⟩ hS) hS (Nat.le_of_ble_eq_true rfl) (Nat.le_of_ble_eq_true rfl) (fun E u h => Or.inl ⟨h.1, fun q => h.2.1 q.1, by rw [h.2.2]; exact hself⟩) (fun rq q H locs hq hw hS => ?_)
  obtain ⟨k1, hk1, rfl, hrq, hu⟩ := hq
  rw [hu] at hw
  refine xw_tv (y := .ref (fr k1)) (by rw [hrq]) ?_
  refine lv_astore_n (lv' := [(3, .ref (fr k1)), (0, .ref (ad 0)), (1, .int (nI k1)), (2, .int y)]) hx hb dX4_proves_5 rfl hl (by decide) rfl (fun ls hl => ?_)
  refine lv_aload_n hx hb dX4_proves_6 rfl (lv_at hl 1 rfl) ?_
  refine lv_iload_n hx hb dX4_proves_7 rfl (lv_at hl 3 rfl) ?_
  refine xx_cr C hno (xx_V (n := 1) (rest := []) C hw hz (kX4_known l hl9 G B _ pa ra cp fr ad md ps eo tb wr hC y) gX4_proves_X4_known rfl rfl rfl (by decide +kernel) ⟨Nat.le_of_ble_eq_true rfl, Nat.le_of_ble_eq_true rfl⟩ hC.x rfl rfl hl.1 rfl (Nat.le_of_ble_eq_true rfl) dX4_proves_8 ⟨Nat.le_of_ble_eq_true rfl, Nat.le_of_ble_eq_true rfl⟩ hS) hS (Nat.le_of_ble_eq_true rfl) (Nat.le_of_ble_eq_true rfl) (fun E u h => Or.inl ⟨h.1, fun q => h.2.1 q.2, by rw [h.2.2]; exact hself⟩) (fun rq q H locs hq hw hS => ?_)
  obtain ⟨k2, hk2, rfl, hrq, hu⟩ := hq
  rw [hu] at hw
  refine xw_tv (y := .ref (fr k2)) (by rw [hrq]) ?_
  refine lv_astore (lv' := [(4, .ref (fr k2)), (3, .ref (fr k1)), (0, .ref (ad 0)), (1, .int (nI k1)), (2, .int (nI k2))]) hx hb dX4_proves_11 hl (by decide) rfl (fun ls hl => ?_)
  refine lv_aload_n hx hb dX4_proves_13 rfl (lv_at hl 2 rfl) ?_
  refine xx_cv C hno (xx_V (n := 0) (rest := []) C hw hz (kX4_refuseZeroRatioBottom l hl9 G B _ pa ra cp fr ad md ps eo tb wr hC) gX4_proves_X4_refuseZeroRatioBottom rfl rfl rfl (by decide +kernel) ⟨Nat.le_of_ble_eq_true rfl, Nat.le_of_ble_eq_true rfl⟩ hC.x rfl rfl hl.1 rfl (Nat.le_of_ble_eq_true rfl) dX4_proves_14 ⟨Nat.le_of_ble_eq_true rfl, Nat.le_of_ble_eq_true rfl⟩ hS) hS (Nat.le_of_ble_eq_true rfl) (Nat.le_of_ble_eq_true rfl) (fun E u h => Or.inr ⟨h.1, ⟨k1, hk1, rfl⟩, ⟨k2, hk2, rfl⟩, h.2.1, by rw [h.2.2]; exact hself⟩) (fun u H locs hq hw hS => ?_)
  obtain ⟨hB0, hu⟩ := hq
  rw [hu] at hw
  obtain ⟨stk1, sbk1, snk1⟩ := hF k1 hk1
  obtain ⟨stk2, sbk2, snk2⟩ := hF k2 hk2
  have sA : xsup (ps 0) 4 := by have q := (hC.p 0 (by omega)).2.2.1; rw [hC.2.2.2.1.1] at q; exact q
  have sB : xsup (ps 1) 4 := by have q := (hC.p 1 (by omega)).2.2.1; rw [hC.2.2.2.1.2.1] at q; exact q
  refine lv_aload_n hx hb dX4_proves_17 rfl (lv_at hl 2 rfl) ?_
  refine lv_aload hx hb dX4_proves_18 (lv_at hl 0 rfl) ?_
  refine xw_cv (xw_V (n := 1) (rest := []) C hw (kX4_setToStep l G B _ pa ra cp fr ad md ps eo tb wr hC k2 hk2 _ _ _ _ rfl rfl rfl rfl stk2 sbk2) gX4_proves_X4_setToStep rfl rfl rfl (by decide +kernel) ⟨Nat.le_of_ble_eq_true rfl, Nat.le_of_ble_eq_true rfl⟩ hC.x rfl rfl hl.1 rfl (Nat.le_of_ble_eq_true rfl) dX4_proves_20 ⟨Nat.le_of_ble_eq_true rfl, Nat.le_of_ble_eq_true rfl⟩ hS) hS (fun u1 H locs hq hw hS => ?_)
  obtain ⟨q, hC, e2, e3, hkp⟩ := hq
  have hk7 : ∀ i, i < 2 ∨ 21 ≤ i → q i = ps i := fun i hi => hkp i (by omega)
  have et1 : q (21 + 2 * k1) = (ps (21 + 2 * k1)) := hkp _ (by omega)
  have eb1 : q (22 + 2 * k1) = (ps (22 + 2 * k1)) := hkp _ (by omega)
  have smt : xsup (xmv 64 (ps (21 + 2 * k2))) 21 := xmv_sup (xsup_mono stk2 (by decide)) stk2
  have smb : xsup (xmv 64 (ps (22 + 2 * k2))) 21 := xmv_sup (xsup_mono sbk2 (by decide)) sbk2
  have s3 : xsup (xmul (xmul (xmv 64 (ps (22 + 2 * k2))) (ps 1)) (ps (22 + 2 * k2))) 44 := xmul_sup (xmul_sup smb sB) sbk2
  have s2 : xsup (xgat (xmul (xmul (xmv 64 (ps (21 + 2 * k2))) (ps 0)) (ps (22 + 2 * k2))) (xO 32002) (xmul (xmul (xmv 64 (ps (22 + 2 * k2))) (ps 1)) (ps (21 + 2 * k2))) 0) 44 := xgat_sup (xmul_sup (xmul_sup smt sA) sbk2) (xmul_sup (xmul_sup smb sB) stk2) (by decide)
  refine lv_aload_n hx hb dX4_proves_23 rfl (lv_at hl 2 rfl) ?_
  refine xw_get C hw hC.x (ci := 3) rfl iX4_proves_X4 6 (by decide) (by decide +kernel) rfl dX4_proves_24 ?_
  refine lv_aload_n hx hb dX4_proves_27 rfl (lv_at hl 1 rfl) ?_
  refine xw_get C hw (hC.fo k1 hk1) (ci := 1) rfl iX4_proves_X1 0 (by decide) (by decide +kernel) rfl dX4_proves_28 ?_
  refine lv_aload_n hx hb dX4_proves_31 rfl (lv_at hl 2 rfl) ?_
  refine xw_get C hw hC.x (ci := 3) rfl iX4_proves_X4 5 (by decide) (by decide +kernel) rfl dX4_proves_32 ?_
  refine xw_cv (xw_V (n := 2) (rest := []) C hw (kX3_setProduct l G B _ (pa 4) (ra 4) 64 (q 4) (pa (21 + 2 * k1)) (ra (21 + 2 * k1)) (cp (21 + 2 * k1)) (ps (21 + 2 * k1)) (pa 3) (ra 3) 64 (xmul (xmul (xmv 64 (ps (22 + 2 * k2))) (ps 1)) (ps (22 + 2 * k2))) (hC.pw 4 (by omega) (by omega) rfl) (hC.pe (21 + 2 * k1) (by omega) et1) (hC.pw 3 (by omega) (by omega) e3) (hC.pn (by omega) (by omega) (by omega)) (hC.rn (by omega) (by omega) (by omega)) (hC.pn (by omega) (by omega) (by omega)) (hC.rn (by omega) (by omega) (by omega)) (Nat.le_trans (Nat.add_le_add (xlen_sle stk1) (xlen_sle s3)) (by decide))) gX4_proves_X3_setProduct rfl rfl rfl (by decide +kernel) ⟨Nat.le_of_ble_eq_true rfl, Nat.le_of_ble_eq_true rfl⟩ (hC.p 4 (by omega)).1 rfl rfl hl.1 rfl (Nat.le_of_ble_eq_true rfl) dX4_proves_35 ⟨Nat.le_of_ble_eq_true rfl, Nat.le_of_ble_eq_true rfl⟩ hS) hS (fun u H locs hpp hw hS => ?_)
  rw [hpp] at hw
  have hC := hC.set (i := 4) (by omega) (hC.cap (by omega) (by omega)) (f := xmul (ps (21 + 2 * k1)) (xmul (xmul (xmv 64 (ps (22 + 2 * k2))) (ps 1)) (ps (22 + 2 * k2)))) (xsup_mono (xmul_sup stk1 s3) (by decide))
  obtain ⟨ps3, hps⟩ : ∃ zz9, zz9 = va_up q (4) (xmul (ps (21 + 2 * k1)) (xmul (xmul (xmv 64 (ps (22 + 2 * k2))) (ps 1)) (ps (22 + 2 * k2)))) := ⟨_, rfl⟩
  rw [← hps] at hC
  have e2 : ps3 (2) = xgat (xmul (xmul (xmv 64 (ps (21 + 2 * k2))) (ps 0)) (ps (22 + 2 * k2))) (xO 32002) (xmul (xmul (xmv 64 (ps (22 + 2 * k2))) (ps 1)) (ps (21 + 2 * k2))) 0 := (congrFun hps _).trans ((va_up_ne _ _ (by omega)).trans e2)
  have e3 : ps3 (3) = xmul (xmul (xmv 64 (ps (22 + 2 * k2))) (ps 1)) (ps (22 + 2 * k2)) := (congrFun hps _).trans ((va_up_ne _ _ (by omega)).trans e3)
  have et1 : ps3 (21 + 2 * k1) = (ps (21 + 2 * k1)) := (congrFun hps _).trans ((va_up_ne _ _ (by omega)).trans et1)
  have eb1 : ps3 (22 + 2 * k1) = (ps (22 + 2 * k1)) := (congrFun hps _).trans ((va_up_ne _ _ (by omega)).trans eb1)
  have hk7 : ∀ i, i < 2 ∨ 21 ≤ i → ps3 i = ps i := fun i hi => (congrFun hps i).trans ((va_up_ne _ _ (by omega)).trans (hk7 i hi))
  have e4 : ps3 (4) = xmul (ps (21 + 2 * k1)) (xmul (xmul (xmv 64 (ps (22 + 2 * k2))) (ps 1)) (ps (22 + 2 * k2))) := by rw [hps, va_up_self]
  refine lv_aload_n hx hb dX4_proves_38 rfl (lv_at hl 2 rfl) ?_
  refine xw_get C hw hC.x (ci := 3) rfl iX4_proves_X4 7 (by decide) (by decide +kernel) rfl dX4_proves_39 ?_
  refine lv_aload_n hx hb dX4_proves_42 rfl (lv_at hl 1 rfl) ?_
  refine xw_get C hw (hC.fo k1 hk1) (ci := 1) rfl iX4_proves_X1 1 (by decide) (by decide +kernel) rfl dX4_proves_43 ?_
  refine lv_aload_n hx hb dX4_proves_46 rfl (lv_at hl 2 rfl) ?_
  refine xw_get C hw hC.x (ci := 3) rfl iX4_proves_X4 4 (by decide) (by decide +kernel) rfl dX4_proves_47 ?_
  refine xw_cv (xw_V (n := 2) (rest := []) C hw (kX3_setProduct l G B _ (pa 5) (ra 5) 64 (ps3 5) (pa (22 + 2 * k1)) (ra (22 + 2 * k1)) (cp (22 + 2 * k1)) (ps (22 + 2 * k1)) (pa 2) (ra 2) 64 (xgat (xmul (xmul (xmv 64 (ps (21 + 2 * k2))) (ps 0)) (ps (22 + 2 * k2))) (xO 32002) (xmul (xmul (xmv 64 (ps (22 + 2 * k2))) (ps 1)) (ps (21 + 2 * k2))) 0) (hC.pw 5 (by omega) (by omega) rfl) (hC.pe (22 + 2 * k1) (by omega) eb1) (hC.pw 2 (by omega) (by omega) e2) (hC.pn (by omega) (by omega) (by omega)) (hC.rn (by omega) (by omega) (by omega)) (hC.pn (by omega) (by omega) (by omega)) (hC.rn (by omega) (by omega) (by omega)) (Nat.le_trans (Nat.add_le_add (xlen_sle sbk1) (xlen_sle s2)) (by decide))) gX4_proves_X3_setProduct rfl rfl rfl (by decide +kernel) ⟨Nat.le_of_ble_eq_true rfl, Nat.le_of_ble_eq_true rfl⟩ (hC.p 5 (by omega)).1 rfl rfl hl.1 rfl (Nat.le_of_ble_eq_true rfl) dX4_proves_50 ⟨Nat.le_of_ble_eq_true rfl, Nat.le_of_ble_eq_true rfl⟩ hS) hS (fun u H locs hpp hw hS => ?_)
  rw [hpp] at hw
  have hC := hC.set (i := 5) (by omega) (hC.cap (by omega) (by omega)) (f := xmul (ps (22 + 2 * k1)) (xgat (xmul (xmul (xmv 64 (ps (21 + 2 * k2))) (ps 0)) (ps (22 + 2 * k2))) (xO 32002) (xmul (xmul (xmv 64 (ps (22 + 2 * k2))) (ps 1)) (ps (21 + 2 * k2))) 0)) (xsup_mono (xmul_sup sbk1 s2) (by decide))
  obtain ⟨ps4, hps⟩ : ∃ zz9, zz9 = va_up ps3 (5) (xmul (ps (22 + 2 * k1)) (xgat (xmul (xmul (xmv 64 (ps (21 + 2 * k2))) (ps 0)) (ps (22 + 2 * k2))) (xO 32002) (xmul (xmul (xmv 64 (ps (22 + 2 * k2))) (ps 1)) (ps (21 + 2 * k2))) 0)) := ⟨_, rfl⟩
  rw [← hps] at hC
  have e2 : ps4 (2) = xgat (xmul (xmul (xmv 64 (ps (21 + 2 * k2))) (ps 0)) (ps (22 + 2 * k2))) (xO 32002) (xmul (xmul (xmv 64 (ps (22 + 2 * k2))) (ps 1)) (ps (21 + 2 * k2))) 0 := (congrFun hps _).trans ((va_up_ne _ _ (by omega)).trans e2)
  have e3 : ps4 (3) = xmul (xmul (xmv 64 (ps (22 + 2 * k2))) (ps 1)) (ps (22 + 2 * k2)) := (congrFun hps _).trans ((va_up_ne _ _ (by omega)).trans e3)
  have et1 : ps4 (21 + 2 * k1) = (ps (21 + 2 * k1)) := (congrFun hps _).trans ((va_up_ne _ _ (by omega)).trans et1)
  have eb1 : ps4 (22 + 2 * k1) = (ps (22 + 2 * k1)) := (congrFun hps _).trans ((va_up_ne _ _ (by omega)).trans eb1)
  have e4 : ps4 (4) = xmul (ps (21 + 2 * k1)) (xmul (xmul (xmv 64 (ps (22 + 2 * k2))) (ps 1)) (ps (22 + 2 * k2))) := (congrFun hps _).trans ((va_up_ne _ _ (by omega)).trans e4)
  have hk7 : ∀ i, i < 2 ∨ 21 ≤ i → ps4 i = ps i := fun i hi => (congrFun hps i).trans ((va_up_ne _ _ (by omega)).trans (hk7 i hi))
  have e5 : ps4 (5) = xmul (ps (22 + 2 * k1)) (xgat (xmul (xmul (xmv 64 (ps (21 + 2 * k2))) (ps 0)) (ps (22 + 2 * k2))) (xO 32002) (xmul (xmul (xmv 64 (ps (22 + 2 * k2))) (ps 1)) (ps (21 + 2 * k2))) 0) := by rw [hps, va_up_self]
  refine lv_aload_n hx hb dX4_proves_53 rfl (lv_at hl 2 rfl) ?_
  refine xw_get C hw hC.x (ci := 3) rfl iX4_proves_X4 6 (by decide) (by decide +kernel) rfl dX4_proves_54 ?_
  refine lv_aload_n hx hb dX4_proves_57 rfl (lv_at hl 2 rfl) ?_
  refine xw_get C hw hC.x (ci := 3) rfl iX4_proves_X4 7 (by decide) (by decide +kernel) rfl dX4_proves_58 ?_
  refine xw_ci (xw_V (n := 1) (rest := []) C hw (kX3_matches l G B _ (pa 4) (ra 4) 64 (xmul (ps (21 + 2 * k1)) (xmul (xmul (xmv 64 (ps (22 + 2 * k2))) (ps 1)) (ps (22 + 2 * k2)))) (pa 5) (ra 5) 64 (xmul (ps (22 + 2 * k1)) (xgat (xmul (xmul (xmv 64 (ps (21 + 2 * k2))) (ps 0)) (ps (22 + 2 * k2))) (xO 32002) (xmul (xmul (xmv 64 (ps (22 + 2 * k2))) (ps 1)) (ps (21 + 2 * k2))) 0)) (hC.pw 4 (by omega) (by omega) e4) (hC.pw 5 (by omega) (by omega) e5)) gX4_proves_X3_matches rfl rfl rfl (by decide +kernel) ⟨Nat.le_of_ble_eq_true rfl, Nat.le_of_ble_eq_true rfl⟩ (hC.p 4 (by omega)).1 rfl rfl hl.1 rfl (Nat.le_of_ble_eq_true rfl) dX4_proves_61 ⟨Nat.le_of_ble_eq_true rfl, Nat.le_of_ble_eq_true rfl⟩ hS) hS (fun rz z H locs hm hw hS => ?_)
  obtain ⟨hm, hu⟩ := hm
  rw [hu] at hw
  refine vx_ret ?_
  exact xw_zret C hw hS (Nat.le_of_ble_eq_true rfl) (Nat.le_of_ble_eq_true rfl) (hm.elim (fun q => Or.inr q.1) (fun q => Or.inl q.1)) (⟨k1, k2, hk1, hk2, rfl, rfl, hB0, ⟨_, _, _, hC, hk7⟩, hm⟩) dX4_proves_64
