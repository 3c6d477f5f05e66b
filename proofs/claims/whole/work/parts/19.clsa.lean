/-! ===== CertificateSums: what throws nothing (laid by wip/whole/m_cls.py) ===== -/
abbrev rmX4_count : Room := { frames := 0, cells := 0, slots := 0, locals := 0 }
theorem iX4_count_X4 : ∀ w ∈ wsX40, w ∈ wsX4_count := by decide +kernel
set_option maxHeartbeats 4000000 in
set_option maxRecDepth 100000 in
theorem kX4_count (l : Launch) (G : xG) (B : Nat) (w : xM) (pa ra cp fr ad : Nat → Nat) (md : Nat) (ps : Nat → xP) (eo : Nat → Option Nat) (tb : Nat → Bool) (wr : xM) (hC : xCL G w pa ra cp fr ad md ps eo tb wr) : Met l yX4_count wsX4_count rmX4_count (va_Pc [.ref (ad 0)] (xB G B w)) (va_Qi (fun r u => r = nI md ∧ u = w) (xE G B) (xA B)) 0 0 (xA B) := by
  refine xw_start (own := RX4) (mn := "count") (cc := cX4_count) (nL := 1) (rt := (some .int)) (by decide) rfl rfl rfl (Nat.le_of_ble_eq_true rfl) ?_
  intro p ev s m below meth cd ls C hl hw hS
  obtain ⟨hx, hb, -, -, -, hts, -, -, -, -⟩ := id C
  have hl : lv_has ls 1 [(0, .ref (ad 0))] := hl
  refine lv_aload_n hx hb dX4_count_0 rfl (lv_at hl 0 rfl) ?_
  refine xw_get C hw hC.x (ci := 3) rfl iX4_count_X4 3 (by decide) (by decide +kernel) rfl dX4_count_1 ?_
  exact xw_iret C hw hS (Nat.le_of_ble_eq_true rfl) (Nat.le_of_ble_eq_true rfl) (⟨rfl, rfl⟩) dX4_count_4

abbrev rmX4_greatestDivisor : Room := { frames := 3, cells := 0, slots := 0, locals := 74 }
set_option maxHeartbeats 4000000 in
set_option maxRecDepth 100000 in
theorem kX4_greatestDivisor (l : Launch) (G : xG) (B : Nat) (w : xM) (pa ra cp fr ad : Nat → Nat) (md : Nat) (ps : Nat → xP) (eo : Nat → Option Nat) (tb : Nat → Bool) (wr : xM) (hC : xCL G w pa ra cp fr ad md ps eo tb wr) (f g : xP) (ef : ps 4 = f) (eg : ps 5 = g) : Met l yX4_greatestDivisor wsX4_greatestDivisor rmX4_greatestDivisor (va_Pc [.ref (pa 4), .ref (pa 5), .ref (pa 6)] (xB G B w)) (xQr G B (fun r u => ∃ (z : Nat) (q : Nat → xP), r = pa z ∧ (z = 4 ∨ z = 5) ∧ xCL G u pa ra cp fr ad md q eo tb wr ∧ q z = xgcd 65 f g ∧ ∀ t, t ≠ 4 → t ≠ 5 → t ≠ 6 → q t = ps t)) 0 0 (xA B) := by
  refine xw_start (own := RX4) (mn := "greatestDivisor") (cc := cX4_greatestDivisor) (nL := 7) (rt := (some (.object "CertificateSums$Polynomial"))) (by decide) rfl rfl rfl (Nat.le_of_ble_eq_true rfl) ?_
  intro p ev s m below meth cd ls C hl hw hS
  obtain ⟨hx, hb, -, -, -, hts, -, -, -, -⟩ := id C
  have hl : lv_has ls 7 [(0, .ref (pa 4)), (1, .ref (pa 5)), (2, .ref (pa 6))] := hl
  refine lv_aload_n hx hb dX4_greatestDivisor_0 rfl (lv_at hl 0 rfl) ?_
  refine lv_astore_n (lv' := [(3, .ref (pa 4)), (0, .ref (pa 4)), (1, .ref (pa 5)), (2, .ref (pa 6))]) hx hb dX4_greatestDivisor_1 rfl hl (by decide) rfl (fun ls hl => ?_)
  refine lv_aload_n hx hb dX4_greatestDivisor_2 rfl (lv_at hl 2 rfl) ?_
  refine lv_astore (lv' := [(4, .ref (pa 5)), (3, .ref (pa 4)), (0, .ref (pa 4)), (1, .ref (pa 5)), (2, .ref (pa 6))]) hx hb dX4_greatestDivisor_3 hl (by decide) rfl (fun ls hl => ?_)
  refine lv_iconst (v := 0) hx hb dX4_greatestDivisor_5 (by decide) ?_
  refine xw_ti (y := (nI 0)) (nI_0.symm) ?_
  refine lv_istore (lv' := [(5, .int (nI 0)), (4, .ref (pa 5)), (3, .ref (pa 4)), (0, .ref (pa 4)), (1, .ref (pa 5)), (2, .ref (pa 6))]) hx hb dX4_greatestDivisor_6 hl (by decide) rfl (fun ls hl => ?_)
  have loop : ∀ (d rd i j : Nat) (w1 : xM) (q1 : Nat → xP) (f1 g1 : xP) (ls : Array Slot) (H : Heap) (locs : List Loc), rd + d = 65 → ((i = 4 ∧ j = 5) ∨ (i = 5 ∧ j = 4)) → xCL G w1 pa ra cp fr ad md q1 eo tb wr → q1 i = f1 → q1 j = g1 → xgcd d f1 g1 = xgcd 65 f g → (∀ t, t ≠ 4 → t ≠ 5 → t ≠ 6 → q1 t = ps t) → xW G B w1 H → va_S (xA B) s.heap H locs → lv_has ls 7 [(5, .int (nI rd)), (4, .ref (pa j)), (3, .ref (pa i)), (0, .ref (pa 4)), (1, .ref (pa 5)), (2, .ref (pa 6))] → W p l ev rmX4_greatestDivisor s m [.ref (pa 4), .ref (pa 5), .ref (pa 6)].toArray below meth cd H locs 0 0 (MQ below (xQr G B (fun r u => ∃ (z : Nat) (q : Nat → xP), r = pa z ∧ (z = 4 ∨ z = 5) ∧ xCL G u pa ra cp fr ad md q eo tb wr ∧ q z = xgcd 65 f g ∧ ∀ t, t ≠ 4 → t ≠ 5 → t ≠ 6 → q t = ps t)) [.ref (pa 4), .ref (pa 5), .ref (pa 6)].toArray s 0 0 (xA B)) (F0 m 8 ls []) := by
    intro d
    induction d with
    | zero =>
      intro rd i j w1 q1 f1 g1 ls H locs hrd hij hC ei ej he hkp hw hS hl
      refine lv_iload hx hb dX4_greatestDivisor_8 (lv_at hl 0 rfl) ?_
      refine lv_bipush (v := 64) hx hb dX4_greatestDivisor_10 (by decide) ?_
      refine lv_icmp_gt (tgt := 46) hx hb dX4_greatestDivisor_12 (by decide) (fun _ => ?_) (fun hc => absurd ((nI_ltI (a := 64) (b := rd) (by omega) (by omega)).mpr (by omega)) hc)
      refine lv_aload_n hx hb dX4_greatestDivisor_46 rfl (lv_at hl 2 rfl) ?_
      exact xw_aret C hw hS (Nat.le_of_ble_eq_true rfl) (Nat.le_of_ble_eq_true rfl) (⟨i, q1, rfl, by omega, hC, by rw [ei, ← he, xgcd_0], hkp⟩) dX4_greatestDivisor_47
    | succ d ih =>
      intro rd i j w1 q1 f1 g1 ls H locs hrd hij hC ei ej he hkp hw hS hl
      have pj := hC.pw j (by omega) (by omega) ej
      have pi := hC.pw i (by omega) (by omega) ei
      have p6 := hC.pw 6 (by omega) (by omega) (f := q1 6) rfl
      refine lv_iload hx hb dX4_greatestDivisor_8 (lv_at hl 0 rfl) ?_
      refine lv_bipush (v := 64) hx hb dX4_greatestDivisor_10 (by decide) ?_
      refine lv_icmp_gt (tgt := 46) hx hb dX4_greatestDivisor_12 (by decide) (fun hc => absurd hc (fun q => absurd ((nI_ltI (a := 64) (b := rd) (by omega) (by omega)).mp q) (by omega))) (fun _ => ?_)
      refine lv_aload hx hb dX4_greatestDivisor_15 (lv_at hl 1 rfl) ?_
      refine xw_ci (xw_V (n := 0) (rest := []) C hw (kX3_isZero l G B w1 (pa j) (ra j) 64 g1 pj) gX4_greatestDivisor_X3_isZero rfl rfl rfl (by decide +kernel) ⟨Nat.le_of_ble_eq_true rfl, Nat.le_of_ble_eq_true rfl⟩ pj.1 rfl rfl hl.1 rfl (Nat.le_of_ble_eq_true rfl) dX4_greatestDivisor_17 ⟨Nat.le_of_ble_eq_true rfl, Nat.le_of_ble_eq_true rfl⟩ hS) hS (fun rq q H locs hq hw hS => ?_)
      obtain ⟨hq, hu⟩ := hq
      rw [hu] at hw
      rcases hq with ⟨hq, hz⟩ | ⟨hq, hz⟩
      · skip
        refine xw_ti (y := 1) (hq) ?_
        refine lv_if_ne (tgt := 46) hx hb dX4_greatestDivisor_20 (by decide) (fun _ => ?_) (fun hc => absurd hc (by decide))
        refine lv_aload_n hx hb dX4_greatestDivisor_46 rfl (lv_at hl 2 rfl) ?_
        exact xw_aret C hw hS (Nat.le_of_ble_eq_true rfl) (Nat.le_of_ble_eq_true rfl) (⟨i, q1, rfl, by omega, hC, by rw [ei, ← he, xgcd_z _ hz], hkp⟩) dX4_greatestDivisor_47
      · skip
        refine xw_ti (y := 0) (hq) ?_
        refine lv_if_ne (tgt := 46) hx hb dX4_greatestDivisor_20 (by decide) (fun hc => absurd (by decide) hc) (fun _ => ?_)
        refine lv_aload_n hx hb dX4_greatestDivisor_23 rfl (lv_at hl 2 rfl) ?_
        refine lv_aload hx hb dX4_greatestDivisor_24 (lv_at hl 1 rfl) ?_
        refine lv_aload_n hx hb dX4_greatestDivisor_26 rfl (lv_at hl 5 rfl) ?_
        rw [xgcd_s _ hz] at he
        refine xw_cv (xw_V (n := 2) (rest := []) C hw (kX3_divide l G B w1 (pa i) (ra i) 64 f1 (pa j) (ra j) 64 g1 (pa 6) (ra 6) 64 (q1 6) pi pj p6 (hC.pn (by omega) (by omega) (by omega)) (hC.rn (by omega) (by omega) (by omega)) (hC.pn (by omega) (by omega) (by omega)) (hC.rn (by omega) (by omega) (by omega)) (hC.pn (by omega) (by omega) (by omega)) (hC.rn (by omega) (by omega) (by omega)) hz (xlen_le _ _)) gX4_greatestDivisor_X3_divide rfl rfl rfl (by decide +kernel) ⟨Nat.le_of_ble_eq_true rfl, Nat.le_of_ble_eq_true rfl⟩ pi.1 rfl rfl hl.1 rfl (Nat.le_of_ble_eq_true rfl) dX4_greatestDivisor_27 ⟨Nat.le_of_ble_eq_true rfl, Nat.le_of_ble_eq_true rfl⟩ hS) hS (fun u H locs hpp hw hS => ?_)
        rw [hpp] at hw
        have hsu := xqr_sup pi.2.2.1 pj.2.2.1 hz
        have hC := (hC.set (i := i) (by omega) (hC.cap (by omega) (by omega)) (f := xrem f1 g1) hsu.1).set (i := 6) (by omega) (hC.cap (by omega) (by omega)) (f := xquo f1 g1) hsu.2
        refine lv_aload_n hx hb dX4_greatestDivisor_30 rfl (lv_at hl 2 rfl) ?_
        refine lv_astore (lv' := [(6, .ref (pa i)), (5, .int (nI rd)), (4, .ref (pa j)), (3, .ref (pa i)), (0, .ref (pa 4)), (1, .ref (pa 5)), (2, .ref (pa 6))]) hx hb dX4_greatestDivisor_31 hl (by decide) rfl (fun ls hl => ?_)
        refine lv_aload hx hb dX4_greatestDivisor_33 (lv_at hl 2 rfl) ?_
        refine lv_astore_n (lv' := [(3, .ref (pa j)), (6, .ref (pa i)), (5, .int (nI rd)), (4, .ref (pa j)), (0, .ref (pa 4)), (1, .ref (pa 5)), (2, .ref (pa 6))]) hx hb dX4_greatestDivisor_35 rfl hl (by decide) rfl (fun ls hl => ?_)
        refine lv_aload hx hb dX4_greatestDivisor_36 (lv_at hl 1 rfl) ?_
        refine lv_astore (lv' := [(4, .ref (pa i)), (3, .ref (pa j)), (6, .ref (pa i)), (5, .int (nI rd)), (0, .ref (pa 4)), (1, .ref (pa 5)), (2, .ref (pa 6))]) hx hb dX4_greatestDivisor_38 hl (by decide) rfl (fun ls hl => ?_)
        refine lv_iinc (v := (nI (rd + 1))) (lv' := [(5, .int (nI (rd + 1))), (4, .ref (pa i)), (3, .ref (pa j)), (6, .ref (pa i)), (0, .ref (pa 4)), (1, .ref (pa 5)), (2, .ref (pa 6))]) hx hb dX4_greatestDivisor_40 hl (k := 3) rfl (x_inc rd) (by decide) rfl (fun ls hl => ?_)
        refine lv_goto (tgt := 8) hx hb dX4_greatestDivisor_43 (by decide) ?_
        refine ih (rd + 1) j i _ _ g1 (xrem f1 g1) ls _ _ (by omega) (by omega) hC ?_ ?_ he (fun t h4 h5 h6 => ?_) hw hS (lv_sub hl [0, 1, 2, 4, 5, 6] rfl)
        · rw [va_up_ne _ _ (by omega), va_up_ne _ _ (by omega)]; exact ej
        · rw [va_up_ne _ _ (by omega), va_up_self]
        · rw [va_up_ne _ _ (by omega), va_up_ne _ _ (by omega)]; exact hkp t h4 h5 h6
  exact loop 65 0 4 5 w ps f g ls _ _ rfl (Or.inl ⟨rfl, rfl⟩) hC ef eg rfl (fun _ _ _ _ => rfl) hw hS (lv_sub hl [0, 1, 2, 3, 4, 5] rfl)

abbrev rmX4_toLowestTerms : Room := { frames := 4, cells := 0, slots := 0, locals := 100 }
theorem iX4_toLowestTerms_X4 : ∀ w ∈ wsX40, w ∈ wsX4_toLowestTerms := by decide +kernel
set_option maxHeartbeats 4000000 in
set_option maxRecDepth 100000 in
theorem kX4_toLowestTerms (l : Launch) (G : xG) (B : Nat) (w : xM) (pa ra cp fr ad : Nat → Nat) (md : Nat) (ps : Nat → xP) (eo : Nat → Option Nat) (tb : Nat → Bool) (wr : xM) (hC : xCL G w pa ra cp fr ad md ps eo tb wr) (t b : xP) (et : ps 2 = t) (eb : ps 3 = b) (hb0 : xlen b 64 ≠ 0) : Met l yX4_toLowestTerms wsX4_toLowestTerms rmX4_toLowestTerms (va_Pc [.ref (ad 0)] (xB G B w)) (va_Qv (fun u => ∃ q : Nat → xP, xCL G u pa ra cp fr ad md q eo tb wr ∧ q 2 = xnT t b ∧ q 3 = xnB t b ∧ ∀ i, i < 2 ∨ 7 ≤ i → q i = ps i) (xE G B) (xA B)) 0 0 (xA B) := by
  refine xw_start (own := RX4) (mn := "toLowestTerms") (cc := cX4_toLowestTerms) (nL := 3) (rt := none) (by decide) rfl rfl rfl (Nat.le_of_ble_eq_true rfl) ?_
  intro p ev s m below meth cd ls C hl hw hS
  obtain ⟨hx, hb, -, -, -, hts, -, -, -, -⟩ := id C
  have hl : lv_has ls 3 [(0, .ref (ad 0))] := hl
  have hk7 : ∀ i, i < 2 ∨ 7 ≤ i → ps i = ps i := fun _ _ => rfl
  have st : xsup t 64 := (hC.pw 2 (by omega) (by omega) et).2.2.1
  have sb : xsup b 64 := (hC.pw 3 (by omega) (by omega) eb).2.2.1
  have sd := xgcd_sup 65 st sb
  have sd0 : xlen (xgcd 65 t b) 64 ≠ 0 := xgcd_ne2 64 hb0
  have s1 := (xqr_sup st sd sd0).2
  have s2 := (xqr_sup sb sd sd0).2
  refine lv_aload_n hx hb dX4_toLowestTerms_0 rfl (lv_at hl 0 rfl) ?_
  refine xw_get C hw hC.x (ci := 3) rfl iX4_toLowestTerms_X4 6 (by decide) (by decide +kernel) rfl dX4_toLowestTerms_1 ?_
  refine lv_aload_n hx hb dX4_toLowestTerms_4 rfl (lv_at hl 0 rfl) ?_
  refine xw_get C hw hC.x (ci := 3) rfl iX4_toLowestTerms_X4 4 (by decide) (by decide +kernel) rfl dX4_toLowestTerms_5 ?_
  refine xw_cv (xw_V (n := 1) (rest := []) C hw (kX3_copy l G B _ (pa 4) (ra 4) 64 (ps 4) (pa 2) (ra 2) 64 t (hC.pw 4 (by omega) (by omega) rfl) (hC.pw 2 (by omega) (by omega) et) (hC.pn (by omega) (by omega) (by omega)) (hC.rn (by omega) (by omega) (by omega)) (Nat.le_trans (xlen_sle st) (by decide))) gX4_toLowestTerms_X3_copy rfl rfl rfl (by decide +kernel) ⟨Nat.le_of_ble_eq_true rfl, Nat.le_of_ble_eq_true rfl⟩ (hC.p 4 (by omega)).1 rfl rfl hl.1 rfl (Nat.le_of_ble_eq_true rfl) dX4_toLowestTerms_8 ⟨Nat.le_of_ble_eq_true rfl, Nat.le_of_ble_eq_true rfl⟩ hS) hS (fun u H locs hpp hw hS => ?_)
  rw [hpp] at hw
  have hC := hC.set (i := 4) (by omega) (hC.cap (by omega) (by omega)) (f := t) (st)
  obtain ⟨ps3, hps⟩ : ∃ zz9, zz9 = va_up ps (4) (t) := ⟨_, rfl⟩
  rw [← hps] at hC
  have et : ps3 (2) = t := (congrFun hps _).trans ((va_up_ne _ _ (by omega)).trans et)
  have eb : ps3 (3) = b := (congrFun hps _).trans ((va_up_ne _ _ (by omega)).trans eb)
  have hk7 : ∀ i, i < 2 ∨ 7 ≤ i → ps3 i = ps i := fun i hi => (congrFun hps i).trans ((va_up_ne _ _ (by omega)).trans (hk7 i hi))
  have e4 : ps3 (4) = t := by rw [hps, va_up_self]
  refine lv_aload_n hx hb dX4_toLowestTerms_11 rfl (lv_at hl 0 rfl) ?_
  refine xw_get C hw hC.x (ci := 3) rfl iX4_toLowestTerms_X4 7 (by decide) (by decide +kernel) rfl dX4_toLowestTerms_12 ?_
  refine lv_aload_n hx hb dX4_toLowestTerms_15 rfl (lv_at hl 0 rfl) ?_
  refine xw_get C hw hC.x (ci := 3) rfl iX4_toLowestTerms_X4 5 (by decide) (by decide +kernel) rfl dX4_toLowestTerms_16 ?_
  refine xw_cv (xw_V (n := 1) (rest := []) C hw (kX3_copy l G B _ (pa 5) (ra 5) 64 (ps3 5) (pa 3) (ra 3) 64 b (hC.pw 5 (by omega) (by omega) rfl) (hC.pw 3 (by omega) (by omega) eb) (hC.pn (by omega) (by omega) (by omega)) (hC.rn (by omega) (by omega) (by omega)) (Nat.le_trans (xlen_sle sb) (by decide))) gX4_toLowestTerms_X3_copy rfl rfl rfl (by decide +kernel) ⟨Nat.le_of_ble_eq_true rfl, Nat.le_of_ble_eq_true rfl⟩ (hC.p 5 (by omega)).1 rfl rfl hl.1 rfl (Nat.le_of_ble_eq_true rfl) dX4_toLowestTerms_19 ⟨Nat.le_of_ble_eq_true rfl, Nat.le_of_ble_eq_true rfl⟩ hS) hS (fun u H locs hpp hw hS => ?_)
  rw [hpp] at hw
  have hC := hC.set (i := 5) (by omega) (hC.cap (by omega) (by omega)) (f := b) (sb)
  obtain ⟨ps4, hps⟩ : ∃ zz9, zz9 = va_up ps3 (5) (b) := ⟨_, rfl⟩
  rw [← hps] at hC
  have et : ps4 (2) = t := (congrFun hps _).trans ((va_up_ne _ _ (by omega)).trans et)
  have eb : ps4 (3) = b := (congrFun hps _).trans ((va_up_ne _ _ (by omega)).trans eb)
  have e4 : ps4 (4) = t := (congrFun hps _).trans ((va_up_ne _ _ (by omega)).trans e4)
  have hk7 : ∀ i, i < 2 ∨ 7 ≤ i → ps4 i = ps i := fun i hi => (congrFun hps i).trans ((va_up_ne _ _ (by omega)).trans (hk7 i hi))
  have e5 : ps4 (5) = b := by rw [hps, va_up_self]
  refine lv_aload_n hx hb dX4_toLowestTerms_22 rfl (lv_at hl 0 rfl) ?_
  refine xw_get C hw hC.x (ci := 3) rfl iX4_toLowestTerms_X4 6 (by decide) (by decide +kernel) rfl dX4_toLowestTerms_23 ?_
  refine lv_aload_n hx hb dX4_toLowestTerms_26 rfl (lv_at hl 0 rfl) ?_
  refine xw_get C hw hC.x (ci := 3) rfl iX4_toLowestTerms_X4 7 (by decide) (by decide +kernel) rfl dX4_toLowestTerms_27 ?_
  refine lv_aload_n hx hb dX4_toLowestTerms_30 rfl (lv_at hl 0 rfl) ?_
  refine xw_get C hw hC.x (ci := 3) rfl iX4_toLowestTerms_X4 8 (by decide) (by decide +kernel) rfl dX4_toLowestTerms_31 ?_
  refine xw_cr (xw_S (n := 3) (rest := []) C hw (kX4_greatestDivisor l G B _ pa ra cp fr ad md ps4 eo tb wr hC t b e4 e5) gX4_toLowestTerms_X4_greatestDivisor rfl rfl rfl (by decide +kernel) ⟨Nat.le_of_ble_eq_true rfl, Nat.le_of_ble_eq_true rfl⟩ rfl hl.1 rfl (Nat.le_of_ble_eq_true rfl) dX4_toLowestTerms_34 ⟨Nat.le_of_ble_eq_true rfl, Nat.le_of_ble_eq_true rfl⟩ hS) hS (fun rq q H locs hq hw hS => ?_)
  obtain ⟨z, q1, hrz, hz, hC, ez, hkp⟩ := hq
  refine xw_tv (y := .ref (pa z)) (by rw [hrz]) ?_
  have et : q1 2 = t := (hkp 2 (by omega) (by omega) (by omega)).trans et
  have eb : q1 3 = b := (hkp 3 (by omega) (by omega) (by omega)).trans eb
  have hk7 : ∀ i, i < 2 ∨ 7 ≤ i → q1 i = ps i := fun i hi => (hkp i (by omega) (by omega) (by omega)).trans (hk7 i hi)
  refine lv_astore_n (lv' := [(1, .ref (pa z)), (0, .ref (ad 0))]) hx hb dX4_toLowestTerms_37 rfl hl (by decide) rfl (fun ls hl => ?_)
  refine lv_aload_n hx hb dX4_toLowestTerms_38 rfl (lv_at hl 1 rfl) ?_
  refine xw_get C hw hC.x (ci := 3) rfl iX4_toLowestTerms_X4 4 (by decide) (by decide +kernel) rfl dX4_toLowestTerms_39 ?_
  refine lv_aload_n hx hb dX4_toLowestTerms_42 rfl (lv_at hl 0 rfl) ?_
  refine lv_aload_n hx hb dX4_toLowestTerms_43 rfl (lv_at hl 1 rfl) ?_
  refine xw_get C hw hC.x (ci := 3) rfl iX4_toLowestTerms_X4 8 (by decide) (by decide +kernel) rfl dX4_toLowestTerms_44 ?_
  refine xw_cv (xw_V (n := 2) (rest := []) C hw (kX3_divide l G B _ (pa 2) (ra 2) 64 t (pa z) (ra z) 64 (xgcd 65 t b) (pa 6) (ra 6) 64 (q1 6) (hC.pw 2 (by omega) (by omega) et) (hC.pw z (by omega) (by omega) ez) (hC.pw 6 (by omega) (by omega) rfl) (hC.pn (by omega) (by omega) (by omega)) (hC.rn (by omega) (by omega) (by omega)) (hC.pn (by omega) (by omega) (by omega)) (hC.rn (by omega) (by omega) (by omega)) (hC.pn (by omega) (by omega) (by omega)) (hC.rn (by omega) (by omega) (by omega)) sd0 (xlen_le _ _)) gX4_toLowestTerms_X3_divide rfl rfl rfl (by decide +kernel) ⟨Nat.le_of_ble_eq_true rfl, Nat.le_of_ble_eq_true rfl⟩ (hC.p 2 (by omega)).1 rfl rfl hl.1 rfl (Nat.le_of_ble_eq_true rfl) dX4_toLowestTerms_47 ⟨Nat.le_of_ble_eq_true rfl, Nat.le_of_ble_eq_true rfl⟩ hS) hS (fun u H locs hpp hw hS => ?_)
  rw [hpp] at hw
  have hC := hC.set (i := 2) (by omega) (hC.cap (by omega) (by omega)) (f := xrem t (xgcd 65 t b)) ((xqr_sup st sd sd0).1)
  obtain ⟨ps5, hps⟩ : ∃ zz9, zz9 = va_up q1 (2) (xrem t (xgcd 65 t b)) := ⟨_, rfl⟩
  rw [← hps] at hC
  have eb : ps5 (3) = b := (congrFun hps _).trans ((va_up_ne _ _ (by omega)).trans eb)
  have ez : ps5 (z) = xgcd 65 t b := (congrFun hps _).trans ((va_up_ne _ _ (by omega)).trans ez)
  have hk7 : ∀ i, i < 2 ∨ 7 ≤ i → ps5 i = ps i := fun i hi => (congrFun hps i).trans ((va_up_ne _ _ (by omega)).trans (hk7 i hi))
  have ej : ps5 (2) = xrem t (xgcd 65 t b) := by rw [hps, va_up_self]
  have hC := hC.set (i := 6) (by omega) (hC.cap (by omega) (by omega)) (f := xquo t (xgcd 65 t b)) ((xqr_sup st sd sd0).2)
  obtain ⟨ps6, hps⟩ : ∃ zz9, zz9 = va_up ps5 (6) (xquo t (xgcd 65 t b)) := ⟨_, rfl⟩
  rw [← hps] at hC
  have eb : ps6 (3) = b := (congrFun hps _).trans ((va_up_ne _ _ (by omega)).trans eb)
  have ez : ps6 (z) = xgcd 65 t b := (congrFun hps _).trans ((va_up_ne _ _ (by omega)).trans ez)
  have ej : ps6 (2) = xrem t (xgcd 65 t b) := (congrFun hps _).trans ((va_up_ne _ _ (by omega)).trans ej)
  have hk7 : ∀ i, i < 2 ∨ 7 ≤ i → ps6 i = ps i := fun i hi => (congrFun hps i).trans ((va_up_ne _ _ (by omega)).trans (hk7 i hi))
  have e6 : ps6 (6) = xquo t (xgcd 65 t b) := by rw [hps, va_up_self]
  refine lv_aload_n hx hb dX4_toLowestTerms_50 rfl (lv_at hl 1 rfl) ?_
  refine xw_get C hw hC.x (ci := 3) rfl iX4_toLowestTerms_X4 4 (by decide) (by decide +kernel) rfl dX4_toLowestTerms_51 ?_
  refine lv_aload_n hx hb dX4_toLowestTerms_54 rfl (lv_at hl 1 rfl) ?_
  refine xw_get C hw hC.x (ci := 3) rfl iX4_toLowestTerms_X4 8 (by decide) (by decide +kernel) rfl dX4_toLowestTerms_55 ?_
  refine xw_cv (xw_V (n := 1) (rest := []) C hw (kX3_copy l G B _ (pa 2) (ra 2) 64 (ps6 2) (pa 6) (ra 6) 64 (xquo t (xgcd 65 t b)) (hC.pw 2 (by omega) (by omega) rfl) (hC.pw 6 (by omega) (by omega) e6) (hC.pn (by omega) (by omega) (by omega)) (hC.rn (by omega) (by omega) (by omega)) (Nat.le_trans (xlen_sle s1) (by decide))) gX4_toLowestTerms_X3_copy rfl rfl rfl (by decide +kernel) ⟨Nat.le_of_ble_eq_true rfl, Nat.le_of_ble_eq_true rfl⟩ (hC.p 2 (by omega)).1 rfl rfl hl.1 rfl (Nat.le_of_ble_eq_true rfl) dX4_toLowestTerms_58 ⟨Nat.le_of_ble_eq_true rfl, Nat.le_of_ble_eq_true rfl⟩ hS) hS (fun u H locs hpp hw hS => ?_)
  rw [hpp] at hw
  have hC := hC.set (i := 2) (by omega) (hC.cap (by omega) (by omega)) (f := xquo t (xgcd 65 t b)) ((xqr_sup st sd sd0).2)
  obtain ⟨ps7, hps⟩ : ∃ zz9, zz9 = va_up ps6 (2) (xquo t (xgcd 65 t b)) := ⟨_, rfl⟩
  rw [← hps] at hC
  have eb : ps7 (3) = b := (congrFun hps _).trans ((va_up_ne _ _ (by omega)).trans eb)
  have ez : ps7 (z) = xgcd 65 t b := (congrFun hps _).trans ((va_up_ne _ _ (by omega)).trans ez)
  have e6 : ps7 (6) = xquo t (xgcd 65 t b) := (congrFun hps _).trans ((va_up_ne _ _ (by omega)).trans e6)
  have hk7 : ∀ i, i < 2 ∨ 7 ≤ i → ps7 i = ps i := fun i hi => (congrFun hps i).trans ((va_up_ne _ _ (by omega)).trans (hk7 i hi))
  have e2 : ps7 (2) = xquo t (xgcd 65 t b) := by rw [hps, va_up_self]
  refine lv_aload_n hx hb dX4_toLowestTerms_61 rfl (lv_at hl 1 rfl) ?_
  refine xw_get C hw hC.x (ci := 3) rfl iX4_toLowestTerms_X4 5 (by decide) (by decide +kernel) rfl dX4_toLowestTerms_62 ?_
  refine lv_aload_n hx hb dX4_toLowestTerms_65 rfl (lv_at hl 0 rfl) ?_
  refine lv_aload_n hx hb dX4_toLowestTerms_66 rfl (lv_at hl 1 rfl) ?_
  refine xw_get C hw hC.x (ci := 3) rfl iX4_toLowestTerms_X4 8 (by decide) (by decide +kernel) rfl dX4_toLowestTerms_67 ?_
  refine xw_cv (xw_V (n := 2) (rest := []) C hw (kX3_divide l G B _ (pa 3) (ra 3) 64 b (pa z) (ra z) 64 (xgcd 65 t b) (pa 6) (ra 6) 64 (ps7 6) (hC.pw 3 (by omega) (by omega) eb) (hC.pw z (by omega) (by omega) ez) (hC.pw 6 (by omega) (by omega) rfl) (hC.pn (by omega) (by omega) (by omega)) (hC.rn (by omega) (by omega) (by omega)) (hC.pn (by omega) (by omega) (by omega)) (hC.rn (by omega) (by omega) (by omega)) (hC.pn (by omega) (by omega) (by omega)) (hC.rn (by omega) (by omega) (by omega)) sd0 (xlen_le _ _)) gX4_toLowestTerms_X3_divide rfl rfl rfl (by decide +kernel) ⟨Nat.le_of_ble_eq_true rfl, Nat.le_of_ble_eq_true rfl⟩ (hC.p 3 (by omega)).1 rfl rfl hl.1 rfl (Nat.le_of_ble_eq_true rfl) dX4_toLowestTerms_70 ⟨Nat.le_of_ble_eq_true rfl, Nat.le_of_ble_eq_true rfl⟩ hS) hS (fun u H locs hpp hw hS => ?_)
  rw [hpp] at hw
  have hC := hC.set (i := 3) (by omega) (hC.cap (by omega) (by omega)) (f := xrem b (xgcd 65 t b)) ((xqr_sup sb sd sd0).1)
  obtain ⟨ps8, hps⟩ : ∃ zz9, zz9 = va_up ps7 (3) (xrem b (xgcd 65 t b)) := ⟨_, rfl⟩
  rw [← hps] at hC
  have ez : ps8 (z) = xgcd 65 t b := (congrFun hps _).trans ((va_up_ne _ _ (by omega)).trans ez)
  have e6 : ps8 (6) = xquo t (xgcd 65 t b) := (congrFun hps _).trans ((va_up_ne _ _ (by omega)).trans e6)
  have e2 : ps8 (2) = xquo t (xgcd 65 t b) := (congrFun hps _).trans ((va_up_ne _ _ (by omega)).trans e2)
  have hk7 : ∀ i, i < 2 ∨ 7 ≤ i → ps8 i = ps i := fun i hi => (congrFun hps i).trans ((va_up_ne _ _ (by omega)).trans (hk7 i hi))
  have ej : ps8 (3) = xrem b (xgcd 65 t b) := by rw [hps, va_up_self]
  have hC := hC.set (i := 6) (by omega) (hC.cap (by omega) (by omega)) (f := xquo b (xgcd 65 t b)) ((xqr_sup sb sd sd0).2)
  obtain ⟨ps9, hps⟩ : ∃ zz9, zz9 = va_up ps8 (6) (xquo b (xgcd 65 t b)) := ⟨_, rfl⟩
  rw [← hps] at hC
  have ez : ps9 (z) = xgcd 65 t b := (congrFun hps _).trans ((va_up_ne _ _ (by omega)).trans ez)
  have e2 : ps9 (2) = xquo t (xgcd 65 t b) := (congrFun hps _).trans ((va_up_ne _ _ (by omega)).trans e2)
  have ej : ps9 (3) = xrem b (xgcd 65 t b) := (congrFun hps _).trans ((va_up_ne _ _ (by omega)).trans ej)
  have hk7 : ∀ i, i < 2 ∨ 7 ≤ i → ps9 i = ps i := fun i hi => (congrFun hps i).trans ((va_up_ne _ _ (by omega)).trans (hk7 i hi))
  have e6 : ps9 (6) = xquo b (xgcd 65 t b) := by rw [hps, va_up_self]
  refine lv_aload_n hx hb dX4_toLowestTerms_73 rfl (lv_at hl 1 rfl) ?_
  refine xw_get C hw hC.x (ci := 3) rfl iX4_toLowestTerms_X4 5 (by decide) (by decide +kernel) rfl dX4_toLowestTerms_74 ?_
  refine lv_aload_n hx hb dX4_toLowestTerms_77 rfl (lv_at hl 1 rfl) ?_
  refine xw_get C hw hC.x (ci := 3) rfl iX4_toLowestTerms_X4 8 (by decide) (by decide +kernel) rfl dX4_toLowestTerms_78 ?_
  refine xw_cv (xw_V (n := 1) (rest := []) C hw (kX3_copy l G B _ (pa 3) (ra 3) 64 (ps9 3) (pa 6) (ra 6) 64 (xquo b (xgcd 65 t b)) (hC.pw 3 (by omega) (by omega) rfl) (hC.pw 6 (by omega) (by omega) e6) (hC.pn (by omega) (by omega) (by omega)) (hC.rn (by omega) (by omega) (by omega)) (Nat.le_trans (xlen_sle s2) (by decide))) gX4_toLowestTerms_X3_copy rfl rfl rfl (by decide +kernel) ⟨Nat.le_of_ble_eq_true rfl, Nat.le_of_ble_eq_true rfl⟩ (hC.p 3 (by omega)).1 rfl rfl hl.1 rfl (Nat.le_of_ble_eq_true rfl) dX4_toLowestTerms_81 ⟨Nat.le_of_ble_eq_true rfl, Nat.le_of_ble_eq_true rfl⟩ hS) hS (fun u H locs hpp hw hS => ?_)
  rw [hpp] at hw
  have hC := hC.set (i := 3) (by omega) (hC.cap (by omega) (by omega)) (f := xquo b (xgcd 65 t b)) ((xqr_sup sb sd sd0).2)
  obtain ⟨ps10, hps⟩ : ∃ zz9, zz9 = va_up ps9 (3) (xquo b (xgcd 65 t b)) := ⟨_, rfl⟩
  rw [← hps] at hC
  have ez : ps10 (z) = xgcd 65 t b := (congrFun hps _).trans ((va_up_ne _ _ (by omega)).trans ez)
  have e2 : ps10 (2) = xquo t (xgcd 65 t b) := (congrFun hps _).trans ((va_up_ne _ _ (by omega)).trans e2)
  have e6 : ps10 (6) = xquo b (xgcd 65 t b) := (congrFun hps _).trans ((va_up_ne _ _ (by omega)).trans e6)
  have hk7 : ∀ i, i < 2 ∨ 7 ≤ i → ps10 i = ps i := fun i hi => (congrFun hps i).trans ((va_up_ne _ _ (by omega)).trans (hk7 i hi))
  have e3 : ps10 (3) = xquo b (xgcd 65 t b) := by rw [hps, va_up_self]
  refine lv_aload_n hx hb dX4_toLowestTerms_84 rfl (lv_at hl 1 rfl) ?_
  refine xw_get C hw hC.x (ci := 3) rfl iX4_toLowestTerms_X4 5 (by decide) (by decide +kernel) rfl dX4_toLowestTerms_85 ?_
  refine xw_ci (xw_V (n := 0) (rest := []) C hw (kX3_leading l G B _ (pa 3) (ra 3) 64 (xquo b (xgcd 65 t b)) (hC.pw 3 (by omega) (by omega) e3)) gX4_toLowestTerms_X3_leading rfl rfl rfl (by decide +kernel) ⟨Nat.le_of_ble_eq_true rfl, Nat.le_of_ble_eq_true rfl⟩ (hC.p 3 (by omega)).1 rfl rfl hl.1 rfl (Nat.le_of_ble_eq_true rfl) dX4_toLowestTerms_88 ⟨Nat.le_of_ble_eq_true rfl, Nat.le_of_ble_eq_true rfl⟩ hS) hS (fun ru u H locs hp hw hS => ?_)
  obtain ⟨hr, hu⟩ := hp
  rw [hu] at hw
  refine xw_ti (y := (xI (xcf (xquo b (xgcd 65 t b)) (xhi (xquo b (xgcd 65 t b)) 64)))) (hr) ?_
  refine xw_ci (xw_S (n := 1) (rest := []) C hw (kX2_inverse l G B _ _) gX4_toLowestTerms_X2_inverse rfl rfl rfl (by decide +kernel) ⟨Nat.le_of_ble_eq_true rfl, Nat.le_of_ble_eq_true rfl⟩ rfl hl.1 rfl (Nat.le_of_ble_eq_true rfl) dX4_toLowestTerms_91 ⟨Nat.le_of_ble_eq_true rfl, Nat.le_of_ble_eq_true rfl⟩ hS) hS (fun ru u H locs hp hw hS => ?_)
  obtain ⟨hr, hu⟩ := hp
  rw [hu] at hw
  refine xw_ti (y := (xI (xnc t b))) (hr) ?_
  refine lv_istore_n (lv' := [(2, .int (xI (xnc t b))), (1, .ref (pa z)), (0, .ref (ad 0))]) hx hb dX4_toLowestTerms_94 rfl hl (by decide) rfl (fun ls hl => ?_)
  refine lv_aload_n hx hb dX4_toLowestTerms_95 rfl (lv_at hl 2 rfl) ?_
  refine xw_get C hw hC.x (ci := 3) rfl iX4_toLowestTerms_X4 4 (by decide) (by decide +kernel) rfl dX4_toLowestTerms_96 ?_
  refine lv_iload_n hx hb dX4_toLowestTerms_99 rfl (lv_at hl 0 rfl) ?_
  refine xw_cv (xw_V (n := 1) (rest := []) C hw (kX3_scale l G B _ (pa 2) (ra 2) 64 (xquo t (xgcd 65 t b)) (xnc t b) (hC.pw 2 (by omega) (by omega) e2)) gX4_toLowestTerms_X3_scale rfl rfl rfl (by decide +kernel) ⟨Nat.le_of_ble_eq_true rfl, Nat.le_of_ble_eq_true rfl⟩ (hC.p 2 (by omega)).1 rfl rfl hl.1 rfl (Nat.le_of_ble_eq_true rfl) dX4_toLowestTerms_100 ⟨Nat.le_of_ble_eq_true rfl, Nat.le_of_ble_eq_true rfl⟩ hS) hS (fun u H locs hpp hw hS => ?_)
  rw [hpp] at hw
  have hC := hC.set (i := 2) (by omega) (hC.cap (by omega) (by omega)) (f := xnT t b) (xsc_sup s1)
  obtain ⟨ps11, hps⟩ : ∃ zz9, zz9 = va_up ps10 (2) (xnT t b) := ⟨_, rfl⟩
  rw [← hps] at hC
  have ez : ps11 (z) = xgcd 65 t b := (congrFun hps _).trans ((va_up_ne _ _ (by omega)).trans ez)
  have e6 : ps11 (6) = xquo b (xgcd 65 t b) := (congrFun hps _).trans ((va_up_ne _ _ (by omega)).trans e6)
  have e3 : ps11 (3) = xquo b (xgcd 65 t b) := (congrFun hps _).trans ((va_up_ne _ _ (by omega)).trans e3)
  have hk7 : ∀ i, i < 2 ∨ 7 ≤ i → ps11 i = ps i := fun i hi => (congrFun hps i).trans ((va_up_ne _ _ (by omega)).trans (hk7 i hi))
  have e2 : ps11 (2) = xnT t b := by rw [hps, va_up_self]
  refine lv_aload_n hx hb dX4_toLowestTerms_103 rfl (lv_at hl 2 rfl) ?_
  refine xw_get C hw hC.x (ci := 3) rfl iX4_toLowestTerms_X4 5 (by decide) (by decide +kernel) rfl dX4_toLowestTerms_104 ?_
  refine lv_iload_n hx hb dX4_toLowestTerms_107 rfl (lv_at hl 0 rfl) ?_
  refine xw_cv (xw_V (n := 1) (rest := []) C hw (kX3_scale l G B _ (pa 3) (ra 3) 64 (xquo b (xgcd 65 t b)) (xnc t b) (hC.pw 3 (by omega) (by omega) e3)) gX4_toLowestTerms_X3_scale rfl rfl rfl (by decide +kernel) ⟨Nat.le_of_ble_eq_true rfl, Nat.le_of_ble_eq_true rfl⟩ (hC.p 3 (by omega)).1 rfl rfl hl.1 rfl (Nat.le_of_ble_eq_true rfl) dX4_toLowestTerms_108 ⟨Nat.le_of_ble_eq_true rfl, Nat.le_of_ble_eq_true rfl⟩ hS) hS (fun u H locs hpp hw hS => ?_)
  rw [hpp] at hw
  have hC := hC.set (i := 3) (by omega) (hC.cap (by omega) (by omega)) (f := xnB t b) (xsc_sup s2)
  obtain ⟨ps12, hps⟩ : ∃ zz9, zz9 = va_up ps11 (3) (xnB t b) := ⟨_, rfl⟩
  rw [← hps] at hC
  have ez : ps12 (z) = xgcd 65 t b := (congrFun hps _).trans ((va_up_ne _ _ (by omega)).trans ez)
  have e6 : ps12 (6) = xquo b (xgcd 65 t b) := (congrFun hps _).trans ((va_up_ne _ _ (by omega)).trans e6)
  have e2 : ps12 (2) = xnT t b := (congrFun hps _).trans ((va_up_ne _ _ (by omega)).trans e2)
  have hk7 : ∀ i, i < 2 ∨ 7 ≤ i → ps12 i = ps i := fun i hi => (congrFun hps i).trans ((va_up_ne _ _ (by omega)).trans (hk7 i hi))
  have e3 : ps12 (3) = xnB t b := by rw [hps, va_up_self]
  exact xw_vret C hw hS (Nat.le_of_ble_eq_true rfl) (Nat.le_of_ble_eq_true rfl) (⟨ps12, hC, e2, e3, hk7⟩) dX4_toLowestTerms_111

abbrev rmX4_setToStep : Room := { frames := 3, cells := 0, slots := 0, locals := 71 }
theorem iX4_setToStep_X1 : ∀ w ∈ wsX10, w ∈ wsX4_setToStep := by decide +kernel
theorem iX4_setToStep_X4 : ∀ w ∈ wsX40, w ∈ wsX4_setToStep := by decide +kernel
set_option maxHeartbeats 4000000 in
set_option maxRecDepth 100000 in
theorem kX4_setToStep (l : Launch) (G : xG) (B : Nat) (w : xM) (pa ra cp fr ad : Nat → Nat) (md : Nat) (ps : Nat → xP) (eo : Nat → Option Nat) (tb : Nat → Bool) (wr : xM) (hC : xCL G w pa ra cp fr ad md ps eo tb wr) (k : Nat) (hk : k < md) (t b A Bq : xP) (et : ps (21 + 2 * k) = t) (eb : ps (22 + 2 * k) = b) (ea : ps 0 = A) (eB : ps 1 = Bq) (st : xsup t 21) (sb : xsup b 21) : Met l yX4_setToStep wsX4_setToStep rmX4_setToStep (va_Pc [.ref (ad 0), .ref (fr k)] (xB G B w)) (va_Qv (fun u => ∃ q : Nat → xP, xCL G u pa ra cp fr ad md q eo tb wr ∧ q 2 = xgat (xmul (xmul (xmv 64 t) A) b) (xO 32002) (xmul (xmul (xmv 64 b) Bq) t) 0 ∧ q 3 = xmul (xmul (xmv 64 b) Bq) b ∧ ∀ i, i < 2 ∨ 7 ≤ i → q i = ps i) (xE G B) (xA B)) 0 0 (xA B) := by
  refine xw_start (own := RX4) (mn := "setToStep") (cc := cX4_setToStep) (nL := 2) (rt := none) (by decide) rfl rfl rfl (Nat.le_of_ble_eq_true rfl) ?_
  intro p ev s m below meth cd ls C hl hw hS
  obtain ⟨hx, hb, -, -, -, hts, -, -, -, -⟩ := id C
  have hl : lv_has ls 2 [(0, .ref (ad 0)), (1, .ref (fr k))] := hl
  have hk7 : ∀ i, i < 2 ∨ 7 ≤ i → ps i = ps i := fun _ _ => rfl
  have sA : xsup A 4 := by have q := (hC.pe 0 (by omega) ea).2.2.1; rw [hC.2.2.2.1.1] at q; exact q
  have sB : xsup Bq 4 := by have q := (hC.pe 1 (by omega) eB).2.2.1; rw [hC.2.2.2.1.2.1] at q; exact q
  have smt : xsup (xmv 64 t) 21 := xmv_sup (xsup_mono st (by decide)) st
  have smb : xsup (xmv 64 b) 21 := xmv_sup (xsup_mono sb (by decide)) sb
  refine lv_aload_n hx hb dX4_setToStep_0 rfl (lv_at hl 0 rfl) ?_
  refine xw_get C hw hC.x (ci := 3) rfl iX4_setToStep_X4 6 (by decide) (by decide +kernel) rfl dX4_setToStep_1 ?_
  refine lv_aload_n hx hb dX4_setToStep_4 rfl (lv_at hl 1 rfl) ?_
  refine xw_get C hw (hC.fo k hk) (ci := 1) rfl iX4_setToStep_X1 0 (by decide) (by decide +kernel) rfl dX4_setToStep_5 ?_
  refine xw_cv (xw_V (n := 1) (rest := []) C hw (kX3_copy l G B _ (pa 4) (ra 4) 64 (ps 4) (pa (21 + 2 * k)) (ra (21 + 2 * k)) (cp (21 + 2 * k)) t (hC.pw 4 (by omega) (by omega) rfl) (hC.pe (21 + 2 * k) (by omega) et) (hC.pn (by omega) (by omega) (by omega)) (hC.rn (by omega) (by omega) (by omega)) (Nat.le_trans (xlen_sle st) (by decide))) gX4_setToStep_X3_copy rfl rfl rfl (by decide +kernel) ⟨Nat.le_of_ble_eq_true rfl, Nat.le_of_ble_eq_true rfl⟩ (hC.p 4 (by omega)).1 rfl rfl hl.1 rfl (Nat.le_of_ble_eq_true rfl) dX4_setToStep_8 ⟨Nat.le_of_ble_eq_true rfl, Nat.le_of_ble_eq_true rfl⟩ hS) hS (fun u H locs hpp hw hS => ?_)
  rw [hpp] at hw
  have hC := hC.set (i := 4) (by omega) (hC.cap (by omega) (by omega)) (f := t) (xsup_mono st (by decide))
  obtain ⟨ps3, hps⟩ : ∃ zz9, zz9 = va_up ps (4) (t) := ⟨_, rfl⟩
  rw [← hps] at hC
  have et : ps3 (21 + 2 * k) = t := (congrFun hps _).trans ((va_up_ne _ _ (by omega)).trans et)
  have eb : ps3 (22 + 2 * k) = b := (congrFun hps _).trans ((va_up_ne _ _ (by omega)).trans eb)
  have ea : ps3 (0) = A := (congrFun hps _).trans ((va_up_ne _ _ (by omega)).trans ea)
  have eB : ps3 (1) = Bq := (congrFun hps _).trans ((va_up_ne _ _ (by omega)).trans eB)
  have hk7 : ∀ i, i < 2 ∨ 7 ≤ i → ps3 i = ps i := fun i hi => (congrFun hps i).trans ((va_up_ne _ _ (by omega)).trans (hk7 i hi))
  have e4 : ps3 (4) = t := by rw [hps, va_up_self]
  refine lv_aload_n hx hb dX4_setToStep_11 rfl (lv_at hl 0 rfl) ?_
  refine xw_get C hw hC.x (ci := 3) rfl iX4_setToStep_X4 6 (by decide) (by decide +kernel) rfl dX4_setToStep_12 ?_
  refine xw_cv (xw_V (n := 0) (rest := []) C hw (kX3_moveByOne l G B _ (pa 4) (ra 4) 64 t (hC.pw 4 (by omega) (by omega) e4)) gX4_setToStep_X3_moveByOne rfl rfl rfl (by decide +kernel) ⟨Nat.le_of_ble_eq_true rfl, Nat.le_of_ble_eq_true rfl⟩ (hC.p 4 (by omega)).1 rfl rfl hl.1 rfl (Nat.le_of_ble_eq_true rfl) dX4_setToStep_15 ⟨Nat.le_of_ble_eq_true rfl, Nat.le_of_ble_eq_true rfl⟩ hS) hS (fun u H locs hpp hw hS => ?_)
  rw [hpp] at hw
  have hC := hC.set (i := 4) (by omega) (hC.cap (by omega) (by omega)) (f := xmv 64 t) (xsup_mono smt (by decide))
  obtain ⟨ps4, hps⟩ : ∃ zz9, zz9 = va_up ps3 (4) (xmv 64 t) := ⟨_, rfl⟩
  rw [← hps] at hC
  have et : ps4 (21 + 2 * k) = t := (congrFun hps _).trans ((va_up_ne _ _ (by omega)).trans et)
  have eb : ps4 (22 + 2 * k) = b := (congrFun hps _).trans ((va_up_ne _ _ (by omega)).trans eb)
  have ea : ps4 (0) = A := (congrFun hps _).trans ((va_up_ne _ _ (by omega)).trans ea)
  have eB : ps4 (1) = Bq := (congrFun hps _).trans ((va_up_ne _ _ (by omega)).trans eB)
  have hk7 : ∀ i, i < 2 ∨ 7 ≤ i → ps4 i = ps i := fun i hi => (congrFun hps i).trans ((va_up_ne _ _ (by omega)).trans (hk7 i hi))
  have e4 : ps4 (4) = xmv 64 t := by rw [hps, va_up_self]
  refine lv_aload_n hx hb dX4_setToStep_18 rfl (lv_at hl 0 rfl) ?_
  refine xw_get C hw hC.x (ci := 3) rfl iX4_setToStep_X4 7 (by decide) (by decide +kernel) rfl dX4_setToStep_19 ?_
  refine lv_aload_n hx hb dX4_setToStep_22 rfl (lv_at hl 0 rfl) ?_
  refine xw_get C hw hC.x (ci := 3) rfl iX4_setToStep_X4 6 (by decide) (by decide +kernel) rfl dX4_setToStep_23 ?_
  refine lv_aload_n hx hb dX4_setToStep_26 rfl (lv_at hl 0 rfl) ?_
  refine xw_get C hw hC.x (ci := 3) rfl iX4_setToStep_X4 0 (by decide) (by decide +kernel) rfl dX4_setToStep_27 ?_
  refine xw_cv (xw_V (n := 2) (rest := []) C hw (kX3_setProduct l G B _ (pa 5) (ra 5) 64 (ps4 5) (pa 4) (ra 4) 64 (xmv 64 t) (pa 0) (ra 0) (cp 0) A (hC.pw 5 (by omega) (by omega) rfl) (hC.pw 4 (by omega) (by omega) e4) (hC.pe 0 (by omega) ea) (hC.pn (by omega) (by omega) (by omega)) (hC.rn (by omega) (by omega) (by omega)) (hC.pn (by omega) (by omega) (by omega)) (hC.rn (by omega) (by omega) (by omega)) (Nat.le_trans (Nat.add_le_add (xlen_sle smt) (xlen_sle sA)) (by decide))) gX4_setToStep_X3_setProduct rfl rfl rfl (by decide +kernel) ⟨Nat.le_of_ble_eq_true rfl, Nat.le_of_ble_eq_true rfl⟩ (hC.p 5 (by omega)).1 rfl rfl hl.1 rfl (Nat.le_of_ble_eq_true rfl) dX4_setToStep_30 ⟨Nat.le_of_ble_eq_true rfl, Nat.le_of_ble_eq_true rfl⟩ hS) hS (fun u H locs hpp hw hS => ?_)
  rw [hpp] at hw
  have hC := hC.set (i := 5) (by omega) (hC.cap (by omega) (by omega)) (f := xmul (xmv 64 t) A) (xsup_mono (xmul_sup smt sA) (by decide))
  obtain ⟨ps5, hps⟩ : ∃ zz9, zz9 = va_up ps4 (5) (xmul (xmv 64 t) A) := ⟨_, rfl⟩
  rw [← hps] at hC
  have et : ps5 (21 + 2 * k) = t := (congrFun hps _).trans ((va_up_ne _ _ (by omega)).trans et)
  have eb : ps5 (22 + 2 * k) = b := (congrFun hps _).trans ((va_up_ne _ _ (by omega)).trans eb)
  have ea : ps5 (0) = A := (congrFun hps _).trans ((va_up_ne _ _ (by omega)).trans ea)
  have eB : ps5 (1) = Bq := (congrFun hps _).trans ((va_up_ne _ _ (by omega)).trans eB)
  have e4 : ps5 (4) = xmv 64 t := (congrFun hps _).trans ((va_up_ne _ _ (by omega)).trans e4)
  have hk7 : ∀ i, i < 2 ∨ 7 ≤ i → ps5 i = ps i := fun i hi => (congrFun hps i).trans ((va_up_ne _ _ (by omega)).trans (hk7 i hi))
  have e5 : ps5 (5) = xmul (xmv 64 t) A := by rw [hps, va_up_self]
  refine lv_aload_n hx hb dX4_setToStep_33 rfl (lv_at hl 0 rfl) ?_
  refine xw_get C hw hC.x (ci := 3) rfl iX4_setToStep_X4 4 (by decide) (by decide +kernel) rfl dX4_setToStep_34 ?_
  refine lv_aload_n hx hb dX4_setToStep_37 rfl (lv_at hl 0 rfl) ?_
  refine xw_get C hw hC.x (ci := 3) rfl iX4_setToStep_X4 7 (by decide) (by decide +kernel) rfl dX4_setToStep_38 ?_
  refine lv_aload_n hx hb dX4_setToStep_41 rfl (lv_at hl 1 rfl) ?_
  refine xw_get C hw (hC.fo k hk) (ci := 1) rfl iX4_setToStep_X1 1 (by decide) (by decide +kernel) rfl dX4_setToStep_42 ?_
  refine xw_cv (xw_V (n := 2) (rest := []) C hw (kX3_setProduct l G B _ (pa 2) (ra 2) 64 (ps5 2) (pa 5) (ra 5) 64 (xmul (xmv 64 t) A) (pa (22 + 2 * k)) (ra (22 + 2 * k)) (cp (22 + 2 * k)) b (hC.pw 2 (by omega) (by omega) rfl) (hC.pw 5 (by omega) (by omega) e5) (hC.pe (22 + 2 * k) (by omega) eb) (hC.pn (by omega) (by omega) (by omega)) (hC.rn (by omega) (by omega) (by omega)) (hC.pn (by omega) (by omega) (by omega)) (hC.rn (by omega) (by omega) (by omega)) (Nat.le_trans (Nat.add_le_add (xlen_sle (xmul_sup smt sA)) (xlen_sle sb)) (by decide))) gX4_setToStep_X3_setProduct rfl rfl rfl (by decide +kernel) ⟨Nat.le_of_ble_eq_true rfl, Nat.le_of_ble_eq_true rfl⟩ (hC.p 2 (by omega)).1 rfl rfl hl.1 rfl (Nat.le_of_ble_eq_true rfl) dX4_setToStep_45 ⟨Nat.le_of_ble_eq_true rfl, Nat.le_of_ble_eq_true rfl⟩ hS) hS (fun u H locs hpp hw hS => ?_)
  rw [hpp] at hw
  have hC := hC.set (i := 2) (by omega) (hC.cap (by omega) (by omega)) (f := xmul (xmul (xmv 64 t) A) b) (xsup_mono (xmul_sup (xmul_sup smt sA) sb) (by decide))
  obtain ⟨ps6, hps⟩ : ∃ zz9, zz9 = va_up ps5 (2) (xmul (xmul (xmv 64 t) A) b) := ⟨_, rfl⟩
  rw [← hps] at hC
  have et : ps6 (21 + 2 * k) = t := (congrFun hps _).trans ((va_up_ne _ _ (by omega)).trans et)
  have eb : ps6 (22 + 2 * k) = b := (congrFun hps _).trans ((va_up_ne _ _ (by omega)).trans eb)
  have ea : ps6 (0) = A := (congrFun hps _).trans ((va_up_ne _ _ (by omega)).trans ea)
  have eB : ps6 (1) = Bq := (congrFun hps _).trans ((va_up_ne _ _ (by omega)).trans eB)
  have e4 : ps6 (4) = xmv 64 t := (congrFun hps _).trans ((va_up_ne _ _ (by omega)).trans e4)
  have e5 : ps6 (5) = xmul (xmv 64 t) A := (congrFun hps _).trans ((va_up_ne _ _ (by omega)).trans e5)
  have hk7 : ∀ i, i < 2 ∨ 7 ≤ i → ps6 i = ps i := fun i hi => (congrFun hps i).trans ((va_up_ne _ _ (by omega)).trans (hk7 i hi))
  have e2 : ps6 (2) = xmul (xmul (xmv 64 t) A) b := by rw [hps, va_up_self]
  refine lv_aload_n hx hb dX4_setToStep_48 rfl (lv_at hl 0 rfl) ?_
  refine xw_get C hw hC.x (ci := 3) rfl iX4_setToStep_X4 6 (by decide) (by decide +kernel) rfl dX4_setToStep_49 ?_
  refine lv_aload_n hx hb dX4_setToStep_52 rfl (lv_at hl 1 rfl) ?_
  refine xw_get C hw (hC.fo k hk) (ci := 1) rfl iX4_setToStep_X1 1 (by decide) (by decide +kernel) rfl dX4_setToStep_53 ?_
  refine xw_cv (xw_V (n := 1) (rest := []) C hw (kX3_copy l G B _ (pa 4) (ra 4) 64 (ps6 4) (pa (22 + 2 * k)) (ra (22 + 2 * k)) (cp (22 + 2 * k)) b (hC.pw 4 (by omega) (by omega) rfl) (hC.pe (22 + 2 * k) (by omega) eb) (hC.pn (by omega) (by omega) (by omega)) (hC.rn (by omega) (by omega) (by omega)) (Nat.le_trans (xlen_sle sb) (by decide))) gX4_setToStep_X3_copy rfl rfl rfl (by decide +kernel) ⟨Nat.le_of_ble_eq_true rfl, Nat.le_of_ble_eq_true rfl⟩ (hC.p 4 (by omega)).1 rfl rfl hl.1 rfl (Nat.le_of_ble_eq_true rfl) dX4_setToStep_56 ⟨Nat.le_of_ble_eq_true rfl, Nat.le_of_ble_eq_true rfl⟩ hS) hS (fun u H locs hpp hw hS => ?_)
  rw [hpp] at hw
  have hC := hC.set (i := 4) (by omega) (hC.cap (by omega) (by omega)) (f := b) (xsup_mono sb (by decide))
  obtain ⟨ps7, hps⟩ : ∃ zz9, zz9 = va_up ps6 (4) (b) := ⟨_, rfl⟩
  rw [← hps] at hC
  have et : ps7 (21 + 2 * k) = t := (congrFun hps _).trans ((va_up_ne _ _ (by omega)).trans et)
  have eb : ps7 (22 + 2 * k) = b := (congrFun hps _).trans ((va_up_ne _ _ (by omega)).trans eb)
  have ea : ps7 (0) = A := (congrFun hps _).trans ((va_up_ne _ _ (by omega)).trans ea)
  have eB : ps7 (1) = Bq := (congrFun hps _).trans ((va_up_ne _ _ (by omega)).trans eB)
  have e5 : ps7 (5) = xmul (xmv 64 t) A := (congrFun hps _).trans ((va_up_ne _ _ (by omega)).trans e5)
  have e2 : ps7 (2) = xmul (xmul (xmv 64 t) A) b := (congrFun hps _).trans ((va_up_ne _ _ (by omega)).trans e2)
  have hk7 : ∀ i, i < 2 ∨ 7 ≤ i → ps7 i = ps i := fun i hi => (congrFun hps i).trans ((va_up_ne _ _ (by omega)).trans (hk7 i hi))
  have e4 : ps7 (4) = b := by rw [hps, va_up_self]
  refine lv_aload_n hx hb dX4_setToStep_59 rfl (lv_at hl 0 rfl) ?_
  refine xw_get C hw hC.x (ci := 3) rfl iX4_setToStep_X4 6 (by decide) (by decide +kernel) rfl dX4_setToStep_60 ?_
  refine xw_cv (xw_V (n := 0) (rest := []) C hw (kX3_moveByOne l G B _ (pa 4) (ra 4) 64 b (hC.pw 4 (by omega) (by omega) e4)) gX4_setToStep_X3_moveByOne rfl rfl rfl (by decide +kernel) ⟨Nat.le_of_ble_eq_true rfl, Nat.le_of_ble_eq_true rfl⟩ (hC.p 4 (by omega)).1 rfl rfl hl.1 rfl (Nat.le_of_ble_eq_true rfl) dX4_setToStep_63 ⟨Nat.le_of_ble_eq_true rfl, Nat.le_of_ble_eq_true rfl⟩ hS) hS (fun u H locs hpp hw hS => ?_)
  rw [hpp] at hw
  have hC := hC.set (i := 4) (by omega) (hC.cap (by omega) (by omega)) (f := xmv 64 b) (xsup_mono smb (by decide))
  obtain ⟨ps8, hps⟩ : ∃ zz9, zz9 = va_up ps7 (4) (xmv 64 b) := ⟨_, rfl⟩
  rw [← hps] at hC
  have et : ps8 (21 + 2 * k) = t := (congrFun hps _).trans ((va_up_ne _ _ (by omega)).trans et)
  have eb : ps8 (22 + 2 * k) = b := (congrFun hps _).trans ((va_up_ne _ _ (by omega)).trans eb)
  have ea : ps8 (0) = A := (congrFun hps _).trans ((va_up_ne _ _ (by omega)).trans ea)
  have eB : ps8 (1) = Bq := (congrFun hps _).trans ((va_up_ne _ _ (by omega)).trans eB)
  have e5 : ps8 (5) = xmul (xmv 64 t) A := (congrFun hps _).trans ((va_up_ne _ _ (by omega)).trans e5)
  have e2 : ps8 (2) = xmul (xmul (xmv 64 t) A) b := (congrFun hps _).trans ((va_up_ne _ _ (by omega)).trans e2)
  have hk7 : ∀ i, i < 2 ∨ 7 ≤ i → ps8 i = ps i := fun i hi => (congrFun hps i).trans ((va_up_ne _ _ (by omega)).trans (hk7 i hi))
  have e4 : ps8 (4) = xmv 64 b := by rw [hps, va_up_self]
  refine lv_aload_n hx hb dX4_setToStep_66 rfl (lv_at hl 0 rfl) ?_
  refine xw_get C hw hC.x (ci := 3) rfl iX4_setToStep_X4 7 (by decide) (by decide +kernel) rfl dX4_setToStep_67 ?_
  refine lv_aload_n hx hb dX4_setToStep_70 rfl (lv_at hl 0 rfl) ?_
  refine xw_get C hw hC.x (ci := 3) rfl iX4_setToStep_X4 6 (by decide) (by decide +kernel) rfl dX4_setToStep_71 ?_
  refine lv_aload_n hx hb dX4_setToStep_74 rfl (lv_at hl 0 rfl) ?_
  refine xw_get C hw hC.x (ci := 3) rfl iX4_setToStep_X4 1 (by decide) (by decide +kernel) rfl dX4_setToStep_75 ?_
  refine xw_cv (xw_V (n := 2) (rest := []) C hw (kX3_setProduct l G B _ (pa 5) (ra 5) 64 (ps8 5) (pa 4) (ra 4) 64 (xmv 64 b) (pa 1) (ra 1) (cp 1) Bq (hC.pw 5 (by omega) (by omega) rfl) (hC.pw 4 (by omega) (by omega) e4) (hC.pe 1 (by omega) eB) (hC.pn (by omega) (by omega) (by omega)) (hC.rn (by omega) (by omega) (by omega)) (hC.pn (by omega) (by omega) (by omega)) (hC.rn (by omega) (by omega) (by omega)) (Nat.le_trans (Nat.add_le_add (xlen_sle smb) (xlen_sle sB)) (by decide))) gX4_setToStep_X3_setProduct rfl rfl rfl (by decide +kernel) ⟨Nat.le_of_ble_eq_true rfl, Nat.le_of_ble_eq_true rfl⟩ (hC.p 5 (by omega)).1 rfl rfl hl.1 rfl (Nat.le_of_ble_eq_true rfl) dX4_setToStep_78 ⟨Nat.le_of_ble_eq_true rfl, Nat.le_of_ble_eq_true rfl⟩ hS) hS (fun u H locs hpp hw hS => ?_)
  rw [hpp] at hw
  have hC := hC.set (i := 5) (by omega) (hC.cap (by omega) (by omega)) (f := xmul (xmv 64 b) Bq) (xsup_mono (xmul_sup smb sB) (by decide))
  obtain ⟨ps9, hps⟩ : ∃ zz9, zz9 = va_up ps8 (5) (xmul (xmv 64 b) Bq) := ⟨_, rfl⟩
  rw [← hps] at hC
  have et : ps9 (21 + 2 * k) = t := (congrFun hps _).trans ((va_up_ne _ _ (by omega)).trans et)
  have eb : ps9 (22 + 2 * k) = b := (congrFun hps _).trans ((va_up_ne _ _ (by omega)).trans eb)
  have ea : ps9 (0) = A := (congrFun hps _).trans ((va_up_ne _ _ (by omega)).trans ea)
  have eB : ps9 (1) = Bq := (congrFun hps _).trans ((va_up_ne _ _ (by omega)).trans eB)
  have e2 : ps9 (2) = xmul (xmul (xmv 64 t) A) b := (congrFun hps _).trans ((va_up_ne _ _ (by omega)).trans e2)
  have e4 : ps9 (4) = xmv 64 b := (congrFun hps _).trans ((va_up_ne _ _ (by omega)).trans e4)
  have hk7 : ∀ i, i < 2 ∨ 7 ≤ i → ps9 i = ps i := fun i hi => (congrFun hps i).trans ((va_up_ne _ _ (by omega)).trans (hk7 i hi))
  have e5 : ps9 (5) = xmul (xmv 64 b) Bq := by rw [hps, va_up_self]
  refine lv_aload_n hx hb dX4_setToStep_81 rfl (lv_at hl 0 rfl) ?_
  refine xw_get C hw hC.x (ci := 3) rfl iX4_setToStep_X4 5 (by decide) (by decide +kernel) rfl dX4_setToStep_82 ?_
  refine lv_aload_n hx hb dX4_setToStep_85 rfl (lv_at hl 0 rfl) ?_
  refine xw_get C hw hC.x (ci := 3) rfl iX4_setToStep_X4 7 (by decide) (by decide +kernel) rfl dX4_setToStep_86 ?_
  refine lv_aload_n hx hb dX4_setToStep_89 rfl (lv_at hl 1 rfl) ?_
  refine xw_get C hw (hC.fo k hk) (ci := 1) rfl iX4_setToStep_X1 1 (by decide) (by decide +kernel) rfl dX4_setToStep_90 ?_
  refine xw_cv (xw_V (n := 2) (rest := []) C hw (kX3_setProduct l G B _ (pa 3) (ra 3) 64 (ps9 3) (pa 5) (ra 5) 64 (xmul (xmv 64 b) Bq) (pa (22 + 2 * k)) (ra (22 + 2 * k)) (cp (22 + 2 * k)) b (hC.pw 3 (by omega) (by omega) rfl) (hC.pw 5 (by omega) (by omega) e5) (hC.pe (22 + 2 * k) (by omega) eb) (hC.pn (by omega) (by omega) (by omega)) (hC.rn (by omega) (by omega) (by omega)) (hC.pn (by omega) (by omega) (by omega)) (hC.rn (by omega) (by omega) (by omega)) (Nat.le_trans (Nat.add_le_add (xlen_sle (xmul_sup smb sB)) (xlen_sle sb)) (by decide))) gX4_setToStep_X3_setProduct rfl rfl rfl (by decide +kernel) ⟨Nat.le_of_ble_eq_true rfl, Nat.le_of_ble_eq_true rfl⟩ (hC.p 3 (by omega)).1 rfl rfl hl.1 rfl (Nat.le_of_ble_eq_true rfl) dX4_setToStep_93 ⟨Nat.le_of_ble_eq_true rfl, Nat.le_of_ble_eq_true rfl⟩ hS) hS (fun u H locs hpp hw hS => ?_)
  rw [hpp] at hw
  have hC := hC.set (i := 3) (by omega) (hC.cap (by omega) (by omega)) (f := xmul (xmul (xmv 64 b) Bq) b) (xsup_mono (xmul_sup (xmul_sup smb sB) sb) (by decide))
  obtain ⟨ps10, hps⟩ : ∃ zz9, zz9 = va_up ps9 (3) (xmul (xmul (xmv 64 b) Bq) b) := ⟨_, rfl⟩
  rw [← hps] at hC
  have et : ps10 (21 + 2 * k) = t := (congrFun hps _).trans ((va_up_ne _ _ (by omega)).trans et)
  have eb : ps10 (22 + 2 * k) = b := (congrFun hps _).trans ((va_up_ne _ _ (by omega)).trans eb)
  have ea : ps10 (0) = A := (congrFun hps _).trans ((va_up_ne _ _ (by omega)).trans ea)
  have eB : ps10 (1) = Bq := (congrFun hps _).trans ((va_up_ne _ _ (by omega)).trans eB)
  have e2 : ps10 (2) = xmul (xmul (xmv 64 t) A) b := (congrFun hps _).trans ((va_up_ne _ _ (by omega)).trans e2)
  have e4 : ps10 (4) = xmv 64 b := (congrFun hps _).trans ((va_up_ne _ _ (by omega)).trans e4)
  have e5 : ps10 (5) = xmul (xmv 64 b) Bq := (congrFun hps _).trans ((va_up_ne _ _ (by omega)).trans e5)
  have hk7 : ∀ i, i < 2 ∨ 7 ≤ i → ps10 i = ps i := fun i hi => (congrFun hps i).trans ((va_up_ne _ _ (by omega)).trans (hk7 i hi))
  have e3 : ps10 (3) = xmul (xmul (xmv 64 b) Bq) b := by rw [hps, va_up_self]
  refine lv_aload_n hx hb dX4_setToStep_96 rfl (lv_at hl 0 rfl) ?_
  refine xw_get C hw hC.x (ci := 3) rfl iX4_setToStep_X4 6 (by decide) (by decide +kernel) rfl dX4_setToStep_97 ?_
  refine lv_aload_n hx hb dX4_setToStep_100 rfl (lv_at hl 0 rfl) ?_
  refine xw_get C hw hC.x (ci := 3) rfl iX4_setToStep_X4 7 (by decide) (by decide +kernel) rfl dX4_setToStep_101 ?_
  refine lv_aload_n hx hb dX4_setToStep_104 rfl (lv_at hl 1 rfl) ?_
  refine xw_get C hw (hC.fo k hk) (ci := 1) rfl iX4_setToStep_X1 0 (by decide) (by decide +kernel) rfl dX4_setToStep_105 ?_
  refine xw_cv (xw_V (n := 2) (rest := []) C hw (kX3_setProduct l G B _ (pa 4) (ra 4) 64 (ps10 4) (pa 5) (ra 5) 64 (xmul (xmv 64 b) Bq) (pa (21 + 2 * k)) (ra (21 + 2 * k)) (cp (21 + 2 * k)) t (hC.pw 4 (by omega) (by omega) rfl) (hC.pw 5 (by omega) (by omega) e5) (hC.pe (21 + 2 * k) (by omega) et) (hC.pn (by omega) (by omega) (by omega)) (hC.rn (by omega) (by omega) (by omega)) (hC.pn (by omega) (by omega) (by omega)) (hC.rn (by omega) (by omega) (by omega)) (Nat.le_trans (Nat.add_le_add (xlen_sle (xmul_sup smb sB)) (xlen_sle st)) (by decide))) gX4_setToStep_X3_setProduct rfl rfl rfl (by decide +kernel) ⟨Nat.le_of_ble_eq_true rfl, Nat.le_of_ble_eq_true rfl⟩ (hC.p 4 (by omega)).1 rfl rfl hl.1 rfl (Nat.le_of_ble_eq_true rfl) dX4_setToStep_108 ⟨Nat.le_of_ble_eq_true rfl, Nat.le_of_ble_eq_true rfl⟩ hS) hS (fun u H locs hpp hw hS => ?_)
  rw [hpp] at hw
  have hC := hC.set (i := 4) (by omega) (hC.cap (by omega) (by omega)) (f := xmul (xmul (xmv 64 b) Bq) t) (xsup_mono (xmul_sup (xmul_sup smb sB) st) (by decide))
  obtain ⟨ps11, hps⟩ : ∃ zz9, zz9 = va_up ps10 (4) (xmul (xmul (xmv 64 b) Bq) t) := ⟨_, rfl⟩
  rw [← hps] at hC
  have et : ps11 (21 + 2 * k) = t := (congrFun hps _).trans ((va_up_ne _ _ (by omega)).trans et)
  have eb : ps11 (22 + 2 * k) = b := (congrFun hps _).trans ((va_up_ne _ _ (by omega)).trans eb)
  have ea : ps11 (0) = A := (congrFun hps _).trans ((va_up_ne _ _ (by omega)).trans ea)
  have eB : ps11 (1) = Bq := (congrFun hps _).trans ((va_up_ne _ _ (by omega)).trans eB)
  have e2 : ps11 (2) = xmul (xmul (xmv 64 t) A) b := (congrFun hps _).trans ((va_up_ne _ _ (by omega)).trans e2)
  have e5 : ps11 (5) = xmul (xmv 64 b) Bq := (congrFun hps _).trans ((va_up_ne _ _ (by omega)).trans e5)
  have e3 : ps11 (3) = xmul (xmul (xmv 64 b) Bq) b := (congrFun hps _).trans ((va_up_ne _ _ (by omega)).trans e3)
  have hk7 : ∀ i, i < 2 ∨ 7 ≤ i → ps11 i = ps i := fun i hi => (congrFun hps i).trans ((va_up_ne _ _ (by omega)).trans (hk7 i hi))
  have e4 : ps11 (4) = xmul (xmul (xmv 64 b) Bq) t := by rw [hps, va_up_self]
  refine lv_aload_n hx hb dX4_setToStep_111 rfl (lv_at hl 0 rfl) ?_
  refine xw_get C hw hC.x (ci := 3) rfl iX4_setToStep_X4 4 (by decide) (by decide +kernel) rfl dX4_setToStep_112 ?_
  refine lv_aload_n hx hb dX4_setToStep_115 rfl (lv_at hl 0 rfl) ?_
  refine xw_get C hw hC.x (ci := 3) rfl iX4_setToStep_X4 6 (by decide) (by decide +kernel) rfl dX4_setToStep_116 ?_
  refine lv_sipush (v := 32002) hx hb dX4_setToStep_119 (by decide) ?_
  refine xw_ti (y := (nI 32002)) (by decide) ?_
  refine lv_iconst (v := 0) hx hb dX4_setToStep_122 (by decide) ?_
  refine xw_ti (y := (nI 0)) (nI_0.symm) ?_
  refine xw_cv (xw_V (n := 3) (rest := []) C hw (kX3_gather l G B _ (pa 2) (ra 2) 64 (xmul (xmul (xmv 64 t) A) b) (pa 4) (ra 4) 64 (xmul (xmul (xmv 64 b) Bq) t) (hC.pw 2 (by omega) (by omega) e2) (hC.pw 4 (by omega) (by omega) e4) (hC.pn (by omega) (by omega) (by omega)) (hC.rn (by omega) (by omega) (by omega)) 32002 0 (by decide) (Nat.le_trans (xlen_le _ _) (by decide))) gX4_setToStep_X3_gather rfl rfl rfl (by decide +kernel) ⟨Nat.le_of_ble_eq_true rfl, Nat.le_of_ble_eq_true rfl⟩ (hC.p 2 (by omega)).1 rfl rfl hl.1 rfl (Nat.le_of_ble_eq_true rfl) dX4_setToStep_123 ⟨Nat.le_of_ble_eq_true rfl, Nat.le_of_ble_eq_true rfl⟩ hS) hS (fun u H locs hpp hw hS => ?_)
  rw [hpp] at hw
  have hC := hC.set (i := 2) (by omega) (hC.cap (by omega) (by omega)) (f := xgat (xmul (xmul (xmv 64 t) A) b) (xO 32002) (xmul (xmul (xmv 64 b) Bq) t) 0) (xgat_sup (hC.pw 2 (by omega) (by omega) e2).2.2.1 (hC.pw 4 (by omega) (by omega) e4).2.2.1 (by decide))
  obtain ⟨ps12, hps⟩ : ∃ zz9, zz9 = va_up ps11 (2) (xgat (xmul (xmul (xmv 64 t) A) b) (xO 32002) (xmul (xmul (xmv 64 b) Bq) t) 0) := ⟨_, rfl⟩
  rw [← hps] at hC
  have et : ps12 (21 + 2 * k) = t := (congrFun hps _).trans ((va_up_ne _ _ (by omega)).trans et)
  have eb : ps12 (22 + 2 * k) = b := (congrFun hps _).trans ((va_up_ne _ _ (by omega)).trans eb)
  have ea : ps12 (0) = A := (congrFun hps _).trans ((va_up_ne _ _ (by omega)).trans ea)
  have eB : ps12 (1) = Bq := (congrFun hps _).trans ((va_up_ne _ _ (by omega)).trans eB)
  have e5 : ps12 (5) = xmul (xmv 64 b) Bq := (congrFun hps _).trans ((va_up_ne _ _ (by omega)).trans e5)
  have e3 : ps12 (3) = xmul (xmul (xmv 64 b) Bq) b := (congrFun hps _).trans ((va_up_ne _ _ (by omega)).trans e3)
  have e4 : ps12 (4) = xmul (xmul (xmv 64 b) Bq) t := (congrFun hps _).trans ((va_up_ne _ _ (by omega)).trans e4)
  have hk7 : ∀ i, i < 2 ∨ 7 ≤ i → ps12 i = ps i := fun i hi => (congrFun hps i).trans ((va_up_ne _ _ (by omega)).trans (hk7 i hi))
  have e2 : ps12 (2) = xgat (xmul (xmul (xmv 64 t) A) b) (xO 32002) (xmul (xmul (xmv 64 b) Bq) t) 0 := by rw [hps, va_up_self]
  exact xw_vret C hw hS (Nat.le_of_ble_eq_true rfl) (Nat.le_of_ble_eq_true rfl) (⟨ps12, hC, e2, e3, hk7⟩) dX4_setToStep_126

abbrev rmX4_findPlain : Room := { frames := 5, cells := 0, slots := 0, locals := 119 }
theorem iX4_findPlain_X1 : ∀ w ∈ wsX10, w ∈ wsX4_findPlain := by decide +kernel
theorem iX4_findPlain_X4 : ∀ w ∈ wsX40, w ∈ wsX4_findPlain := by decide +kernel
set_option maxHeartbeats 4000000 in
set_option maxRecDepth 100000 in
theorem kX4_findPlain (l : Launch) (G : xG) (B : Nat) (w : xM) (pa ra cp fr ad : Nat → Nat) (md : Nat) (ps : Nat → xP) (eo : Nat → Option Nat) (tb : Nat → Bool) (wr : xM) (hC : xCL G w pa ra cp fr ad md ps eo tb wr) (k kq : Nat) (hk : k < md) (hkq : kq < md) (rt rb Q A Bq : xP) (et : ps (21 + 2 * k) = rt) (eb : ps (22 + 2 * k) = rb) (eq : ps (21 + 2 * kq) = Q) (ea : ps 0 = A) (eB : ps 1 = Bq) (st : xsup rt 21) (sb : xsup rb 21) (sq : xsup Q 21) : Met l yX4_findPlain wsX4_findPlain rmX4_findPlain (va_Pc [.ref (ad 0), .ref (fr k), .ref (fr kq)] (xB G B w)) (va_Qi (fun z u => ∃ q q2 : Nat → xP, (∀ i, i < 9 → q (7 + i) = xcol rb A Bq Q i) ∧ q 16 = xtgt rt Bq Q ∧ (∀ i, i < 7 ∨ 21 ≤ i → q i = ps i) ∧ xCL G u pa ra cp fr ad md q2 (xel 9 (q, eo, xtbi tb 64)).2.1 (xel 9 (q, eo, xtbi tb 64)).2.2 wr ∧ (∀ i, i < 2 ∨ 21 ≤ i → q2 i = ps i) ∧ ((z = 0 ∧ xfu (xel 9 (q, eo, xtbi tb 64)).2.2 ((xel 9 (q, eo, xtbi tb 64)).1 16) ≠ none) ∨ (z = 1 ∧ xfu (xel 9 (q, eo, xtbi tb 64)).2.2 ((xel 9 (q, eo, xtbi tb 64)).1 16) = none ∧ q2 2 = xwsk ((xel 9 (q, eo, xtbi tb 64)).1 16) (xel 9 (q, eo, xtbi tb 64)).2.1 9))) (xE G B) (xA B)) 0 0 (xA B) := by
  refine xw_start (own := RX4) (mn := "findPlain") (cc := cX4_findPlain) (nL := 3) (rt := (some .boolean)) (by decide) rfl rfl rfl (Nat.le_of_ble_eq_true rfl) ?_
  intro p ev s m below meth cd ls C hl hw hS
  obtain ⟨hx, hb, -, -, -, hts, -, -, -, -⟩ := id C
  have hl : lv_has ls 3 [(0, .ref (ad 0)), (1, .ref (fr k)), (2, .ref (fr kq))] := hl
  refine lv_aload_n hx hb dX4_findPlain_0 rfl (lv_at hl 0 rfl) ?_
  refine xw_get C hw hC.x (ci := 3) rfl iX4_findPlain_X4 9 (by decide) (by decide +kernel) rfl dX4_findPlain_1 ?_
  refine lv_aload_n hx hb dX4_findPlain_4 rfl (lv_at hl 1 rfl) ?_
  refine lv_aload_n hx hb dX4_findPlain_5 rfl (lv_at hl 2 rfl) ?_
  refine xw_get C hw (hC.fo kq hkq) (ci := 1) rfl iX4_findPlain_X1 0 (by decide) (by decide +kernel) rfl dX4_findPlain_6 ?_
  refine lv_aload_n hx hb dX4_findPlain_9 rfl (lv_at hl 0 rfl) ?_
  refine xw_get C hw hC.x (ci := 3) rfl iX4_findPlain_X4 0 (by decide) (by decide +kernel) rfl dX4_findPlain_10 ?_
  refine lv_aload_n hx hb dX4_findPlain_13 rfl (lv_at hl 0 rfl) ?_
  refine xw_get C hw hC.x (ci := 3) rfl iX4_findPlain_X4 1 (by decide) (by decide +kernel) rfl dX4_findPlain_14 ?_
  refine xw_cv (xw_V (n := 4) (rest := []) C hw (kX0_set l G B w pa ra cp fr ad md ps eo tb wr hC k kq hk hkq rt rb Q A Bq et eb eq ea eB st sb sq) gX4_findPlain_X0_set rfl rfl rfl (by decide +kernel) ⟨Nat.le_of_ble_eq_true rfl, Nat.le_of_ble_eq_true rfl⟩ hC.q rfl rfl hl.1 rfl (Nat.le_of_ble_eq_true rfl) dX4_findPlain_17 ⟨Nat.le_of_ble_eq_true rfl, Nat.le_of_ble_eq_true rfl⟩ hS) hS (fun u1 H locs hq hw hS => ?_)
  obtain ⟨q, hC, hk7, hco, e16⟩ := hq
  refine lv_aload_n hx hb dX4_findPlain_20 rfl (lv_at hl 0 rfl) ?_
  refine xw_get C hw hC.x (ci := 3) rfl iX4_findPlain_X4 9 (by decide) (by decide +kernel) rfl dX4_findPlain_21 ?_
  refine xw_cv (xw_V (n := 0) (rest := []) C hw (kX0_eliminate l G B _ pa ra cp fr ad md q eo tb wr hC) gX4_findPlain_X0_eliminate rfl rfl rfl (by decide +kernel) ⟨Nat.le_of_ble_eq_true rfl, Nat.le_of_ble_eq_true rfl⟩ hC.q rfl rfl hl.1 rfl (Nat.le_of_ble_eq_true rfl) dX4_findPlain_24 ⟨Nat.le_of_ble_eq_true rfl, Nat.le_of_ble_eq_true rfl⟩ hS) hS (fun u2 H locs hC hw hS => ?_)
  obtain ⟨z, hz⟩ : ∃ z, z = (xel 9 (q, eo, xtbi tb 64)) := ⟨_, rfl⟩
  rw [← hz] at hC
  have hel := xel_ok 9 (q, eo, xtbi tb 64)
  rw [← hz] at hel
  refine lv_aload_n hx hb dX4_findPlain_27 rfl (lv_at hl 0 rfl) ?_
  refine xw_get C hw hC.x (ci := 3) rfl iX4_findPlain_X4 9 (by decide) (by decide +kernel) rfl dX4_findPlain_28 ?_
  refine xw_ci (xw_V (n := 0) (rest := []) C hw (kX0_areSolvable l G B _ pa ra cp fr ad md z.1 z.2.1 z.2.2 wr hC) gX4_findPlain_X0_areSolvable rfl rfl rfl (by decide +kernel) ⟨Nat.le_of_ble_eq_true rfl, Nat.le_of_ble_eq_true rfl⟩ hC.q rfl rfl hl.1 rfl (Nat.le_of_ble_eq_true rfl) dX4_findPlain_31 ⟨Nat.le_of_ble_eq_true rfl, Nat.le_of_ble_eq_true rfl⟩ hS) hS (fun ru3 u3 H locs hs hw hS => ?_)
  obtain ⟨hs, hu⟩ := hs
  rw [hu] at hw
  rcases hs with ⟨hs, hn⟩ | ⟨hs, hn⟩
  · skip
    refine xw_ti (y := 1) (hs) ?_
    refine lv_if_ne (tgt := 39) hx hb dX4_findPlain_34 (by decide) (fun _ => ?_) (fun hc => absurd hc (by decide))
    refine lv_aload_n hx hb dX4_findPlain_39 rfl (lv_at hl 0 rfl) ?_
    refine xw_get C hw hC.x (ci := 3) rfl iX4_findPlain_X4 9 (by decide) (by decide +kernel) rfl dX4_findPlain_40 ?_
    refine lv_aload_n hx hb dX4_findPlain_43 rfl (lv_at hl 0 rfl) ?_
    refine xw_get C hw hC.x (ci := 3) rfl iX4_findPlain_X4 4 (by decide) (by decide +kernel) rfl dX4_findPlain_44 ?_
    refine xw_cv (xw_V (n := 1) (rest := []) C hw (kX0_writeSolution l G B _ pa ra cp fr ad md z.1 z.2.1 z.2.2 wr hC (fun k e h9 he => by have := hel.2 k e h9 he; omega)) gX4_findPlain_X0_writeSolution rfl rfl rfl (by decide +kernel) ⟨Nat.le_of_ble_eq_true rfl, Nat.le_of_ble_eq_true rfl⟩ hC.q rfl rfl hl.1 rfl (Nat.le_of_ble_eq_true rfl) dX4_findPlain_47 ⟨Nat.le_of_ble_eq_true rfl, Nat.le_of_ble_eq_true rfl⟩ hS) hS (fun u4 H locs hC4 hw hS => ?_)
    refine lv_iconst (v := 1) hx hb dX4_findPlain_50 (by decide) ?_
    exact xw_zret C hw hS (Nat.le_of_ble_eq_true rfl) (Nat.le_of_ble_eq_true rfl) (Or.inr rfl) (⟨q, _, hco, e16, hk7, by rw [← hz]; exact hC4, fun i hi => by rw [va_up_ne _ _ (by omega), hel.1 i (by omega)]; exact hk7 i (by omega), Or.inr ⟨rfl, by rw [← hz]; exact hn, by rw [← hz, va_up_self]⟩⟩) dX4_findPlain_51
  · skip
    refine xw_ti (y := 0) (hs) ?_
    refine lv_if_ne (tgt := 39) hx hb dX4_findPlain_34 (by decide) (fun hc => absurd (by decide) hc) (fun _ => ?_)
    refine lv_iconst (v := 0) hx hb dX4_findPlain_37 (by decide) ?_
    exact xw_zret C hw hS (Nat.le_of_ble_eq_true rfl) (Nat.le_of_ble_eq_true rfl) (Or.inl rfl) (⟨q, z.1, hco, e16, hk7, by rw [← hz]; exact hC, fun i hi => by rw [hel.1 i (by omega)]; exact hk7 i (by omega), Or.inl ⟨rfl, by rw [← hz]; exact hn⟩⟩) dX4_findPlain_38
