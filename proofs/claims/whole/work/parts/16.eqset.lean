/-! ===== Equations.set (laid by wip/whole/m_eqset.py) ===== -/
abbrev rmX0_set : Room := { frames := 3, cells := 0, slots := 0, locals := 71 }
theorem iX0_set_X0 : ∀ w ∈ wsX00, w ∈ wsX0_set := by decide +kernel
theorem iX0_set_X1 : ∀ w ∈ wsX10, w ∈ wsX0_set := by decide +kernel
set_option maxHeartbeats 4000000 in
set_option maxRecDepth 100000 in
theorem kX0_set (l : Launch) (G : xG) (B : Nat) (w : xM) (pa ra cp fr ad : Nat → Nat) (md : Nat) (ps : Nat → xP) (eo : Nat → Option Nat) (tb : Nat → Bool) (wr : xM) (hC : xCL G w pa ra cp fr ad md ps eo tb wr) (k kq : Nat) (hk : k < md) (hkq : kq < md) (rt rb Q A Bq : xP) (et : ps (21 + 2 * k) = rt) (eb : ps (22 + 2 * k) = rb) (eq : ps (21 + 2 * kq) = Q) (ea : ps 0 = A) (eB : ps 1 = Bq) (st : xsup rt 21) (sb : xsup rb 21) (sq : xsup Q 21) : Met l yX0_set wsX0_set rmX0_set (va_Pc [.ref (ad 2), .ref (fr k), .ref (pa (21 + 2 * kq)), .ref (pa 0), .ref (pa 1)] (xB G B w)) (va_Qv (fun u => ∃ ps2, xCL G u pa ra cp fr ad md ps2 eo tb wr ∧ (∀ i, i < 7 ∨ 21 ≤ i → ps2 i = ps i) ∧ (∀ i, i < 9 → ps2 (7 + i) = xcol rb A Bq Q i) ∧ ps2 16 = xtgt rt Bq Q) (xE G B) (xA B)) 0 0 (xA B) := by
  refine xw_start (own := RX0) (mn := "set") (cc := cX0_set) (nL := 6) (rt := none) (by decide) rfl rfl rfl (Nat.le_of_ble_eq_true rfl) ?_
  intro p ev s m below meth cd ls C hl hw hS
  obtain ⟨hx, hb, -, -, -, hts, -, -, -, -⟩ := id C
  have hl : lv_has ls 6 [(0, .ref (ad 2)), (1, .ref (fr k)), (2, .ref (pa (21 + 2 * kq))), (3, .ref (pa 0)), (4, .ref (pa 1))] := hl
  have h50 := hC.m50
  have sA : xsup A 4 := by have q := (hC.pe 0 (by omega) ea).2.2.1; rw [hC.2.2.2.1.1] at q; exact q
  have sB : xsup Bq 4 := by have q := (hC.pe 1 (by omega) eB).2.2.1; rw [hC.2.2.2.1.2.1] at q; exact q
  have sm : xsup (xmv 64 Q) 21 := xmv_sup (xsup_mono sq (by decide)) sq
  have hk7 : ∀ i, i < 7 ∨ 21 ≤ i → ps i = ps i := fun _ _ => rfl
  refine lv_aload_n hx hb dX0_set_0 rfl (lv_at hl 0 rfl) ?_
  refine xw_get C hw hC.q (ci := 0) rfl iX0_set_X0 4 (by decide) (by decide +kernel) rfl dX0_set_1 ?_
  refine lv_aload_n hx hb dX0_set_4 rfl (lv_at hl 2 rfl) ?_
  refine xw_cv (xw_V (n := 1) (rest := []) C hw (kX3_copy l G B _ (pa 19) (ra 19) 64 (ps 19) (pa (21 + 2 * kq)) (ra (21 + 2 * kq)) (cp (21 + 2 * kq)) Q (hC.pw 19 (by omega) (by omega) rfl) (hC.pe (21 + 2 * kq) (by omega) eq) (hC.pn (by omega) (by omega) (by omega)) (hC.rn (by omega) (by omega) (by omega)) (Nat.le_trans (xlen_sle sq) (by decide))) gX0_set_X3_copy rfl rfl rfl (by decide +kernel) ⟨Nat.le_of_ble_eq_true rfl, Nat.le_of_ble_eq_true rfl⟩ (hC.p 19 (by omega)).1 rfl rfl hl.1 rfl (Nat.le_of_ble_eq_true rfl) dX0_set_5 ⟨Nat.le_of_ble_eq_true rfl, Nat.le_of_ble_eq_true rfl⟩ hS) hS (fun u H locs hpp hw hS => ?_)
  rw [hpp] at hw
  have hC := hC.set (i := 19) (by omega) (hC.cap (by omega) (by omega)) (f := Q) (xsup_mono sq (by decide))
  obtain ⟨ps3, hps⟩ : ∃ zz9, zz9 = va_up ps (19) (Q) := ⟨_, rfl⟩
  rw [← hps] at hC
  have et : ps3 (21 + 2 * k) = rt := (congrFun hps _).trans ((va_up_ne _ _ (by omega)).trans et)
  have eb : ps3 (22 + 2 * k) = rb := (congrFun hps _).trans ((va_up_ne _ _ (by omega)).trans eb)
  have eq : ps3 (21 + 2 * kq) = Q := (congrFun hps _).trans ((va_up_ne _ _ (by omega)).trans eq)
  have ea : ps3 (0) = A := (congrFun hps _).trans ((va_up_ne _ _ (by omega)).trans ea)
  have eB : ps3 (1) = Bq := (congrFun hps _).trans ((va_up_ne _ _ (by omega)).trans eB)
  have hk7 : ∀ i, i < 7 ∨ 21 ≤ i → ps3 i = ps i := fun i hi => (congrFun hps i).trans ((va_up_ne _ _ (by omega)).trans (hk7 i hi))
  have e19 : ps3 (19) = Q := by rw [hps, va_up_self]
  refine lv_aload_n hx hb dX0_set_8 rfl (lv_at hl 0 rfl) ?_
  refine xw_get C hw hC.q (ci := 0) rfl iX0_set_X0 4 (by decide) (by decide +kernel) rfl dX0_set_9 ?_
  refine xw_cv (xw_V (n := 0) (rest := []) C hw (kX3_moveByOne l G B _ (pa 19) (ra 19) 64 Q (hC.pw 19 (by omega) (by omega) e19)) gX0_set_X3_moveByOne rfl rfl rfl (by decide +kernel) ⟨Nat.le_of_ble_eq_true rfl, Nat.le_of_ble_eq_true rfl⟩ (hC.p 19 (by omega)).1 rfl rfl hl.1 rfl (Nat.le_of_ble_eq_true rfl) dX0_set_12 ⟨Nat.le_of_ble_eq_true rfl, Nat.le_of_ble_eq_true rfl⟩ hS) hS (fun u H locs hpp hw hS => ?_)
  rw [hpp] at hw
  have hC := hC.set (i := 19) (by omega) (hC.cap (by omega) (by omega)) (f := xmv 64 Q) (xsup_mono sm (by decide))
  obtain ⟨ps4, hps⟩ : ∃ zz9, zz9 = va_up ps3 (19) (xmv 64 Q) := ⟨_, rfl⟩
  rw [← hps] at hC
  have et : ps4 (21 + 2 * k) = rt := (congrFun hps _).trans ((va_up_ne _ _ (by omega)).trans et)
  have eb : ps4 (22 + 2 * k) = rb := (congrFun hps _).trans ((va_up_ne _ _ (by omega)).trans eb)
  have eq : ps4 (21 + 2 * kq) = Q := (congrFun hps _).trans ((va_up_ne _ _ (by omega)).trans eq)
  have ea : ps4 (0) = A := (congrFun hps _).trans ((va_up_ne _ _ (by omega)).trans ea)
  have eB : ps4 (1) = Bq := (congrFun hps _).trans ((va_up_ne _ _ (by omega)).trans eB)
  have hk7 : ∀ i, i < 7 ∨ 21 ≤ i → ps4 i = ps i := fun i hi => (congrFun hps i).trans ((va_up_ne _ _ (by omega)).trans (hk7 i hi))
  have e19 : ps4 (19) = xmv 64 Q := by rw [hps, va_up_self]
  refine lv_aload_n hx hb dX0_set_15 rfl (lv_at hl 0 rfl) ?_
  refine xw_get C hw hC.q (ci := 0) rfl iX0_set_X0 5 (by decide) (by decide +kernel) rfl dX0_set_16 ?_
  refine lv_aload_n hx hb dX0_set_19 rfl (lv_at hl 1 rfl) ?_
  refine xw_get C hw (hC.fo k hk) (ci := 1) rfl iX0_set_X1 0 (by decide) (by decide +kernel) rfl dX0_set_20 ?_
  refine lv_aload hx hb dX0_set_23 (lv_at hl 4 rfl) ?_
  refine xw_cv (xw_V (n := 2) (rest := []) C hw (kX3_setProduct l G B _ (pa 20) (ra 20) 64 (ps4 20) (pa (21 + 2 * k)) (ra (21 + 2 * k)) (cp (21 + 2 * k)) rt (pa 1) (ra 1) (cp 1) Bq (hC.pw 20 (by omega) (by omega) rfl) (hC.pe (21 + 2 * k) (by omega) et) (hC.pe 1 (by omega) eB) (hC.pn (by omega) (by omega) (by omega)) (hC.rn (by omega) (by omega) (by omega)) (hC.pn (by omega) (by omega) (by omega)) (hC.rn (by omega) (by omega) (by omega)) (Nat.le_trans (Nat.add_le_add (xlen_sle st) (xlen_sle sB)) (by decide))) gX0_set_X3_setProduct rfl rfl rfl (by decide +kernel) ⟨Nat.le_of_ble_eq_true rfl, Nat.le_of_ble_eq_true rfl⟩ (hC.p 20 (by omega)).1 rfl rfl hl.1 rfl (Nat.le_of_ble_eq_true rfl) dX0_set_25 ⟨Nat.le_of_ble_eq_true rfl, Nat.le_of_ble_eq_true rfl⟩ hS) hS (fun u H locs hpp hw hS => ?_)
  rw [hpp] at hw
  have hC := hC.set (i := 20) (by omega) (hC.cap (by omega) (by omega)) (f := xmul rt Bq) (xsup_mono (xmul_sup st sB) (by decide))
  obtain ⟨ps5, hps⟩ : ∃ zz9, zz9 = va_up ps4 (20) (xmul rt Bq) := ⟨_, rfl⟩
  rw [← hps] at hC
  have et : ps5 (21 + 2 * k) = rt := (congrFun hps _).trans ((va_up_ne _ _ (by omega)).trans et)
  have eb : ps5 (22 + 2 * k) = rb := (congrFun hps _).trans ((va_up_ne _ _ (by omega)).trans eb)
  have eq : ps5 (21 + 2 * kq) = Q := (congrFun hps _).trans ((va_up_ne _ _ (by omega)).trans eq)
  have ea : ps5 (0) = A := (congrFun hps _).trans ((va_up_ne _ _ (by omega)).trans ea)
  have eB : ps5 (1) = Bq := (congrFun hps _).trans ((va_up_ne _ _ (by omega)).trans eB)
  have e19 : ps5 (19) = xmv 64 Q := (congrFun hps _).trans ((va_up_ne _ _ (by omega)).trans e19)
  have hk7 : ∀ i, i < 7 ∨ 21 ≤ i → ps5 i = ps i := fun i hi => (congrFun hps i).trans ((va_up_ne _ _ (by omega)).trans (hk7 i hi))
  have e20 : ps5 (20) = xmul rt Bq := by rw [hps, va_up_self]
  refine lv_aload_n hx hb dX0_set_28 rfl (lv_at hl 0 rfl) ?_
  refine xw_get C hw hC.q (ci := 0) rfl iX0_set_X0 2 (by decide) (by decide +kernel) rfl dX0_set_29 ?_
  refine lv_aload_n hx hb dX0_set_32 rfl (lv_at hl 0 rfl) ?_
  refine xw_get C hw hC.q (ci := 0) rfl iX0_set_X0 5 (by decide) (by decide +kernel) rfl dX0_set_33 ?_
  refine lv_aload_n hx hb dX0_set_36 rfl (lv_at hl 2 rfl) ?_
  refine xw_cv (xw_V (n := 2) (rest := []) C hw (kX3_setProduct l G B _ (pa 17) (ra 17) 64 (ps5 17) (pa 20) (ra 20) 64 (xmul rt Bq) (pa (21 + 2 * kq)) (ra (21 + 2 * kq)) (cp (21 + 2 * kq)) Q (hC.pw 17 (by omega) (by omega) rfl) (hC.pw 20 (by omega) (by omega) e20) (hC.pe (21 + 2 * kq) (by omega) eq) (hC.pn (by omega) (by omega) (by omega)) (hC.rn (by omega) (by omega) (by omega)) (hC.pn (by omega) (by omega) (by omega)) (hC.rn (by omega) (by omega) (by omega)) (Nat.le_trans (Nat.add_le_add (xlen_sle (xmul_sup st sB)) (xlen_sle sq)) (by decide))) gX0_set_X3_setProduct rfl rfl rfl (by decide +kernel) ⟨Nat.le_of_ble_eq_true rfl, Nat.le_of_ble_eq_true rfl⟩ (hC.p 17 (by omega)).1 rfl rfl hl.1 rfl (Nat.le_of_ble_eq_true rfl) dX0_set_37 ⟨Nat.le_of_ble_eq_true rfl, Nat.le_of_ble_eq_true rfl⟩ hS) hS (fun u H locs hpp hw hS => ?_)
  rw [hpp] at hw
  have hC := hC.set (i := 17) (by omega) (hC.cap (by omega) (by omega)) (f := xmul (xmul rt Bq) Q) (xsup_mono (xmul_sup (xmul_sup st sB) sq) (by decide))
  obtain ⟨ps6, hps⟩ : ∃ zz9, zz9 = va_up ps5 (17) (xmul (xmul rt Bq) Q) := ⟨_, rfl⟩
  rw [← hps] at hC
  have et : ps6 (21 + 2 * k) = rt := (congrFun hps _).trans ((va_up_ne _ _ (by omega)).trans et)
  have eb : ps6 (22 + 2 * k) = rb := (congrFun hps _).trans ((va_up_ne _ _ (by omega)).trans eb)
  have eq : ps6 (21 + 2 * kq) = Q := (congrFun hps _).trans ((va_up_ne _ _ (by omega)).trans eq)
  have ea : ps6 (0) = A := (congrFun hps _).trans ((va_up_ne _ _ (by omega)).trans ea)
  have eB : ps6 (1) = Bq := (congrFun hps _).trans ((va_up_ne _ _ (by omega)).trans eB)
  have e19 : ps6 (19) = xmv 64 Q := (congrFun hps _).trans ((va_up_ne _ _ (by omega)).trans e19)
  have e20 : ps6 (20) = xmul rt Bq := (congrFun hps _).trans ((va_up_ne _ _ (by omega)).trans e20)
  have hk7 : ∀ i, i < 7 ∨ 21 ≤ i → ps6 i = ps i := fun i hi => (congrFun hps i).trans ((va_up_ne _ _ (by omega)).trans (hk7 i hi))
  have e17 : ps6 (17) = xmul (xmul rt Bq) Q := by rw [hps, va_up_self]
  refine lv_aload_n hx hb dX0_set_40 rfl (lv_at hl 0 rfl) ?_
  refine xw_get C hw hC.q (ci := 0) rfl iX0_set_X0 1 (by decide) (by decide +kernel) rfl dX0_set_41 ?_
  refine lv_aload_n hx hb dX0_set_44 rfl (lv_at hl 0 rfl) ?_
  refine xw_get C hw hC.q (ci := 0) rfl iX0_set_X0 2 (by decide) (by decide +kernel) rfl dX0_set_45 ?_
  refine lv_aload_n hx hb dX0_set_48 rfl (lv_at hl 0 rfl) ?_
  refine xw_get C hw hC.q (ci := 0) rfl iX0_set_X0 4 (by decide) (by decide +kernel) rfl dX0_set_49 ?_
  refine xw_cv (xw_V (n := 2) (rest := []) C hw (kX3_setProduct l G B _ (pa 16) (ra 16) 64 (ps6 16) (pa 17) (ra 17) 64 (xmul (xmul rt Bq) Q) (pa 19) (ra 19) 64 (xmv 64 Q) (hC.pw 16 (by omega) (by omega) rfl) (hC.pw 17 (by omega) (by omega) e17) (hC.pw 19 (by omega) (by omega) e19) (hC.pn (by omega) (by omega) (by omega)) (hC.rn (by omega) (by omega) (by omega)) (hC.pn (by omega) (by omega) (by omega)) (hC.rn (by omega) (by omega) (by omega)) (Nat.le_trans (Nat.add_le_add (xlen_sle (xmul_sup (xmul_sup st sB) sq)) (xlen_sle sm)) (by decide))) gX0_set_X3_setProduct rfl rfl rfl (by decide +kernel) ⟨Nat.le_of_ble_eq_true rfl, Nat.le_of_ble_eq_true rfl⟩ (hC.p 16 (by omega)).1 rfl rfl hl.1 rfl (Nat.le_of_ble_eq_true rfl) dX0_set_52 ⟨Nat.le_of_ble_eq_true rfl, Nat.le_of_ble_eq_true rfl⟩ hS) hS (fun u H locs hpp hw hS => ?_)
  rw [hpp] at hw
  have hC := hC.set (i := 16) (by omega) (hC.cap (by omega) (by omega)) (f := xmul (xmul (xmul rt Bq) Q) (xmv 64 Q)) (xtgt_sup st sB sq)
  obtain ⟨ps7, hps⟩ : ∃ zz9, zz9 = va_up ps6 (16) (xmul (xmul (xmul rt Bq) Q) (xmv 64 Q)) := ⟨_, rfl⟩
  rw [← hps] at hC
  have et : ps7 (21 + 2 * k) = rt := (congrFun hps _).trans ((va_up_ne _ _ (by omega)).trans et)
  have eb : ps7 (22 + 2 * k) = rb := (congrFun hps _).trans ((va_up_ne _ _ (by omega)).trans eb)
  have eq : ps7 (21 + 2 * kq) = Q := (congrFun hps _).trans ((va_up_ne _ _ (by omega)).trans eq)
  have ea : ps7 (0) = A := (congrFun hps _).trans ((va_up_ne _ _ (by omega)).trans ea)
  have eB : ps7 (1) = Bq := (congrFun hps _).trans ((va_up_ne _ _ (by omega)).trans eB)
  have e19 : ps7 (19) = xmv 64 Q := (congrFun hps _).trans ((va_up_ne _ _ (by omega)).trans e19)
  have e20 : ps7 (20) = xmul rt Bq := (congrFun hps _).trans ((va_up_ne _ _ (by omega)).trans e20)
  have e17 : ps7 (17) = xmul (xmul rt Bq) Q := (congrFun hps _).trans ((va_up_ne _ _ (by omega)).trans e17)
  have hk7 : ∀ i, i < 7 ∨ 21 ≤ i → ps7 i = ps i := fun i hi => (congrFun hps i).trans ((va_up_ne _ _ (by omega)).trans (hk7 i hi))
  have e16 : ps7 (16) = xmul (xmul (xmul rt Bq) Q) (xmv 64 Q) := by rw [hps, va_up_self]
  refine lv_aload_n hx hb dX0_set_55 rfl (lv_at hl 0 rfl) ?_
  refine xw_get C hw hC.q (ci := 0) rfl iX0_set_X0 5 (by decide) (by decide +kernel) rfl dX0_set_56 ?_
  refine lv_aload_n hx hb dX0_set_59 rfl (lv_at hl 1 rfl) ?_
  refine xw_get C hw (hC.fo k hk) (ci := 1) rfl iX0_set_X1 1 (by decide) (by decide +kernel) rfl dX0_set_60 ?_
  refine lv_aload_n hx hb dX0_set_63 rfl (lv_at hl 3 rfl) ?_
  refine xw_cv (xw_V (n := 2) (rest := []) C hw (kX3_setProduct l G B _ (pa 20) (ra 20) 64 (ps7 20) (pa (22 + 2 * k)) (ra (22 + 2 * k)) (cp (22 + 2 * k)) rb (pa 0) (ra 0) (cp 0) A (hC.pw 20 (by omega) (by omega) rfl) (hC.pe (22 + 2 * k) (by omega) eb) (hC.pe 0 (by omega) ea) (hC.pn (by omega) (by omega) (by omega)) (hC.rn (by omega) (by omega) (by omega)) (hC.pn (by omega) (by omega) (by omega)) (hC.rn (by omega) (by omega) (by omega)) (Nat.le_trans (Nat.add_le_add (xlen_sle sb) (xlen_sle sA)) (by decide))) gX0_set_X3_setProduct rfl rfl rfl (by decide +kernel) ⟨Nat.le_of_ble_eq_true rfl, Nat.le_of_ble_eq_true rfl⟩ (hC.p 20 (by omega)).1 rfl rfl hl.1 rfl (Nat.le_of_ble_eq_true rfl) dX0_set_64 ⟨Nat.le_of_ble_eq_true rfl, Nat.le_of_ble_eq_true rfl⟩ hS) hS (fun u H locs hpp hw hS => ?_)
  rw [hpp] at hw
  have hC := hC.set (i := 20) (by omega) (hC.cap (by omega) (by omega)) (f := xmul rb A) (xsup_mono (xmul_sup sb sA) (by decide))
  obtain ⟨ps8, hps⟩ : ∃ zz9, zz9 = va_up ps7 (20) (xmul rb A) := ⟨_, rfl⟩
  rw [← hps] at hC
  have et : ps8 (21 + 2 * k) = rt := (congrFun hps _).trans ((va_up_ne _ _ (by omega)).trans et)
  have eb : ps8 (22 + 2 * k) = rb := (congrFun hps _).trans ((va_up_ne _ _ (by omega)).trans eb)
  have eq : ps8 (21 + 2 * kq) = Q := (congrFun hps _).trans ((va_up_ne _ _ (by omega)).trans eq)
  have ea : ps8 (0) = A := (congrFun hps _).trans ((va_up_ne _ _ (by omega)).trans ea)
  have eB : ps8 (1) = Bq := (congrFun hps _).trans ((va_up_ne _ _ (by omega)).trans eB)
  have e19 : ps8 (19) = xmv 64 Q := (congrFun hps _).trans ((va_up_ne _ _ (by omega)).trans e19)
  have e16 : ps8 (16) = xmul (xmul (xmul rt Bq) Q) (xmv 64 Q) := (congrFun hps _).trans ((va_up_ne _ _ (by omega)).trans e16)
  have hk7 : ∀ i, i < 7 ∨ 21 ≤ i → ps8 i = ps i := fun i hi => (congrFun hps i).trans ((va_up_ne _ _ (by omega)).trans (hk7 i hi))
  have e20 : ps8 (20) = xmul rb A := by rw [hps, va_up_self]
  refine lv_aload_n hx hb dX0_set_67 rfl (lv_at hl 0 rfl) ?_
  refine xw_get C hw hC.q (ci := 0) rfl iX0_set_X0 2 (by decide) (by decide +kernel) rfl dX0_set_68 ?_
  refine lv_aload_n hx hb dX0_set_71 rfl (lv_at hl 0 rfl) ?_
  refine xw_get C hw hC.q (ci := 0) rfl iX0_set_X0 5 (by decide) (by decide +kernel) rfl dX0_set_72 ?_
  refine lv_aload_n hx hb dX0_set_75 rfl (lv_at hl 2 rfl) ?_
  refine xw_cv (xw_V (n := 2) (rest := []) C hw (kX3_setProduct l G B _ (pa 17) (ra 17) 64 (ps8 17) (pa 20) (ra 20) 64 (xmul rb A) (pa (21 + 2 * kq)) (ra (21 + 2 * kq)) (cp (21 + 2 * kq)) Q (hC.pw 17 (by omega) (by omega) rfl) (hC.pw 20 (by omega) (by omega) e20) (hC.pe (21 + 2 * kq) (by omega) eq) (hC.pn (by omega) (by omega) (by omega)) (hC.rn (by omega) (by omega) (by omega)) (hC.pn (by omega) (by omega) (by omega)) (hC.rn (by omega) (by omega) (by omega)) (Nat.le_trans (Nat.add_le_add (xlen_sle (xmul_sup sb sA)) (xlen_sle sq)) (by decide))) gX0_set_X3_setProduct rfl rfl rfl (by decide +kernel) ⟨Nat.le_of_ble_eq_true rfl, Nat.le_of_ble_eq_true rfl⟩ (hC.p 17 (by omega)).1 rfl rfl hl.1 rfl (Nat.le_of_ble_eq_true rfl) dX0_set_76 ⟨Nat.le_of_ble_eq_true rfl, Nat.le_of_ble_eq_true rfl⟩ hS) hS (fun u H locs hpp hw hS => ?_)
  rw [hpp] at hw
  have hC := hC.set (i := 17) (by omega) (hC.cap (by omega) (by omega)) (f := xmul (xmul rb A) Q) (xsup_mono (xgr0_sup sb sA sq) (by decide))
  obtain ⟨ps9, hps⟩ : ∃ zz9, zz9 = va_up ps8 (17) (xmul (xmul rb A) Q) := ⟨_, rfl⟩
  rw [← hps] at hC
  have et : ps9 (21 + 2 * k) = rt := (congrFun hps _).trans ((va_up_ne _ _ (by omega)).trans et)
  have eb : ps9 (22 + 2 * k) = rb := (congrFun hps _).trans ((va_up_ne _ _ (by omega)).trans eb)
  have eq : ps9 (21 + 2 * kq) = Q := (congrFun hps _).trans ((va_up_ne _ _ (by omega)).trans eq)
  have ea : ps9 (0) = A := (congrFun hps _).trans ((va_up_ne _ _ (by omega)).trans ea)
  have eB : ps9 (1) = Bq := (congrFun hps _).trans ((va_up_ne _ _ (by omega)).trans eB)
  have e19 : ps9 (19) = xmv 64 Q := (congrFun hps _).trans ((va_up_ne _ _ (by omega)).trans e19)
  have e16 : ps9 (16) = xmul (xmul (xmul rt Bq) Q) (xmv 64 Q) := (congrFun hps _).trans ((va_up_ne _ _ (by omega)).trans e16)
  have e20 : ps9 (20) = xmul rb A := (congrFun hps _).trans ((va_up_ne _ _ (by omega)).trans e20)
  have hk7 : ∀ i, i < 7 ∨ 21 ≤ i → ps9 i = ps i := fun i hi => (congrFun hps i).trans ((va_up_ne _ _ (by omega)).trans (hk7 i hi))
  have e17 : ps9 (17) = xmul (xmul rb A) Q := by rw [hps, va_up_self]
  refine lv_aload_n hx hb dX0_set_79 rfl (lv_at hl 0 rfl) ?_
  refine xw_get C hw hC.q (ci := 0) rfl iX0_set_X0 5 (by decide) (by decide +kernel) rfl dX0_set_80 ?_
  refine lv_aload_n hx hb dX0_set_83 rfl (lv_at hl 1 rfl) ?_
  refine xw_get C hw (hC.fo k hk) (ci := 1) rfl iX0_set_X1 1 (by decide) (by decide +kernel) rfl dX0_set_84 ?_
  refine lv_aload hx hb dX0_set_87 (lv_at hl 4 rfl) ?_
  refine xw_cv (xw_V (n := 2) (rest := []) C hw (kX3_setProduct l G B _ (pa 20) (ra 20) 64 (ps9 20) (pa (22 + 2 * k)) (ra (22 + 2 * k)) (cp (22 + 2 * k)) rb (pa 1) (ra 1) (cp 1) Bq (hC.pw 20 (by omega) (by omega) rfl) (hC.pe (22 + 2 * k) (by omega) eb) (hC.pe 1 (by omega) eB) (hC.pn (by omega) (by omega) (by omega)) (hC.rn (by omega) (by omega) (by omega)) (hC.pn (by omega) (by omega) (by omega)) (hC.rn (by omega) (by omega) (by omega)) (Nat.le_trans (Nat.add_le_add (xlen_sle sb) (xlen_sle sB)) (by decide))) gX0_set_X3_setProduct rfl rfl rfl (by decide +kernel) ⟨Nat.le_of_ble_eq_true rfl, Nat.le_of_ble_eq_true rfl⟩ (hC.p 20 (by omega)).1 rfl rfl hl.1 rfl (Nat.le_of_ble_eq_true rfl) dX0_set_89 ⟨Nat.le_of_ble_eq_true rfl, Nat.le_of_ble_eq_true rfl⟩ hS) hS (fun u H locs hpp hw hS => ?_)
  rw [hpp] at hw
  have hC := hC.set (i := 20) (by omega) (hC.cap (by omega) (by omega)) (f := xmul rb Bq) (xsup_mono (xmul_sup sb sB) (by decide))
  obtain ⟨ps10, hps⟩ : ∃ zz9, zz9 = va_up ps9 (20) (xmul rb Bq) := ⟨_, rfl⟩
  rw [← hps] at hC
  have et : ps10 (21 + 2 * k) = rt := (congrFun hps _).trans ((va_up_ne _ _ (by omega)).trans et)
  have eb : ps10 (22 + 2 * k) = rb := (congrFun hps _).trans ((va_up_ne _ _ (by omega)).trans eb)
  have eq : ps10 (21 + 2 * kq) = Q := (congrFun hps _).trans ((va_up_ne _ _ (by omega)).trans eq)
  have ea : ps10 (0) = A := (congrFun hps _).trans ((va_up_ne _ _ (by omega)).trans ea)
  have eB : ps10 (1) = Bq := (congrFun hps _).trans ((va_up_ne _ _ (by omega)).trans eB)
  have e19 : ps10 (19) = xmv 64 Q := (congrFun hps _).trans ((va_up_ne _ _ (by omega)).trans e19)
  have e16 : ps10 (16) = xmul (xmul (xmul rt Bq) Q) (xmv 64 Q) := (congrFun hps _).trans ((va_up_ne _ _ (by omega)).trans e16)
  have e17 : ps10 (17) = xmul (xmul rb A) Q := (congrFun hps _).trans ((va_up_ne _ _ (by omega)).trans e17)
  have hk7 : ∀ i, i < 7 ∨ 21 ≤ i → ps10 i = ps i := fun i hi => (congrFun hps i).trans ((va_up_ne _ _ (by omega)).trans (hk7 i hi))
  have e20 : ps10 (20) = xmul rb Bq := by rw [hps, va_up_self]
  refine lv_aload_n hx hb dX0_set_92 rfl (lv_at hl 0 rfl) ?_
  refine xw_get C hw hC.q (ci := 0) rfl iX0_set_X0 3 (by decide) (by decide +kernel) rfl dX0_set_93 ?_
  refine lv_aload_n hx hb dX0_set_96 rfl (lv_at hl 0 rfl) ?_
  refine xw_get C hw hC.q (ci := 0) rfl iX0_set_X0 5 (by decide) (by decide +kernel) rfl dX0_set_97 ?_
  refine lv_aload_n hx hb dX0_set_100 rfl (lv_at hl 0 rfl) ?_
  refine xw_get C hw hC.q (ci := 0) rfl iX0_set_X0 4 (by decide) (by decide +kernel) rfl dX0_set_101 ?_
  refine xw_cv (xw_V (n := 2) (rest := []) C hw (kX3_setProduct l G B _ (pa 18) (ra 18) 64 (ps10 18) (pa 20) (ra 20) 64 (xmul rb Bq) (pa 19) (ra 19) 64 (xmv 64 Q) (hC.pw 18 (by omega) (by omega) rfl) (hC.pw 20 (by omega) (by omega) e20) (hC.pw 19 (by omega) (by omega) e19) (hC.pn (by omega) (by omega) (by omega)) (hC.rn (by omega) (by omega) (by omega)) (hC.pn (by omega) (by omega) (by omega)) (hC.rn (by omega) (by omega) (by omega)) (Nat.le_trans (Nat.add_le_add (xlen_sle (xmul_sup sb sB)) (xlen_sle sm)) (by decide))) gX0_set_X3_setProduct rfl rfl rfl (by decide +kernel) ⟨Nat.le_of_ble_eq_true rfl, Nat.le_of_ble_eq_true rfl⟩ (hC.p 18 (by omega)).1 rfl rfl hl.1 rfl (Nat.le_of_ble_eq_true rfl) dX0_set_104 ⟨Nat.le_of_ble_eq_true rfl, Nat.le_of_ble_eq_true rfl⟩ hS) hS (fun u H locs hpp hw hS => ?_)
  rw [hpp] at hw
  have hC := hC.set (i := 18) (by omega) (hC.cap (by omega) (by omega)) (f := xmul (xmul rb Bq) (xmv 64 Q)) (xsup_mono (xgr0_sup sb sB sm) (by decide))
  obtain ⟨ps11, hps⟩ : ∃ zz9, zz9 = va_up ps10 (18) (xmul (xmul rb Bq) (xmv 64 Q)) := ⟨_, rfl⟩
  rw [← hps] at hC
  have et : ps11 (21 + 2 * k) = rt := (congrFun hps _).trans ((va_up_ne _ _ (by omega)).trans et)
  have eb : ps11 (22 + 2 * k) = rb := (congrFun hps _).trans ((va_up_ne _ _ (by omega)).trans eb)
  have eq : ps11 (21 + 2 * kq) = Q := (congrFun hps _).trans ((va_up_ne _ _ (by omega)).trans eq)
  have ea : ps11 (0) = A := (congrFun hps _).trans ((va_up_ne _ _ (by omega)).trans ea)
  have eB : ps11 (1) = Bq := (congrFun hps _).trans ((va_up_ne _ _ (by omega)).trans eB)
  have e19 : ps11 (19) = xmv 64 Q := (congrFun hps _).trans ((va_up_ne _ _ (by omega)).trans e19)
  have e16 : ps11 (16) = xmul (xmul (xmul rt Bq) Q) (xmv 64 Q) := (congrFun hps _).trans ((va_up_ne _ _ (by omega)).trans e16)
  have e17 : ps11 (17) = xmul (xmul rb A) Q := (congrFun hps _).trans ((va_up_ne _ _ (by omega)).trans e17)
  have e20 : ps11 (20) = xmul rb Bq := (congrFun hps _).trans ((va_up_ne _ _ (by omega)).trans e20)
  have hk7 : ∀ i, i < 7 ∨ 21 ≤ i → ps11 i = ps i := fun i hi => (congrFun hps i).trans ((va_up_ne _ _ (by omega)).trans (hk7 i hi))
  have e18 : ps11 (18) = xmul (xmul rb Bq) (xmv 64 Q) := by rw [hps, va_up_self]
  refine lv_iconst (v := 0) hx hb dX0_set_107 (by decide) ?_
  refine xw_ti (y := (nI 0)) (nI_0.symm) ?_
  refine lv_istore (lv' := [(5, .int (nI 0)), (0, .ref (ad 2)), (1, .ref (fr k)), (2, .ref (pa (21 + 2 * kq))), (3, .ref (pa 0)), (4, .ref (pa 1))]) hx hb dX0_set_108 hl (by decide) rfl (fun ls hl => ?_)
  have loop : ∀ (d j : Nat) (w1 : xM) (q1 : Nat → xP) (ls : Array Slot) (H : Heap) (locs : List Loc), j + d = 9 → xCL G w1 pa ra cp fr ad md q1 eo tb wr → q1 17 = xlit 1 j (xgr0 rb A Q) → q1 18 = xlit 0 j (xgr0 rb Bq (xmv 64 Q)) → q1 16 = xtgt rt Bq Q → (∀ i, i < j → q1 (7 + i) = xcol rb A Bq Q i) → (∀ i, i < 7 ∨ 21 ≤ i → q1 i = ps i) → xW G B w1 H → va_S (xA B) s.heap H locs → lv_has ls 6 [(5, .int (nI j)), (0, .ref (ad 2)), (1, .ref (fr k)), (2, .ref (pa (21 + 2 * kq))), (3, .ref (pa 0)), (4, .ref (pa 1))] → W p l ev rmX0_set s m [.ref (ad 2), .ref (fr k), .ref (pa (21 + 2 * kq)), .ref (pa 0), .ref (pa 1)].toArray below meth cd H locs 0 0 (MQ below (va_Qv (fun u => ∃ ps2, xCL G u pa ra cp fr ad md ps2 eo tb wr ∧ (∀ i, i < 7 ∨ 21 ≤ i → ps2 i = ps i) ∧ (∀ i, i < 9 → ps2 (7 + i) = xcol rb A Bq Q i) ∧ ps2 16 = xtgt rt Bq Q) (xE G B) (xA B)) [.ref (ad 2), .ref (fr k), .ref (pa (21 + 2 * kq)), .ref (pa 0), .ref (pa 1)].toArray s 0 0 (xA B)) (F0 m 110 ls []) := by
    intro d
    induction d with
    | zero =>
      intro j w1 q1 ls H locs hj hC e17 e18 e16 hco hk7 hw hS hl
      obtain ⟨cf, hcf, hcf2⟩ := hC.cf
      refine lv_iload hx hb dX0_set_110 (lv_at hl 0 rfl) ?_
      refine lv_aload_n hx hb dX0_set_112 rfl (lv_at hl 1 rfl) ?_
      refine xw_get C hw hC.q (ci := 0) rfl iX0_set_X0 0 (by decide) (by decide +kernel) rfl dX0_set_113 ?_
      refine xw_alen C hw 3 rfl hcf (N := 9) rfl dX0_set_116 ?_
      refine lv_icmp_ge (tgt := 174) hx hb dX0_set_117 (by decide) (fun _ => ?_) (fun hc => absurd ((nI_leI (by omega) (by omega)).mpr (by omega)) hc)
      exact xw_vret C hw hS (Nat.le_of_ble_eq_true rfl) (Nat.le_of_ble_eq_true rfl) (⟨q1, hC, hk7, fun i hi => hco i (by omega), e16⟩) dX0_set_174
    | succ d ih =>
      intro j w1 q1 ls H locs hj hC e17 e18 e16 hco hk7 hw hS hl
      have sg : xsup (xlit 1 j (xgr0 rb A Q)) (44 + j) := xlit_sup (xgr0_sup sb sA sq) j
      have ss : xsup (xlit 0 j (xgr0 rb Bq (xmv 64 Q))) (44 + j) := xlit_sup (xgr0_sup sb sB sm) j
      have lg := xlen_sle (n := 64) sg
      have ls9 := xlen_sle (n := 64) ss
      obtain ⟨cf, hcf, hcf2⟩ := hC.cf
      refine lv_iload hx hb dX0_set_110 (lv_at hl 0 rfl) ?_
      refine lv_aload_n hx hb dX0_set_112 rfl (lv_at hl 1 rfl) ?_
      refine xw_get C hw hC.q (ci := 0) rfl iX0_set_X0 0 (by decide) (by decide +kernel) rfl dX0_set_113 ?_
      refine xw_alen C hw 3 rfl hcf (N := 9) rfl dX0_set_116 ?_
      refine lv_icmp_ge (tgt := 174) hx hb dX0_set_117 (by decide) (fun hc => absurd hc (fun q => absurd ((nI_leI (by omega) (by omega)).mp q) (by omega))) (fun _ => ?_)
      refine lv_aload_n hx hb dX0_set_120 rfl (lv_at hl 1 rfl) ?_
      refine xw_get C hw hC.q (ci := 0) rfl iX0_set_X0 0 (by decide) (by decide +kernel) rfl dX0_set_121 ?_
      refine lv_iload hx hb dX0_set_124 (lv_at hl 0 rfl) ?_
      refine xw_aaldN C hw 3 rfl hcf (show j < 9 by omega) (by decide) (v := .ref (pa (7 + j))) (by rw [hcf2 _ (show j < 9 by omega)]; rfl) dX0_set_126 ?_
      refine lv_aload_n hx hb dX0_set_127 rfl (lv_at hl 1 rfl) ?_
      refine xw_get C hw hC.q (ci := 0) rfl iX0_set_X0 2 (by decide) (by decide +kernel) rfl dX0_set_128 ?_
      refine xw_cv (xw_V (n := 1) (rest := []) C hw (kX3_copy l G B _ (pa (7 + j)) (ra (7 + j)) 64 (q1 (7 + j)) (pa 17) (ra 17) 64 (xlit 1 j (xgr0 rb A Q)) (hC.pw (7 + j) (by omega) (by omega) rfl) (hC.pw 17 (by omega) (by omega) e17) (hC.pn (by omega) (by omega) (by omega)) (hC.rn (by omega) (by omega) (by omega)) (by omega)) gX0_set_X3_copy rfl rfl rfl (by decide +kernel) ⟨Nat.le_of_ble_eq_true rfl, Nat.le_of_ble_eq_true rfl⟩ (hC.p (7 + j) (by omega)).1 rfl rfl hl.1 rfl (Nat.le_of_ble_eq_true rfl) dX0_set_131 ⟨Nat.le_of_ble_eq_true rfl, Nat.le_of_ble_eq_true rfl⟩ hS) hS (fun u H locs hpp hw hS => ?_)
      rw [hpp] at hw
      have hC := hC.set (i := 7 + j) (by omega) (hC.cap (by omega) (by omega)) (f := xlit 1 j (xgr0 rb A Q)) (xsup_mono sg (by omega))
      obtain ⟨ps12, hps⟩ : ∃ zz9, zz9 = va_up q1 (7 + j) (xlit 1 j (xgr0 rb A Q)) := ⟨_, rfl⟩
      rw [← hps] at hC
      have e17 : ps12 (17) = xlit 1 j (xgr0 rb A Q) := (congrFun hps _).trans ((va_up_ne _ _ (by omega)).trans e17)
      have e18 : ps12 (18) = xlit 0 j (xgr0 rb Bq (xmv 64 Q)) := (congrFun hps _).trans ((va_up_ne _ _ (by omega)).trans e18)
      have e16 : ps12 (16) = xtgt rt Bq Q := (congrFun hps _).trans ((va_up_ne _ _ (by omega)).trans e16)
      have hk7 : ∀ i, i < 7 ∨ 21 ≤ i → ps12 i = ps i := fun i hi => (congrFun hps i).trans ((va_up_ne _ _ (by omega)).trans (hk7 i hi))
      have e7 : ps12 (7 + j) = xlit 1 j (xgr0 rb A Q) := by rw [hps, va_up_self]
      have hco : ∀ i, i < j → ps12 (7 + i) = xcol rb A Bq Q i := fun i hi => by rw [hps, va_up_ne _ _ (by omega)]; exact hco i hi
      obtain ⟨cf, hcf, hcf2⟩ := hC.cf
      refine lv_aload_n hx hb dX0_set_134 rfl (lv_at hl 1 rfl) ?_
      refine xw_get C hw hC.q (ci := 0) rfl iX0_set_X0 0 (by decide) (by decide +kernel) rfl dX0_set_135 ?_
      refine lv_iload hx hb dX0_set_138 (lv_at hl 0 rfl) ?_
      refine xw_aaldN C hw 3 rfl hcf (show j < 9 by omega) (by decide) (v := .ref (pa (7 + j))) (by rw [hcf2 _ (show j < 9 by omega)]; rfl) dX0_set_140 ?_
      refine lv_aload_n hx hb dX0_set_141 rfl (lv_at hl 1 rfl) ?_
      refine xw_get C hw hC.q (ci := 0) rfl iX0_set_X0 3 (by decide) (by decide +kernel) rfl dX0_set_142 ?_
      refine lv_sipush (v := 32002) hx hb dX0_set_145 (by decide) ?_
      refine xw_ti (y := (nI 32002)) (by decide) ?_
      refine lv_iconst (v := 0) hx hb dX0_set_148 (by decide) ?_
      refine xw_ti (y := (nI 0)) (nI_0.symm) ?_
      refine xw_cv (xw_V (n := 3) (rest := []) C hw (kX3_gather l G B _ (pa (7 + j)) (ra (7 + j)) 64 (xlit 1 j (xgr0 rb A Q)) (pa 18) (ra 18) 64 (xlit 0 j (xgr0 rb Bq (xmv 64 Q))) (hC.pw (7 + j) (by omega) (by omega) e7) (hC.pw 18 (by omega) (by omega) e18) (hC.pn (by omega) (by omega) (by omega)) (hC.rn (by omega) (by omega) (by omega)) 32002 0 (by decide) (by omega)) gX0_set_X3_gather rfl rfl rfl (by decide +kernel) ⟨Nat.le_of_ble_eq_true rfl, Nat.le_of_ble_eq_true rfl⟩ (hC.p (7 + j) (by omega)).1 rfl rfl hl.1 rfl (Nat.le_of_ble_eq_true rfl) dX0_set_149 ⟨Nat.le_of_ble_eq_true rfl, Nat.le_of_ble_eq_true rfl⟩ hS) hS (fun u H locs hpp hw hS => ?_)
      rw [hpp] at hw
      have hC := hC.set (i := 7 + j) (by omega) (hC.cap (by omega) (by omega)) (f := xcol rb A Bq Q j) (xsup_mono (xcol_sup sb sA sB sq) (by omega))
      obtain ⟨ps13, hps⟩ : ∃ zz9, zz9 = va_up ps12 (7 + j) (xcol rb A Bq Q j) := ⟨_, rfl⟩
      rw [← hps] at hC
      have e17 : ps13 (17) = xlit 1 j (xgr0 rb A Q) := (congrFun hps _).trans ((va_up_ne _ _ (by omega)).trans e17)
      have e18 : ps13 (18) = xlit 0 j (xgr0 rb Bq (xmv 64 Q)) := (congrFun hps _).trans ((va_up_ne _ _ (by omega)).trans e18)
      have e16 : ps13 (16) = xtgt rt Bq Q := (congrFun hps _).trans ((va_up_ne _ _ (by omega)).trans e16)
      have hk7 : ∀ i, i < 7 ∨ 21 ≤ i → ps13 i = ps i := fun i hi => (congrFun hps i).trans ((va_up_ne _ _ (by omega)).trans (hk7 i hi))
      have e7 : ps13 (7 + j) = xcol rb A Bq Q j := by rw [hps, va_up_self]
      have hco : ∀ i, i < j → ps13 (7 + i) = xcol rb A Bq Q i := fun i hi => by rw [hps, va_up_ne _ _ (by omega)]; exact hco i hi
      refine lv_aload_n hx hb dX0_set_152 rfl (lv_at hl 1 rfl) ?_
      refine xw_get C hw hC.q (ci := 0) rfl iX0_set_X0 2 (by decide) (by decide +kernel) rfl dX0_set_153 ?_
      refine lv_iconst (v := 1) hx hb dX0_set_156 (by decide) ?_
      refine xw_ti (y := (xI 1)) (xI_1.symm) ?_
      refine xw_cv (xw_V (n := 1) (rest := []) C hw (kX3_multiplyByLinear l G B _ (pa 17) (ra 17) 64 (xlit 1 j (xgr0 rb A Q)) 1 (hC.pw 17 (by omega) (by omega) e17) (by omega)) gX0_set_X3_multiplyByLinear rfl rfl rfl (by decide +kernel) ⟨Nat.le_of_ble_eq_true rfl, Nat.le_of_ble_eq_true rfl⟩ (hC.p 17 (by omega)).1 rfl rfl hl.1 rfl (Nat.le_of_ble_eq_true rfl) dX0_set_157 ⟨Nat.le_of_ble_eq_true rfl, Nat.le_of_ble_eq_true rfl⟩ hS) hS (fun u H locs hpp hw hS => ?_)
      rw [hpp] at hw
      have hC := hC.set (i := 17) (by omega) (hC.cap (by omega) (by omega)) (f := xlit 1 (j + 1) (xgr0 rb A Q)) (xsup_mono (xlit_sup (xgr0_sup sb sA sq) (j + 1)) (by omega))
      obtain ⟨ps14, hps⟩ : ∃ zz9, zz9 = va_up ps13 (17) (xlit 1 (j + 1) (xgr0 rb A Q)) := ⟨_, rfl⟩
      rw [← hps] at hC
      have e18 : ps14 (18) = xlit 0 j (xgr0 rb Bq (xmv 64 Q)) := (congrFun hps _).trans ((va_up_ne _ _ (by omega)).trans e18)
      have e16 : ps14 (16) = xtgt rt Bq Q := (congrFun hps _).trans ((va_up_ne _ _ (by omega)).trans e16)
      have e7 : ps14 (7 + j) = xcol rb A Bq Q j := (congrFun hps _).trans ((va_up_ne _ _ (by omega)).trans e7)
      have hk7 : ∀ i, i < 7 ∨ 21 ≤ i → ps14 i = ps i := fun i hi => (congrFun hps i).trans ((va_up_ne _ _ (by omega)).trans (hk7 i hi))
      have e17 : ps14 (17) = xlit 1 (j + 1) (xgr0 rb A Q) := by rw [hps, va_up_self]
      have hco : ∀ i, i < j → ps14 (7 + i) = xcol rb A Bq Q i := fun i hi => by rw [hps, va_up_ne _ _ (by omega)]; exact hco i hi
      refine lv_aload_n hx hb dX0_set_160 rfl (lv_at hl 1 rfl) ?_
      refine xw_get C hw hC.q (ci := 0) rfl iX0_set_X0 3 (by decide) (by decide +kernel) rfl dX0_set_161 ?_
      refine lv_iconst (v := 0) hx hb dX0_set_164 (by decide) ?_
      refine xw_ti (y := (xI 0)) (xI_0.symm) ?_
      refine xw_cv (xw_V (n := 1) (rest := []) C hw (kX3_multiplyByLinear l G B _ (pa 18) (ra 18) 64 (xlit 0 j (xgr0 rb Bq (xmv 64 Q))) 0 (hC.pw 18 (by omega) (by omega) e18) (by omega)) gX0_set_X3_multiplyByLinear rfl rfl rfl (by decide +kernel) ⟨Nat.le_of_ble_eq_true rfl, Nat.le_of_ble_eq_true rfl⟩ (hC.p 18 (by omega)).1 rfl rfl hl.1 rfl (Nat.le_of_ble_eq_true rfl) dX0_set_165 ⟨Nat.le_of_ble_eq_true rfl, Nat.le_of_ble_eq_true rfl⟩ hS) hS (fun u H locs hpp hw hS => ?_)
      rw [hpp] at hw
      have hC := hC.set (i := 18) (by omega) (hC.cap (by omega) (by omega)) (f := xlit 0 (j + 1) (xgr0 rb Bq (xmv 64 Q))) (xsup_mono (xlit_sup (xgr0_sup sb sB sm) (j + 1)) (by omega))
      obtain ⟨ps15, hps⟩ : ∃ zz9, zz9 = va_up ps14 (18) (xlit 0 (j + 1) (xgr0 rb Bq (xmv 64 Q))) := ⟨_, rfl⟩
      rw [← hps] at hC
      have e16 : ps15 (16) = xtgt rt Bq Q := (congrFun hps _).trans ((va_up_ne _ _ (by omega)).trans e16)
      have e7 : ps15 (7 + j) = xcol rb A Bq Q j := (congrFun hps _).trans ((va_up_ne _ _ (by omega)).trans e7)
      have e17 : ps15 (17) = xlit 1 (j + 1) (xgr0 rb A Q) := (congrFun hps _).trans ((va_up_ne _ _ (by omega)).trans e17)
      have hk7 : ∀ i, i < 7 ∨ 21 ≤ i → ps15 i = ps i := fun i hi => (congrFun hps i).trans ((va_up_ne _ _ (by omega)).trans (hk7 i hi))
      have e18 : ps15 (18) = xlit 0 (j + 1) (xgr0 rb Bq (xmv 64 Q)) := by rw [hps, va_up_self]
      have hco : ∀ i, i < j → ps15 (7 + i) = xcol rb A Bq Q i := fun i hi => by rw [hps, va_up_ne _ _ (by omega)]; exact hco i hi
      refine lv_iinc (v := (nI (j + 1))) (lv' := [(5, .int (nI (j + 1))), (0, .ref (ad 2)), (1, .ref (fr k)), (2, .ref (pa (21 + 2 * kq))), (3, .ref (pa 0)), (4, .ref (pa 1))]) hx hb dX0_set_168 hl (k := 0) rfl (x_inc j) (by decide) rfl (fun ls hl => ?_)
      refine lv_goto (tgt := 110) hx hb dX0_set_171 (by decide) ?_
      refine ih (j + 1) _ ps15 ls _ _ (by omega) hC e17 e18 e16 (fun i hi => ?_) hk7 hw hS (lv_sub hl [0, 1, 2, 3, 4, 5] rfl)
      by_cases hij : i = j
      · subst hij; exact e7
      · exact hco i (by omega)
  exact loop 9 0 _ ps11 ls _ _ rfl hC e17 e18 e16 (fun i hi => absurd hi (by omega)) hk7 hw hS (lv_sub hl [0, 1, 2, 3, 4, 5] rfl)
