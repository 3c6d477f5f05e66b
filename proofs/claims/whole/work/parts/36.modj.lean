/-! ===== the reference: lowest (laid by wip/whole/m_modj.py) ===== -/
abbrev rmX5_lowest : Room := { frames := 2, cells := 0, slots := 0, locals := 55 }
theorem iX5_lowest_X5 : ∀ w ∈ wsX50, w ∈ wsX5_lowest := by decide +kernel
set_option maxHeartbeats 4000000 in
set_option maxRecDepth 100000 in
theorem kX5_lowest (l : Launch) (G : xG) (B : Nat) (w : xM) (mo : Nat) (la ia : Nat → Nat) (rq : Nat) (co : Int32) (mn : Nat) (im lr : Nat → xP) (ro : Nat → Option Nat) (me : Int32) (wr : xM) (hC : xML G w mo la ia rq co mn im lr ro me wr) (t b : xP) (et : lr 0 = t) (eb : lr 1 = b) (h0 : xlen b 64 ≠ 0) : Met l yX5_lowest wsX5_lowest rmX5_lowest (va_Pc [.ref mo] (xB G B w)) (va_Qv (fun u => ∃ lr2, xML G u mo la ia rq co mn im lr2 ro me wr ∧ lr2 0 = xnT t b ∧ lr2 1 = xnB t b ∧ ∀ i, 2 ≤ i ∧ i ≠ 5 ∧ i ≠ 6 ∧ i ≠ 7 → lr2 i = lr i) (xE G B) (xA B)) 0 0 (xA B) := by
  refine xw_start (own := RX5) (mn := "lowest") (cc := cX5_lowest) (nL := 4) (rt := none) (by decide) rfl rfl rfl (Nat.le_of_ble_eq_true rfl) ?_
  intro p ev s m below meth cd ls C hl hw hS
  obtain ⟨hx, hb, -, -, -, hts, -, -, -, -⟩ := id C
  have hl : lv_has ls 4 [(0, .ref mo)] := hl
  have hkp : ∀ i, 2 ≤ i ∧ i ≠ 5 ∧ i ≠ 6 ∧ i ≠ 7 → lr i = lr i := fun _ _ => rfl
  have st := hC.rs 0 (by decide) et
  have sb := hC.rs 1 (by decide) eb
  refine lv_aload_n hx hb dX5_lowest_0 rfl (lv_at hl 0 rfl) ?_
  refine xw_get C hw hC.o (ci := 4) rfl iX5_lowest_X5 11 (by decide) (by decide +kernel) rfl dX5_lowest_1 ?_
  refine lv_aload_n hx hb dX5_lowest_4 rfl (lv_at hl 0 rfl) ?_
  refine xw_get C hw hC.o (ci := 4) rfl iX5_lowest_X5 6 (by decide) (by decide +kernel) rfl dX5_lowest_5 ?_
  refine xw_cv (xw_S (n := 2) (rest := []) C hw (kX5_copy l G B _ (la 5) (la 0) (lr 5) t (hC.r 5 (by decide) rfl) (hC.r 0 (by decide) et) (hC.ln (by decide) (by decide) (by decide)) (hC.rs 5 (by decide) rfl) (hC.rs 0 (by decide) et)) gX5_lowest_X5_copy rfl rfl rfl (by decide +kernel) ⟨Nat.le_of_ble_eq_true rfl, Nat.le_of_ble_eq_true rfl⟩ rfl hl.1 rfl (Nat.le_of_ble_eq_true rfl) dX5_lowest_8 ⟨Nat.le_of_ble_eq_true rfl, Nat.le_of_ble_eq_true rfl⟩ hS) hS (fun u H locs hpp hw hS => ?_)
  rw [hpp] at hw
  have hC := hC.set (i := 5) (by decide) (show xlc 5 = 64 by decide) (f := t) ((hC.rs 0 (by decide) et))
  obtain ⟨lr1, hlr⟩ : ∃ zz9, zz9 = va_up lr (5) (t) := ⟨_, rfl⟩
  rw [← hlr] at hC
  have et : lr1 0 = t := (congrFun hlr _).trans ((va_up_ne _ _ (by decide)).trans et)
  have eb : lr1 1 = b := (congrFun hlr _).trans ((va_up_ne _ _ (by decide)).trans eb)
  have e5 : lr1 5 = t := (congrFun hlr _).trans (va_up_self _ _ _)
  have hkp : ∀ i, 2 ≤ i ∧ i ≠ 5 ∧ i ≠ 6 ∧ i ≠ 7 → lr1 i = lr i := fun i hi => (congrFun hlr i).trans ((va_up_ne _ _ (by omega)).trans (hkp i hi))
  refine lv_aload_n hx hb dX5_lowest_11 rfl (lv_at hl 0 rfl) ?_
  refine xw_get C hw hC.o (ci := 4) rfl iX5_lowest_X5 12 (by decide) (by decide +kernel) rfl dX5_lowest_12 ?_
  refine lv_aload_n hx hb dX5_lowest_15 rfl (lv_at hl 0 rfl) ?_
  refine xw_get C hw hC.o (ci := 4) rfl iX5_lowest_X5 7 (by decide) (by decide +kernel) rfl dX5_lowest_16 ?_
  refine xw_cv (xw_S (n := 2) (rest := []) C hw (kX5_copy l G B _ (la 6) (la 1) (lr1 6) b (hC.r 6 (by decide) rfl) (hC.r 1 (by decide) eb) (hC.ln (by decide) (by decide) (by decide)) (hC.rs 6 (by decide) rfl) (hC.rs 1 (by decide) eb)) gX5_lowest_X5_copy rfl rfl rfl (by decide +kernel) ⟨Nat.le_of_ble_eq_true rfl, Nat.le_of_ble_eq_true rfl⟩ rfl hl.1 rfl (Nat.le_of_ble_eq_true rfl) dX5_lowest_19 ⟨Nat.le_of_ble_eq_true rfl, Nat.le_of_ble_eq_true rfl⟩ hS) hS (fun u H locs hpp hw hS => ?_)
  rw [hpp] at hw
  have hC := hC.set (i := 6) (by decide) (show xlc 6 = 64 by decide) (f := b) ((hC.rs 1 (by decide) eb))
  obtain ⟨lr2, hlr⟩ : ∃ zz9, zz9 = va_up lr1 (6) (b) := ⟨_, rfl⟩
  rw [← hlr] at hC
  have et : lr2 0 = t := (congrFun hlr _).trans ((va_up_ne _ _ (by decide)).trans et)
  have eb : lr2 1 = b := (congrFun hlr _).trans ((va_up_ne _ _ (by decide)).trans eb)
  have e5 : lr2 5 = t := (congrFun hlr _).trans ((va_up_ne _ _ (by decide)).trans e5)
  have e6 : lr2 6 = b := (congrFun hlr _).trans (va_up_self _ _ _)
  have hkp : ∀ i, 2 ≤ i ∧ i ≠ 5 ∧ i ≠ 6 ∧ i ≠ 7 → lr2 i = lr i := fun i hi => (congrFun hlr i).trans ((va_up_ne _ _ (by omega)).trans (hkp i hi))
  have loop : ∀ (d : Nat) (w1 : xM) (lrr : Nat → xP) (X Y : xP) (ls : Array Slot) (H : Heap) (locs : List Loc), xML G w1 mo la ia rq co mn im lrr ro me wr → lrr 0 = t → lrr 1 = b → lrr 5 = X → lrr 6 = Y → (∀ i, 2 ≤ i ∧ i ≠ 5 ∧ i ≠ 6 ∧ i ≠ 7 → lrr i = lr i) → xlen Y 64 < d → xgcd d X Y = xgcd 65 t b → xW G B (w1) H → va_S (xA B) s.heap H locs → lv_has ls 4 [(0, .ref mo)] → W p l ev rmX5_lowest s m [.ref mo].toArray below meth cd H locs 0 0 (MQ below (va_Qv (fun u => ∃ lr2, xML G u mo la ia rq co mn im lr2 ro me wr ∧ lr2 0 = xnT t b ∧ lr2 1 = xnB t b ∧ ∀ i, 2 ≤ i ∧ i ≠ 5 ∧ i ≠ 6 ∧ i ≠ 7 → lr2 i = lr i) (xE G B) (xA B)) [.ref mo].toArray s 0 0 (xA B)) (F0 m 22 ls []) := by
    intro d
    induction d with
    | zero =>
      intro w1 lrr X Y ls H locs hC et eb e5 e6 hkp hY he hw hS hl
      omega
    | succ d ih =>
      intro w1 lrr X Y ls H locs hC et eb e5 e6 hkp hY he hw hS hl
      have sX := hC.rs 5 (by decide) e5
      have sY := hC.rs 6 (by decide) e6
      have lY := xlen_le Y 64
      refine lv_aload_n hx hb dX5_lowest_22 rfl (lv_at hl 0 rfl) ?_
      refine xw_get C hw hC.o (ci := 4) rfl iX5_lowest_X5 12 (by decide) (by decide +kernel) rfl dX5_lowest_23 ?_
      refine xw_ci (xw_S (n := 1) (rest := []) C hw (kX5_high l G B _ (la 6) Y (hC.r 6 (by decide) e6)) gX5_lowest_X5_high rfl rfl rfl (by decide +kernel) ⟨Nat.le_of_ble_eq_true rfl, Nat.le_of_ble_eq_true rfl⟩ rfl hl.1 rfl (Nat.le_of_ble_eq_true rfl) dX5_lowest_26 ⟨Nat.le_of_ble_eq_true rfl, Nat.le_of_ble_eq_true rfl⟩ hS) hS (fun ru u H locs hp hw hS => ?_)
      obtain ⟨hr, hu⟩ := hp
      rw [hu] at hw
      refine xw_ti (y := (nI (xlen Y 64) - 1)) (hr) ?_
      refine lv_if_lt (tgt := 87) hx hb dX5_lowest_29 (by decide) (fun hc => ?_) (fun hc => ?_)
      · skip
        have hc : xlen Y 64 = 0 := (x_hi_lt (by omega)).mp hc
        have eX : X = xgcd 65 t b := by rw [← he, xgcd_z _ hc]
        have d0 : xlen X 64 ≠ 0 := by rw [eX]; exact xgcd_ne2 64 h0
        refine lv_aload_n hx hb dX5_lowest_87 rfl (lv_at hl 0 rfl) ?_
        refine lv_aload_n hx hb dX5_lowest_88 rfl (lv_at hl 0 rfl) ?_
        refine xw_get C hw hC.o (ci := 4) rfl iX5_lowest_X5 6 (by decide) (by decide +kernel) rfl dX5_lowest_89 ?_
        refine lv_aload_n hx hb dX5_lowest_92 rfl (lv_at hl 0 rfl) ?_
        refine xw_get C hw hC.o (ci := 4) rfl iX5_lowest_X5 11 (by decide) (by decide +kernel) rfl dX5_lowest_93 ?_
        refine xw_cv (xw_V (n := 2) (rest := []) C hw (kX5_divide l G B _ mo la ia rq co mn im lrr ro me wr hC 0 5 (by decide) (by decide) (by decide) (by decide) (by decide) t X et e5 d0) gX5_lowest_X5_divide rfl rfl rfl (by decide +kernel) ⟨Nat.le_of_ble_eq_true rfl, Nat.le_of_ble_eq_true rfl⟩ hC.o rfl rfl hl.1 rfl (Nat.le_of_ble_eq_true rfl) dX5_lowest_96 ⟨Nat.le_of_ble_eq_true rfl, Nat.le_of_ble_eq_true rfl⟩ hS) hS (fun u H locs hpp hw hS => ?_)
        rw [hpp] at hw
        have sq := xqr_sup (f := t) (g := X) (hC.rs 0 (by decide) et) (hC.rs 5 (by decide) e5) d0
        have hC := hC.set (i := 0) (by decide) (show xlc 0 = 64 by decide) (f := xrem t X) (sq.1)
        obtain ⟨lr21, hlr⟩ : ∃ zz9, zz9 = va_up lrr (0) (xrem t X) := ⟨_, rfl⟩
        rw [← hlr] at hC
        have eb : lr21 1 = b := (congrFun hlr _).trans ((va_up_ne _ _ (by decide)).trans eb)
        have e5 : lr21 5 = X := (congrFun hlr _).trans ((va_up_ne _ _ (by decide)).trans e5)
        have e6 : lr21 6 = Y := (congrFun hlr _).trans ((va_up_ne _ _ (by decide)).trans e6)
        have e0 : lr21 0 = xrem t X := (congrFun hlr _).trans (va_up_self _ _ _)
        have hkp : ∀ i, 2 ≤ i ∧ i ≠ 5 ∧ i ≠ 6 ∧ i ≠ 7 → lr21 i = lr i := fun i hi => (congrFun hlr i).trans ((va_up_ne _ _ (by omega)).trans (hkp i hi))
        have hC := hC.set (i := 7) (by decide) (show xlc 7 = 64 by decide) (f := xquo t X) (sq.2)
        obtain ⟨lr22, hlr⟩ : ∃ zz9, zz9 = va_up lr21 (7) (xquo t X) := ⟨_, rfl⟩
        rw [← hlr] at hC
        have eb : lr22 1 = b := (congrFun hlr _).trans ((va_up_ne _ _ (by decide)).trans eb)
        have e5 : lr22 5 = X := (congrFun hlr _).trans ((va_up_ne _ _ (by decide)).trans e5)
        have e6 : lr22 6 = Y := (congrFun hlr _).trans ((va_up_ne _ _ (by decide)).trans e6)
        have e0 : lr22 0 = xrem t X := (congrFun hlr _).trans ((va_up_ne _ _ (by decide)).trans e0)
        have e7 : lr22 7 = xquo t X := (congrFun hlr _).trans (va_up_self _ _ _)
        have hkp : ∀ i, 2 ≤ i ∧ i ≠ 5 ∧ i ≠ 6 ∧ i ≠ 7 → lr22 i = lr i := fun i hi => (congrFun hlr i).trans ((va_up_ne _ _ (by omega)).trans (hkp i hi))
        refine lv_aload_n hx hb dX5_lowest_99 rfl (lv_at hl 0 rfl) ?_
        refine xw_get C hw hC.o (ci := 4) rfl iX5_lowest_X5 6 (by decide) (by decide +kernel) rfl dX5_lowest_100 ?_
        refine lv_aload_n hx hb dX5_lowest_103 rfl (lv_at hl 0 rfl) ?_
        refine xw_get C hw hC.o (ci := 4) rfl iX5_lowest_X5 13 (by decide) (by decide +kernel) rfl dX5_lowest_104 ?_
        refine xw_cv (xw_S (n := 2) (rest := []) C hw (kX5_copy l G B _ (la 0) (la 7) (xrem t X) (xquo t X) (hC.r 0 (by decide) e0) (hC.r 7 (by decide) e7) (hC.ln (by decide) (by decide) (by decide)) (hC.rs 0 (by decide) e0) (hC.rs 7 (by decide) e7)) gX5_lowest_X5_copy rfl rfl rfl (by decide +kernel) ⟨Nat.le_of_ble_eq_true rfl, Nat.le_of_ble_eq_true rfl⟩ rfl hl.1 rfl (Nat.le_of_ble_eq_true rfl) dX5_lowest_107 ⟨Nat.le_of_ble_eq_true rfl, Nat.le_of_ble_eq_true rfl⟩ hS) hS (fun u H locs hpp hw hS => ?_)
        rw [hpp] at hw
        have hC := hC.set (i := 0) (by decide) (show xlc 0 = 64 by decide) (f := xquo t X) ((hC.rs 7 (by decide) e7))
        obtain ⟨lr23, hlr⟩ : ∃ zz9, zz9 = va_up lr22 (0) (xquo t X) := ⟨_, rfl⟩
        rw [← hlr] at hC
        have eb : lr23 1 = b := (congrFun hlr _).trans ((va_up_ne _ _ (by decide)).trans eb)
        have e5 : lr23 5 = X := (congrFun hlr _).trans ((va_up_ne _ _ (by decide)).trans e5)
        have e6 : lr23 6 = Y := (congrFun hlr _).trans ((va_up_ne _ _ (by decide)).trans e6)
        have e7 : lr23 7 = xquo t X := (congrFun hlr _).trans ((va_up_ne _ _ (by decide)).trans e7)
        have e0 : lr23 0 = xquo t X := (congrFun hlr _).trans (va_up_self _ _ _)
        have hkp : ∀ i, 2 ≤ i ∧ i ≠ 5 ∧ i ≠ 6 ∧ i ≠ 7 → lr23 i = lr i := fun i hi => (congrFun hlr i).trans ((va_up_ne _ _ (by omega)).trans (hkp i hi))
        refine lv_aload_n hx hb dX5_lowest_110 rfl (lv_at hl 0 rfl) ?_
        refine lv_aload_n hx hb dX5_lowest_111 rfl (lv_at hl 0 rfl) ?_
        refine xw_get C hw hC.o (ci := 4) rfl iX5_lowest_X5 7 (by decide) (by decide +kernel) rfl dX5_lowest_112 ?_
        refine lv_aload_n hx hb dX5_lowest_115 rfl (lv_at hl 0 rfl) ?_
        refine xw_get C hw hC.o (ci := 4) rfl iX5_lowest_X5 11 (by decide) (by decide +kernel) rfl dX5_lowest_116 ?_
        refine xw_cv (xw_V (n := 2) (rest := []) C hw (kX5_divide l G B _ mo la ia rq co mn im lr23 ro me wr hC 1 5 (by decide) (by decide) (by decide) (by decide) (by decide) b X eb e5 d0) gX5_lowest_X5_divide rfl rfl rfl (by decide +kernel) ⟨Nat.le_of_ble_eq_true rfl, Nat.le_of_ble_eq_true rfl⟩ hC.o rfl rfl hl.1 rfl (Nat.le_of_ble_eq_true rfl) dX5_lowest_119 ⟨Nat.le_of_ble_eq_true rfl, Nat.le_of_ble_eq_true rfl⟩ hS) hS (fun u H locs hpp hw hS => ?_)
        rw [hpp] at hw
        have sq := xqr_sup (f := b) (g := X) (hC.rs 1 (by decide) eb) (hC.rs 5 (by decide) e5) d0
        have hC := hC.set (i := 1) (by decide) (show xlc 1 = 64 by decide) (f := xrem b X) (sq.1)
        obtain ⟨lr24, hlr⟩ : ∃ zz9, zz9 = va_up lr23 (1) (xrem b X) := ⟨_, rfl⟩
        rw [← hlr] at hC
        have e5 : lr24 5 = X := (congrFun hlr _).trans ((va_up_ne _ _ (by decide)).trans e5)
        have e6 : lr24 6 = Y := (congrFun hlr _).trans ((va_up_ne _ _ (by decide)).trans e6)
        have e7 : lr24 7 = xquo t X := (congrFun hlr _).trans ((va_up_ne _ _ (by decide)).trans e7)
        have e0 : lr24 0 = xquo t X := (congrFun hlr _).trans ((va_up_ne _ _ (by decide)).trans e0)
        have e1 : lr24 1 = xrem b X := (congrFun hlr _).trans (va_up_self _ _ _)
        have hkp : ∀ i, 2 ≤ i ∧ i ≠ 5 ∧ i ≠ 6 ∧ i ≠ 7 → lr24 i = lr i := fun i hi => (congrFun hlr i).trans ((va_up_ne _ _ (by omega)).trans (hkp i hi))
        have hC := hC.set (i := 7) (by decide) (show xlc 7 = 64 by decide) (f := xquo b X) (sq.2)
        obtain ⟨lr25, hlr⟩ : ∃ zz9, zz9 = va_up lr24 (7) (xquo b X) := ⟨_, rfl⟩
        rw [← hlr] at hC
        have e5 : lr25 5 = X := (congrFun hlr _).trans ((va_up_ne _ _ (by decide)).trans e5)
        have e6 : lr25 6 = Y := (congrFun hlr _).trans ((va_up_ne _ _ (by decide)).trans e6)
        have e0 : lr25 0 = xquo t X := (congrFun hlr _).trans ((va_up_ne _ _ (by decide)).trans e0)
        have e1 : lr25 1 = xrem b X := (congrFun hlr _).trans ((va_up_ne _ _ (by decide)).trans e1)
        have e7 : lr25 7 = xquo b X := (congrFun hlr _).trans (va_up_self _ _ _)
        have hkp : ∀ i, 2 ≤ i ∧ i ≠ 5 ∧ i ≠ 6 ∧ i ≠ 7 → lr25 i = lr i := fun i hi => (congrFun hlr i).trans ((va_up_ne _ _ (by omega)).trans (hkp i hi))
        refine lv_aload_n hx hb dX5_lowest_122 rfl (lv_at hl 0 rfl) ?_
        refine xw_get C hw hC.o (ci := 4) rfl iX5_lowest_X5 7 (by decide) (by decide +kernel) rfl dX5_lowest_123 ?_
        refine lv_aload_n hx hb dX5_lowest_126 rfl (lv_at hl 0 rfl) ?_
        refine xw_get C hw hC.o (ci := 4) rfl iX5_lowest_X5 13 (by decide) (by decide +kernel) rfl dX5_lowest_127 ?_
        refine xw_cv (xw_S (n := 2) (rest := []) C hw (kX5_copy l G B _ (la 1) (la 7) (xrem b X) (xquo b X) (hC.r 1 (by decide) e1) (hC.r 7 (by decide) e7) (hC.ln (by decide) (by decide) (by decide)) (hC.rs 1 (by decide) e1) (hC.rs 7 (by decide) e7)) gX5_lowest_X5_copy rfl rfl rfl (by decide +kernel) ⟨Nat.le_of_ble_eq_true rfl, Nat.le_of_ble_eq_true rfl⟩ rfl hl.1 rfl (Nat.le_of_ble_eq_true rfl) dX5_lowest_130 ⟨Nat.le_of_ble_eq_true rfl, Nat.le_of_ble_eq_true rfl⟩ hS) hS (fun u H locs hpp hw hS => ?_)
        rw [hpp] at hw
        have hC := hC.set (i := 1) (by decide) (show xlc 1 = 64 by decide) (f := xquo b X) ((hC.rs 7 (by decide) e7))
        obtain ⟨lr26, hlr⟩ : ∃ zz9, zz9 = va_up lr25 (1) (xquo b X) := ⟨_, rfl⟩
        rw [← hlr] at hC
        have e5 : lr26 5 = X := (congrFun hlr _).trans ((va_up_ne _ _ (by decide)).trans e5)
        have e6 : lr26 6 = Y := (congrFun hlr _).trans ((va_up_ne _ _ (by decide)).trans e6)
        have e0 : lr26 0 = xquo t X := (congrFun hlr _).trans ((va_up_ne _ _ (by decide)).trans e0)
        have e7 : lr26 7 = xquo b X := (congrFun hlr _).trans ((va_up_ne _ _ (by decide)).trans e7)
        have e1 : lr26 1 = xquo b X := (congrFun hlr _).trans (va_up_self _ _ _)
        have hkp : ∀ i, 2 ≤ i ∧ i ≠ 5 ∧ i ≠ 6 ∧ i ≠ 7 → lr26 i = lr i := fun i hi => (congrFun hlr i).trans ((va_up_ne _ _ (by omega)).trans (hkp i hi))
        obtain ⟨L, hL⟩ : ∃ L, xlen (xquo b X) 64 = L + 1 := ⟨xlen (xquo b X) 64 - 1, by have := xquo_ne st sb h0; rw [← eX] at this; omega⟩
        have hL2 := xlen_le (xquo b X) 64
        refine lv_aload_n hx hb dX5_lowest_133 rfl (lv_at hl 0 rfl) ?_
        refine xw_get C hw hC.o (ci := 4) rfl iX5_lowest_X5 7 (by decide) (by decide +kernel) rfl dX5_lowest_134 ?_
        refine lv_aload_n hx hb dX5_lowest_137 rfl (lv_at hl 0 rfl) ?_
        refine xw_get C hw hC.o (ci := 4) rfl iX5_lowest_X5 7 (by decide) (by decide +kernel) rfl dX5_lowest_138 ?_
        refine xw_ci (xw_S (n := 1) (rest := [.ref (la 1)]) C hw (kX5_high l G B _ (la 1) (xquo b X) (hC.r 1 (by decide) e1)) gX5_lowest_X5_high rfl rfl rfl (by decide +kernel) ⟨Nat.le_of_ble_eq_true rfl, Nat.le_of_ble_eq_true rfl⟩ rfl hl.1 rfl (Nat.le_of_ble_eq_true rfl) dX5_lowest_141 ⟨Nat.le_of_ble_eq_true rfl, Nat.le_of_ble_eq_true rfl⟩ hS) hS (fun ru u H locs hp hw hS => ?_)
        obtain ⟨hr, hu⟩ := hp
        rw [hu] at hw
        refine xw_ti (y := (nI (xlen (xquo b X) 64) - 1)) (hr) ?_
        refine xw_ti (y := (nI L)) (by rw [hL, x_m1]) ?_
        refine xw_laldN C hw (hC.r 1 (by decide) e1) (show L < 64 by omega) (by decide) dX5_lowest_144 ?_
        refine xw_cl (xw_S (n := 1) (rest := []) C hw (kX5_inverse l G B _ (xquo b X L)) gX5_lowest_X5_inverse rfl rfl rfl (by decide +kernel) ⟨Nat.le_of_ble_eq_true rfl, Nat.le_of_ble_eq_true rfl⟩ rfl hl.1 rfl (Nat.le_of_ble_eq_true rfl) dX5_lowest_145 ⟨Nat.le_of_ble_eq_true rfl, Nat.le_of_ble_eq_true rfl⟩ hS) hS (fun ru u H locs hp hw hS => ?_)
        obtain ⟨hr, hu⟩ := hp
        rw [hu] at hw
        refine xw_tl (y := (xJ (xnc t b))) (hr.trans (congrArg xJ (by unfold xnc xhi; rw [← eX, hL, x_m1, xcf_n _ (by omega)]))) ?_
        refine lv_lstore_n (lv' := [(1, .long (xJ (xnc t b))), (0, .ref mo)]) hx hb dX5_lowest_148 rfl hl (by decide) rfl (fun ls hl => ?_)
        refine lv_iconst (v := 0) hx hb dX5_lowest_149 (by decide) ?_
        refine xw_ti (y := (nI 0)) (nI_0.symm) ?_
        refine lv_istore_n (lv' := [(3, .int (nI 0)), (1, .long (xJ (xnc t b))), (0, .ref mo)]) hx hb dX5_lowest_150 rfl hl (by decide) rfl (fun ls hl => ?_)
        have sA : xsup (xquo t X) 64 := hC.rs 0 (by decide) e0
        have sB : xsup (xquo b X) 64 := hC.rs 1 (by decide) e1
        have inner : ∀ (d k : Nat) (w1 : xM) (lr5 : Nat → xP) (ls : Array Slot) (H : Heap) (locs : List Loc), k + d = 64 → xML G w1 mo la ia rq co mn im lr5 ro me wr → lr5 0 = xmix (fun i => xquo t X i * xnc t b) (xquo t X) k → lr5 1 = xmix (fun i => xquo b X i * xnc t b) (xquo b X) k → (∀ i, 2 ≤ i ∧ i ≠ 5 ∧ i ≠ 6 ∧ i ≠ 7 → lr5 i = lr i) → xW G B w1 H → va_S (xA B) s.heap H locs → lv_has ls 4 [(3, .int (nI k)), (1, .long (xJ (xnc t b))), (0, .ref mo)] → W p l ev rmX5_lowest s m [.ref mo].toArray below meth cd H locs 0 0 (MQ below (va_Qv (fun u => ∃ lr2, xML G u mo la ia rq co mn im lr2 ro me wr ∧ lr2 0 = xnT t b ∧ lr2 1 = xnB t b ∧ ∀ i, 2 ≤ i ∧ i ≠ 5 ∧ i ≠ 6 ∧ i ≠ 7 → lr2 i = lr i) (xE G B) (xA B)) [.ref mo].toArray s 0 0 (xA B)) (F0 m 151 ls []) := by
          intro d
          induction d with
          | zero =>
            intro k w1 lr5 ls H locs hk hC e0 e1 hkp hw hS hl
            refine lv_iload_n hx hb dX5_lowest_151 rfl (lv_at hl 0 rfl) ?_
            refine lv_bipush (v := 64) hx hb dX5_lowest_152 (by decide) ?_
            refine xw_ti (y := (nI 64)) (by decide) ?_
            refine lv_icmp_ge (tgt := 199) hx hb dX5_lowest_154 (by decide) (fun _ => ?_) (fun hc => absurd ((nI_leI (by omega) (by omega)).mpr (by omega)) hc)
            exact xw_vret C hw hS (Nat.le_of_ble_eq_true rfl) (Nat.le_of_ble_eq_true rfl) (⟨lr5, hC, by rw [e0, show k = 64 by omega, xmix_e (xsc_sup sA) sA, eX]; rfl, by rw [e1, show k = 64 by omega, xmix_e (xsc_sup sB) sB, eX]; rfl, hkp⟩) dX5_lowest_199
          | succ d ih2 =>
            intro k w1 lr5 ls H locs hk hC e0 e1 hkp hw hS hl
            refine lv_iload_n hx hb dX5_lowest_151 rfl (lv_at hl 0 rfl) ?_
            refine lv_bipush (v := 64) hx hb dX5_lowest_152 (by decide) ?_
            refine xw_ti (y := (nI 64)) (by decide) ?_
            refine lv_icmp_ge (tgt := 199) hx hb dX5_lowest_154 (by decide) (fun hc => absurd hc (fun q => absurd ((nI_leI (by omega) (by omega)).mp q) (by omega))) (fun _ => ?_)
            refine lv_aload_n hx hb dX5_lowest_157 rfl (lv_at hl 2 rfl) ?_
            refine xw_get C hw hC.o (ci := 4) rfl iX5_lowest_X5 6 (by decide) (by decide +kernel) rfl dX5_lowest_158 ?_
            refine lv_iload_n hx hb dX5_lowest_161 rfl (lv_at hl 0 rfl) ?_
            refine lv_aload_n hx hb dX5_lowest_162 rfl (lv_at hl 2 rfl) ?_
            refine xw_get C hw hC.o (ci := 4) rfl iX5_lowest_X5 6 (by decide) (by decide +kernel) rfl dX5_lowest_163 ?_
            refine lv_iload_n hx hb dX5_lowest_166 rfl (lv_at hl 0 rfl) ?_
            refine xw_laldN C hw (hC.r 0 (by decide) e0) (show k < 64 by omega) (by decide) dX5_lowest_167 ?_
            refine xw_tl (y := (xJ (xquo t X k))) (congrArg xJ (xmix_at _ _ _)) ?_
            refine lv_lload_n hx hb dX5_lowest_168 rfl (lv_at hl 1 rfl) ?_
            refine lv_lmul hx hb dX5_lowest_169 ?_
            refine xw_ldc2 C (v := 32003) (by decide +kernel) dX5_lowest_170 ?_
            refine lv_lrem hx hb dX5_lowest_173 (by decide) ?_
            refine xw_tl (y := (xJ (xquo t X k * xnc t b))) (xl_mul _ _) ?_
            refine xw_lastN C hw hS (hC.r 0 (by decide) e0) (show k < 64 by omega) (by decide) dX5_lowest_174 (fun H locs hw hS => ?_)
            rw [xrowJ_up] at hw
            have hC := hC.set (i := 0) (by decide) (show xlc 0 = 64 by decide) (f := va_up (xmix (fun i => xquo t X i * xnc t b) (xquo t X) k) k (xquo t X k * xnc t b)) (xsup_up (hC.rs 0 (by decide) e0) (by omega))
            obtain ⟨lr31, hlr⟩ : ∃ zz9, zz9 = va_up lr5 (0) (va_up (xmix (fun i => xquo t X i * xnc t b) (xquo t X) k) k (xquo t X k * xnc t b)) := ⟨_, rfl⟩
            rw [← hlr] at hC
            have e1 : lr31 1 = xmix (fun i => xquo b X i * xnc t b) (xquo b X) k := (congrFun hlr _).trans ((va_up_ne _ _ (by decide)).trans e1)
            have e0 : lr31 0 = va_up (xmix (fun i => xquo t X i * xnc t b) (xquo t X) k) k (xquo t X k * xnc t b) := (congrFun hlr _).trans (va_up_self _ _ _)
            have hkp : ∀ i, 2 ≤ i ∧ i ≠ 5 ∧ i ≠ 6 ∧ i ≠ 7 → lr31 i = lr i := fun i hi => (congrFun hlr i).trans ((va_up_ne _ _ (by omega)).trans (hkp i hi))
            refine lv_aload_n hx hb dX5_lowest_175 rfl (lv_at hl 2 rfl) ?_
            refine xw_get C hw hC.o (ci := 4) rfl iX5_lowest_X5 7 (by decide) (by decide +kernel) rfl dX5_lowest_176 ?_
            refine lv_iload_n hx hb dX5_lowest_179 rfl (lv_at hl 0 rfl) ?_
            refine lv_aload_n hx hb dX5_lowest_180 rfl (lv_at hl 2 rfl) ?_
            refine xw_get C hw hC.o (ci := 4) rfl iX5_lowest_X5 7 (by decide) (by decide +kernel) rfl dX5_lowest_181 ?_
            refine lv_iload_n hx hb dX5_lowest_184 rfl (lv_at hl 0 rfl) ?_
            refine xw_laldN C hw (hC.r 1 (by decide) e1) (show k < 64 by omega) (by decide) dX5_lowest_185 ?_
            refine xw_tl (y := (xJ (xquo b X k))) (congrArg xJ (xmix_at _ _ _)) ?_
            refine lv_lload_n hx hb dX5_lowest_186 rfl (lv_at hl 1 rfl) ?_
            refine lv_lmul hx hb dX5_lowest_187 ?_
            refine xw_ldc2 C (v := 32003) (by decide +kernel) dX5_lowest_188 ?_
            refine lv_lrem hx hb dX5_lowest_191 (by decide) ?_
            refine xw_tl (y := (xJ (xquo b X k * xnc t b))) (xl_mul _ _) ?_
            refine xw_lastN C hw hS (hC.r 1 (by decide) e1) (show k < 64 by omega) (by decide) dX5_lowest_192 (fun H locs hw hS => ?_)
            rw [xrowJ_up] at hw
            have hC := hC.set (i := 1) (by decide) (show xlc 1 = 64 by decide) (f := va_up (xmix (fun i => xquo b X i * xnc t b) (xquo b X) k) k (xquo b X k * xnc t b)) (xsup_up (hC.rs 1 (by decide) e1) (by omega))
            obtain ⟨lr32, hlr⟩ : ∃ zz9, zz9 = va_up lr31 (1) (va_up (xmix (fun i => xquo b X i * xnc t b) (xquo b X) k) k (xquo b X k * xnc t b)) := ⟨_, rfl⟩
            rw [← hlr] at hC
            have e0 : lr32 0 = va_up (xmix (fun i => xquo t X i * xnc t b) (xquo t X) k) k (xquo t X k * xnc t b) := (congrFun hlr _).trans ((va_up_ne _ _ (by decide)).trans e0)
            have e1 : lr32 1 = va_up (xmix (fun i => xquo b X i * xnc t b) (xquo b X) k) k (xquo b X k * xnc t b) := (congrFun hlr _).trans (va_up_self _ _ _)
            have hkp : ∀ i, 2 ≤ i ∧ i ≠ 5 ∧ i ≠ 6 ∧ i ≠ 7 → lr32 i = lr i := fun i hi => (congrFun hlr i).trans ((va_up_ne _ _ (by omega)).trans (hkp i hi))
            refine lv_iinc (v := (nI (k + 1))) (lv' := [(3, .int (nI (k + 1))), (1, .long (xJ (xnc t b))), (0, .ref mo)]) hx hb dX5_lowest_193 hl (k := 0) rfl (x_inc k) (by decide) rfl (fun ls hl => ?_)
            refine lv_goto (tgt := 151) hx hb dX5_lowest_196 (by decide) ?_
            exact ih2 (k + 1) _ lr32 ls _ _ (by omega) hC (by rw [e0]; exact xmix_s (fun i => xquo t X i * xnc t b) _ k) (by rw [e1]; exact xmix_s (fun i => xquo b X i * xnc t b) _ k) hkp hw hS (lv_sub hl [0, 1, 2] rfl)
        exact inner 64 0 _ lr26 ls _ _ rfl hC (by rw [xmix_0]; exact e0) (by rw [xmix_0]; exact e1) hkp hw hS hl
      · skip
        have hc : xlen Y 64 ≠ 0 := fun q => hc ((x_hi_lt (by omega)).mpr q)
        refine lv_aload_n hx hb dX5_lowest_32 rfl (lv_at hl 0 rfl) ?_
        refine lv_aload_n hx hb dX5_lowest_33 rfl (lv_at hl 0 rfl) ?_
        refine xw_get C hw hC.o (ci := 4) rfl iX5_lowest_X5 11 (by decide) (by decide +kernel) rfl dX5_lowest_34 ?_
        refine lv_aload_n hx hb dX5_lowest_37 rfl (lv_at hl 0 rfl) ?_
        refine xw_get C hw hC.o (ci := 4) rfl iX5_lowest_X5 12 (by decide) (by decide +kernel) rfl dX5_lowest_38 ?_
        refine xw_cv (xw_V (n := 2) (rest := []) C hw (kX5_divide l G B _ mo la ia rq co mn im lrr ro me wr hC 5 6 (by decide) (by decide) (by decide) (by decide) (by decide) X Y e5 e6 hc) gX5_lowest_X5_divide rfl rfl rfl (by decide +kernel) ⟨Nat.le_of_ble_eq_true rfl, Nat.le_of_ble_eq_true rfl⟩ hC.o rfl rfl hl.1 rfl (Nat.le_of_ble_eq_true rfl) dX5_lowest_41 ⟨Nat.le_of_ble_eq_true rfl, Nat.le_of_ble_eq_true rfl⟩ hS) hS (fun u H locs hpp hw hS => ?_)
        rw [hpp] at hw
        have sq := xqr_sup (f := X) (g := Y) (hC.rs 5 (by decide) e5) (hC.rs 6 (by decide) e6) hc
        have hC := hC.set (i := 5) (by decide) (show xlc 5 = 64 by decide) (f := xrem X Y) (sq.1)
        obtain ⟨lr41, hlr⟩ : ∃ zz9, zz9 = va_up lrr (5) (xrem X Y) := ⟨_, rfl⟩
        rw [← hlr] at hC
        have et : lr41 0 = t := (congrFun hlr _).trans ((va_up_ne _ _ (by decide)).trans et)
        have eb : lr41 1 = b := (congrFun hlr _).trans ((va_up_ne _ _ (by decide)).trans eb)
        have e6 : lr41 6 = Y := (congrFun hlr _).trans ((va_up_ne _ _ (by decide)).trans e6)
        have e5 : lr41 5 = xrem X Y := (congrFun hlr _).trans (va_up_self _ _ _)
        have hkp : ∀ i, 2 ≤ i ∧ i ≠ 5 ∧ i ≠ 6 ∧ i ≠ 7 → lr41 i = lr i := fun i hi => (congrFun hlr i).trans ((va_up_ne _ _ (by omega)).trans (hkp i hi))
        have hC := hC.set (i := 7) (by decide) (show xlc 7 = 64 by decide) (f := xquo X Y) (sq.2)
        obtain ⟨lr42, hlr⟩ : ∃ zz9, zz9 = va_up lr41 (7) (xquo X Y) := ⟨_, rfl⟩
        rw [← hlr] at hC
        have et : lr42 0 = t := (congrFun hlr _).trans ((va_up_ne _ _ (by decide)).trans et)
        have eb : lr42 1 = b := (congrFun hlr _).trans ((va_up_ne _ _ (by decide)).trans eb)
        have e6 : lr42 6 = Y := (congrFun hlr _).trans ((va_up_ne _ _ (by decide)).trans e6)
        have e5 : lr42 5 = xrem X Y := (congrFun hlr _).trans ((va_up_ne _ _ (by decide)).trans e5)
        have e7 : lr42 7 = xquo X Y := (congrFun hlr _).trans (va_up_self _ _ _)
        have hkp : ∀ i, 2 ≤ i ∧ i ≠ 5 ∧ i ≠ 6 ∧ i ≠ 7 → lr42 i = lr i := fun i hi => (congrFun hlr i).trans ((va_up_ne _ _ (by omega)).trans (hkp i hi))
        refine lv_iconst (v := 0) hx hb dX5_lowest_44 (by decide) ?_
        refine xw_ti (y := (nI 0)) (nI_0.symm) ?_
        refine lv_istore_n (lv' := [(1, .int (nI 0)), (0, .ref mo)]) hx hb dX5_lowest_45 rfl hl (by decide) rfl (fun ls hl => ?_)
        have sR : xsup (xrem X Y) 64 := hC.rs 5 (by decide) e5
        have swap : ∀ (d2 k : Nat) (w1 : xM) (lr5 : Nat → xP) (ls : Array Slot) (H : Heap) (locs : List Loc), k + d2 = 64 → xML G w1 mo la ia rq co mn im lr5 ro me wr → lr5 0 = t → lr5 1 = b → lr5 5 = xmix Y (xrem X Y) k → lr5 6 = xmix (xrem X Y) Y k → (∀ i, 2 ≤ i ∧ i ≠ 5 ∧ i ≠ 6 ∧ i ≠ 7 → lr5 i = lr i) → xW G B w1 H → va_S (xA B) s.heap H locs → lv_has ls 4 [(1, .int (nI k)), (0, .ref mo)] → W p l ev rmX5_lowest s m [.ref mo].toArray below meth cd H locs 0 0 (MQ below (va_Qv (fun u => ∃ lr2, xML G u mo la ia rq co mn im lr2 ro me wr ∧ lr2 0 = xnT t b ∧ lr2 1 = xnB t b ∧ ∀ i, 2 ≤ i ∧ i ≠ 5 ∧ i ≠ 6 ∧ i ≠ 7 → lr2 i = lr i) (xE G B) (xA B)) [.ref mo].toArray s 0 0 (xA B)) (F0 m 46 ls []) := by
          intro d2
          induction d2 with
          | zero =>
            intro k w1 lr5 ls H locs hk hC et eb e5 e6 hkp hw hS hl
            refine lv_iload_n hx hb dX5_lowest_46 rfl (lv_at hl 0 rfl) ?_
            refine lv_bipush (v := 64) hx hb dX5_lowest_47 (by decide) ?_
            refine xw_ti (y := (nI 64)) (by decide) ?_
            refine lv_icmp_ge (tgt := 84) hx hb dX5_lowest_49 (by decide) (fun _ => ?_) (fun hc => absurd ((nI_leI (by omega) (by omega)).mpr (by omega)) hc)
            refine lv_goto (tgt := 22) hx hb dX5_lowest_84 (by decide) ?_
            exact ih w1 lr5 Y (xrem X Y) ls _ _ hC et eb (by rw [e5, show k = 64 by omega, xmix_e sY sR]) (by rw [e6, show k = 64 by omega, xmix_e sR sY]) hkp (by have := xrem_lt sX sY hc; omega) (by rw [← he, xgcd_s _ hc]) hw hS (lv_sub hl [1] rfl)
          | succ d2 ih2 =>
            intro k w1 lr5 ls H locs hk hC et eb e5 e6 hkp hw hS hl
            refine lv_iload_n hx hb dX5_lowest_46 rfl (lv_at hl 0 rfl) ?_
            refine lv_bipush (v := 64) hx hb dX5_lowest_47 (by decide) ?_
            refine xw_ti (y := (nI 64)) (by decide) ?_
            refine lv_icmp_ge (tgt := 84) hx hb dX5_lowest_49 (by decide) (fun hc => absurd hc (fun q => absurd ((nI_leI (by omega) (by omega)).mp q) (by omega))) (fun _ => ?_)
            refine lv_aload_n hx hb dX5_lowest_52 rfl (lv_at hl 1 rfl) ?_
            refine xw_get C hw hC.o (ci := 4) rfl iX5_lowest_X5 11 (by decide) (by decide +kernel) rfl dX5_lowest_53 ?_
            refine lv_iload_n hx hb dX5_lowest_56 rfl (lv_at hl 0 rfl) ?_
            refine xw_laldN C hw (hC.r 5 (by decide) e5) (show k < 64 by omega) (by decide) dX5_lowest_57 ?_
            refine xw_tl (y := (xJ (xrem X Y k))) (congrArg xJ (xmix_at _ _ _)) ?_
            refine lv_lstore_n (lv' := [(2, .long (xJ (xrem X Y k))), (1, .int (nI k)), (0, .ref mo)]) hx hb dX5_lowest_58 rfl hl (by decide) rfl (fun ls hl => ?_)
            refine lv_aload_n hx hb dX5_lowest_59 rfl (lv_at hl 2 rfl) ?_
            refine xw_get C hw hC.o (ci := 4) rfl iX5_lowest_X5 11 (by decide) (by decide +kernel) rfl dX5_lowest_60 ?_
            refine lv_iload_n hx hb dX5_lowest_63 rfl (lv_at hl 1 rfl) ?_
            refine lv_aload_n hx hb dX5_lowest_64 rfl (lv_at hl 2 rfl) ?_
            refine xw_get C hw hC.o (ci := 4) rfl iX5_lowest_X5 12 (by decide) (by decide +kernel) rfl dX5_lowest_65 ?_
            refine lv_iload_n hx hb dX5_lowest_68 rfl (lv_at hl 1 rfl) ?_
            refine xw_laldN C hw (hC.r 6 (by decide) e6) (show k < 64 by omega) (by decide) dX5_lowest_69 ?_
            refine xw_tl (y := (xJ (Y k))) (congrArg xJ (xmix_at _ _ _)) ?_
            refine xw_lastN C hw hS (hC.r 5 (by decide) e5) (show k < 64 by omega) (by decide) dX5_lowest_70 (fun H locs hw hS => ?_)
            rw [xrowJ_up] at hw
            have hC := hC.set (i := 5) (by decide) (show xlc 5 = 64 by decide) (f := va_up (xmix Y (xrem X Y) k) k (Y k)) (xsup_up (hC.rs 5 (by decide) e5) (by omega))
            obtain ⟨lr51, hlr⟩ : ∃ zz9, zz9 = va_up lr5 (5) (va_up (xmix Y (xrem X Y) k) k (Y k)) := ⟨_, rfl⟩
            rw [← hlr] at hC
            have et : lr51 0 = t := (congrFun hlr _).trans ((va_up_ne _ _ (by decide)).trans et)
            have eb : lr51 1 = b := (congrFun hlr _).trans ((va_up_ne _ _ (by decide)).trans eb)
            have e6 : lr51 6 = xmix (xrem X Y) Y k := (congrFun hlr _).trans ((va_up_ne _ _ (by decide)).trans e6)
            have e5 : lr51 5 = va_up (xmix Y (xrem X Y) k) k (Y k) := (congrFun hlr _).trans (va_up_self _ _ _)
            have hkp : ∀ i, 2 ≤ i ∧ i ≠ 5 ∧ i ≠ 6 ∧ i ≠ 7 → lr51 i = lr i := fun i hi => (congrFun hlr i).trans ((va_up_ne _ _ (by omega)).trans (hkp i hi))
            refine lv_aload_n hx hb dX5_lowest_71 rfl (lv_at hl 2 rfl) ?_
            refine xw_get C hw hC.o (ci := 4) rfl iX5_lowest_X5 12 (by decide) (by decide +kernel) rfl dX5_lowest_72 ?_
            refine lv_iload_n hx hb dX5_lowest_75 rfl (lv_at hl 1 rfl) ?_
            refine lv_lload_n hx hb dX5_lowest_76 rfl (lv_at hl 0 rfl) ?_
            refine xw_lastN C hw hS (hC.r 6 (by decide) e6) (show k < 64 by omega) (by decide) dX5_lowest_77 (fun H locs hw hS => ?_)
            rw [xrowJ_up] at hw
            have hC := hC.set (i := 6) (by decide) (show xlc 6 = 64 by decide) (f := va_up (xmix (xrem X Y) Y k) k (xrem X Y k)) (xsup_up (hC.rs 6 (by decide) e6) (by omega))
            obtain ⟨lr52, hlr⟩ : ∃ zz9, zz9 = va_up lr51 (6) (va_up (xmix (xrem X Y) Y k) k (xrem X Y k)) := ⟨_, rfl⟩
            rw [← hlr] at hC
            have et : lr52 0 = t := (congrFun hlr _).trans ((va_up_ne _ _ (by decide)).trans et)
            have eb : lr52 1 = b := (congrFun hlr _).trans ((va_up_ne _ _ (by decide)).trans eb)
            have e5 : lr52 5 = va_up (xmix Y (xrem X Y) k) k (Y k) := (congrFun hlr _).trans ((va_up_ne _ _ (by decide)).trans e5)
            have e6 : lr52 6 = va_up (xmix (xrem X Y) Y k) k (xrem X Y k) := (congrFun hlr _).trans (va_up_self _ _ _)
            have hkp : ∀ i, 2 ≤ i ∧ i ≠ 5 ∧ i ≠ 6 ∧ i ≠ 7 → lr52 i = lr i := fun i hi => (congrFun hlr i).trans ((va_up_ne _ _ (by omega)).trans (hkp i hi))
            refine lv_iinc (v := (nI (k + 1))) (lv' := [(1, .int (nI (k + 1))), (2, .long (xJ (xrem X Y k))), (0, .ref mo)]) hx hb dX5_lowest_78 hl (k := 1) rfl (x_inc k) (by decide) rfl (fun ls hl => ?_)
            refine lv_goto (tgt := 46) hx hb dX5_lowest_81 (by decide) ?_
            exact ih2 (k + 1) _ lr52 ls _ _ (by omega) hC et eb (by rw [e5, xmix_s]) (by rw [e6, xmix_s]) hkp hw hS (lv_sub hl [0, 2] rfl)
        exact swap 64 0 _ lr42 ls _ _ rfl hC et eb (by rw [xmix_0]; exact e5) (by rw [xmix_0]; exact e6) hkp hw hS hl
  exact loop 65 _ lr2 t b ls _ _ hC et eb e5 e6 hkp (by have := xlen_le b 64; omega) rfl hw hS hl
