/-! ===== the reference: fill (laid by wip/whole/m_modn.py) ===== -/
/-- the reference's columns and target -/
def xMcol (rb A Bq Q : xP) (k : Nat) : xP := xsb (xmul (xmM 63 (va_up (fun _ => 0) k 1)) (xmul (xmul A Q) rb)) (xmul (va_up (fun _ => 0) k 1) (xmul (xmul Bq (xmM 63 Q)) rb))
def xMtgt (rt Bq Q : xP) : xP := xmul (xmul Bq (xmM 63 Q)) (xmul rt Q)
abbrev rmX5_fill : Room := { frames := 2, cells := 0, slots := 0, locals := 46 }
theorem iX5_fill_X5 : ∀ w ∈ wsX50, w ∈ wsX5_fill := by decide +kernel
set_option maxHeartbeats 4000000 in
set_option maxRecDepth 100000 in
theorem kX5_fill (l : Launch) (G : xG) (B : Nat) (w : xM) (mo : Nat) (la ia : Nat → Nat) (rq : Nat) (co : Int32) (mn : Nat) (im lr : Nat → xP) (ro : Nat → Option Nat) (me : Int32) (wr : xM) (hC : xML G w mo la ia rq co mn im lr ro me wr) (kr kq : Nat) (hkr : kr < mn) (hkq : kq < mn) : Met l yX5_fill wsX5_fill rmX5_fill (va_Pc [.ref mo, .int (nI kr), .int (nI kq)] (xB G B w)) (va_Qv (fun u => ∃ lr2 M, xML G u mo la ia rq co mn im lr2 ro me wr ∧ lr2 11 = xfl M ∧ (∀ k, k < 9 → ∀ i, i < 64 → M i k = xMcol (xBm im kr) (im 2) (im 3) (xTm im kq) k i) ∧ ∀ i, i < 64 → M i 9 = xMtgt (xTm im kr) (im 3) (xTm im kq) i) (xE G B) (xA B)) 0 0 (xA B) := by
  refine xw_start (own := RX5) (mn := "fill") (cc := cX5_fill) (nL := 5) (rt := none) (by decide) rfl rfl rfl (Nat.le_of_ble_eq_true rfl) ?_
  intro p ev s m below meth cd ls C hl hw hS
  obtain ⟨hx, hb, -, -, -, hts, -, -, -, -⟩ := id C
  have hl : lv_has ls 5 [(0, .ref mo), (1, .int (nI kr)), (2, .int (nI kq))] := hl
  have sr2 : xsup (im 2) 4 := (hC.2.1 2 (by decide)).2
  have sr3 : xsup (im 3) 4 := (hC.2.1 3 (by decide)).2
  have sQ : xsup (xTm im kq) 21 := xld_sup _ _ (Nat.le_refl _)
  have sRB : xsup (xBm im kr) 21 := xld_sup _ _ (Nat.le_refl _)
  have sRT : xsup (xTm im kr) 21 := xld_sup _ _ (Nat.le_refl _)
  have sMQ := xmM_sup2 sQ 63
  have sAQ := xmul_sup sr2 sQ
  have sBM := xmul_sup sr3 sMQ
  have sD := xmul_sup sAQ sRB
  have sQ3 := xmul_sup sBM sRB
  refine lv_aload_n hx hb dX5_fill_0 rfl (lv_at hl 0 rfl) ?_
  refine lv_aload_n hx hb dX5_fill_1 rfl (lv_at hl 0 rfl) ?_
  refine xw_get C hw hC.o (ci := 4) rfl iX5_fill_X5 16 (by decide) (by decide +kernel) rfl dX5_fill_2 ?_
  refine lv_iload_n hx hb dX5_fill_5 rfl (lv_at hl 2 rfl) ?_
  refine xw_cv (xw_V (n := 2) (rest := []) C hw (kX5_loadTop l G B _ mo la ia rq co mn im lr ro me wr hC 8 (by decide) (lr 8) rfl kq hkq) gX5_fill_X5_loadTop rfl rfl rfl (by decide +kernel) ⟨Nat.le_of_ble_eq_true rfl, Nat.le_of_ble_eq_true rfl⟩ hC.o rfl rfl hl.1 rfl (Nat.le_of_ble_eq_true rfl) dX5_fill_6 ⟨Nat.le_of_ble_eq_true rfl, Nat.le_of_ble_eq_true rfl⟩ hS) hS (fun u H locs hpp hw hS => ?_)
  rw [hpp] at hw
  have hC := hC.set (i := 8) (by decide) (show xlc 8 = 64 by decide) (f := xTm im kq) (xld_sup _ _ (by decide))
  obtain ⟨lr1, hlr⟩ : ∃ zz9, zz9 = va_up lr (8) (xTm im kq) := ⟨_, rfl⟩
  rw [← hlr] at hC
  have e8 : lr1 8 = xTm im kq := (congrFun hlr _).trans (va_up_self _ _ _)
  refine lv_aload_n hx hb dX5_fill_9 rfl (lv_at hl 0 rfl) ?_
  refine xw_get C hw hC.o (ci := 4) rfl iX5_fill_X5 17 (by decide) (by decide +kernel) rfl dX5_fill_10 ?_
  refine lv_aload_n hx hb dX5_fill_13 rfl (lv_at hl 0 rfl) ?_
  refine xw_get C hw hC.o (ci := 4) rfl iX5_fill_X5 16 (by decide) (by decide +kernel) rfl dX5_fill_14 ?_
  refine xw_cv (xw_S (n := 2) (rest := []) C hw (kX5_copy l G B _ (la 9) (la 8) (lr1 9) (xTm im kq) (hC.r 9 (by decide) rfl) (hC.r 8 (by decide) e8) (hC.ln (by decide) (by decide) (by decide)) (hC.rs 9 (by decide) rfl) (hC.rs 8 (by decide) e8)) gX5_fill_X5_copy rfl rfl rfl (by decide +kernel) ⟨Nat.le_of_ble_eq_true rfl, Nat.le_of_ble_eq_true rfl⟩ rfl hl.1 rfl (Nat.le_of_ble_eq_true rfl) dX5_fill_17 ⟨Nat.le_of_ble_eq_true rfl, Nat.le_of_ble_eq_true rfl⟩ hS) hS (fun u H locs hpp hw hS => ?_)
  rw [hpp] at hw
  have hC := hC.set (i := 9) (by decide) (show xlc 9 = 64 by decide) (f := xTm im kq) ((hC.rs 8 (by decide) e8))
  obtain ⟨lr2, hlr⟩ : ∃ zz9, zz9 = va_up lr1 (9) (xTm im kq) := ⟨_, rfl⟩
  rw [← hlr] at hC
  have e8 : lr2 8 = xTm im kq := (congrFun hlr _).trans ((va_up_ne _ _ (by decide)).trans e8)
  have e9 : lr2 9 = xTm im kq := (congrFun hlr _).trans (va_up_self _ _ _)
  refine lv_aload_n hx hb dX5_fill_20 rfl (lv_at hl 0 rfl) ?_
  refine xw_get C hw hC.o (ci := 4) rfl iX5_fill_X5 17 (by decide) (by decide +kernel) rfl dX5_fill_21 ?_
  refine xw_cv (xw_S (n := 1) (rest := []) C hw (kX5_move l G B _ (la 9) (xTm im kq) (hC.r 9 (by decide) e9) (hC.rs 9 (by decide) e9)) gX5_fill_X5_move rfl rfl rfl (by decide +kernel) ⟨Nat.le_of_ble_eq_true rfl, Nat.le_of_ble_eq_true rfl⟩ rfl hl.1 rfl (Nat.le_of_ble_eq_true rfl) dX5_fill_24 ⟨Nat.le_of_ble_eq_true rfl, Nat.le_of_ble_eq_true rfl⟩ hS) hS (fun u H locs hpp hw hS => ?_)
  rw [hpp] at hw
  have hC := hC.set (i := 9) (by decide) (show xlc 9 = 64 by decide) (f := xmM 63 (xTm im kq)) (xmM_sup (hC.rs 9 (by decide) e9) 63)
  obtain ⟨lr3, hlr⟩ : ∃ zz9, zz9 = va_up lr2 (9) (xmM 63 (xTm im kq)) := ⟨_, rfl⟩
  rw [← hlr] at hC
  have e8 : lr3 8 = xTm im kq := (congrFun hlr _).trans ((va_up_ne _ _ (by decide)).trans e8)
  have e9 : lr3 9 = xmM 63 (xTm im kq) := (congrFun hlr _).trans (va_up_self _ _ _)
  refine lv_aload_n hx hb dX5_fill_27 rfl (lv_at hl 0 rfl) ?_
  refine xw_get C hw hC.o (ci := 4) rfl iX5_fill_X5 8 (by decide) (by decide +kernel) rfl dX5_fill_28 ?_
  refine lv_aload_n hx hb dX5_fill_31 rfl (lv_at hl 0 rfl) ?_
  refine xw_get C hw hC.o (ci := 4) rfl iX5_fill_X5 4 (by decide) (by decide +kernel) rfl dX5_fill_32 ?_
  refine lv_iconst (v := 0) hx hb dX5_fill_35 (by decide) ?_
  refine xw_ti (y := (nI 0)) (nI_0.symm) ?_
  refine lv_iconst (v := 4) hx hb dX5_fill_36 (by decide) ?_
  refine xw_ti (y := (nI 4)) (by decide) ?_
  refine xw_cv (xw_S (n := 4) (rest := []) C hw (kX5_load l G B _ (la 2) (ia 2) (lr3 2) (im 2) 4 0 4 (hC.r 2 (by decide) rfl) (hC.i 2 (by decide) rfl) (hC.rs 2 (by decide) rfl) (by decide) (by decide) (by decide)) gX5_fill_X5_load rfl rfl rfl (by decide +kernel) ⟨Nat.le_of_ble_eq_true rfl, Nat.le_of_ble_eq_true rfl⟩ rfl hl.1 rfl (Nat.le_of_ble_eq_true rfl) dX5_fill_37 ⟨Nat.le_of_ble_eq_true rfl, Nat.le_of_ble_eq_true rfl⟩ hS) hS (fun u H locs hpp hw hS => ?_)
  rw [hpp] at hw
  rw [xld_id sr2] at hw
  have hC := hC.set (i := 2) (by decide) (show xlc 2 = 64 by decide) (f := im 2) (xsup_mono sr2 (by decide))
  obtain ⟨lr4, hlr⟩ : ∃ zz9, zz9 = va_up lr3 (2) (im 2) := ⟨_, rfl⟩
  rw [← hlr] at hC
  have e8 : lr4 8 = xTm im kq := (congrFun hlr _).trans ((va_up_ne _ _ (by decide)).trans e8)
  have e9 : lr4 9 = xmM 63 (xTm im kq) := (congrFun hlr _).trans ((va_up_ne _ _ (by decide)).trans e9)
  have e2 : lr4 2 = im 2 := (congrFun hlr _).trans (va_up_self _ _ _)
  refine lv_aload_n hx hb dX5_fill_40 rfl (lv_at hl 0 rfl) ?_
  refine lv_aload_n hx hb dX5_fill_41 rfl (lv_at hl 0 rfl) ?_
  refine xw_get C hw hC.o (ci := 4) rfl iX5_fill_X5 8 (by decide) (by decide +kernel) rfl dX5_fill_42 ?_
  refine lv_aload_n hx hb dX5_fill_45 rfl (lv_at hl 0 rfl) ?_
  refine xw_get C hw hC.o (ci := 4) rfl iX5_fill_X5 16 (by decide) (by decide +kernel) rfl dX5_fill_46 ?_
  refine xw_cv (xw_V (n := 2) (rest := []) C hw (kX5_multiply l G B _ mo la ia rq co mn im lr4 ro me wr hC 2 8 (by decide) (by decide) (by decide) (by decide) (im 2) (xTm im kq) e2 e8 (Nat.le_trans (Nat.add_le_add (xlen_sle sr2) (xlen_sle sQ)) (by decide))) gX5_fill_X5_multiply rfl rfl rfl (by decide +kernel) ⟨Nat.le_of_ble_eq_true rfl, Nat.le_of_ble_eq_true rfl⟩ hC.o rfl rfl hl.1 rfl (Nat.le_of_ble_eq_true rfl) dX5_fill_49 ⟨Nat.le_of_ble_eq_true rfl, Nat.le_of_ble_eq_true rfl⟩ hS) hS (fun u H locs hpp hw hS => ?_)
  rw [hpp] at hw
  have hC := hC.set (i := 5) (by decide) (show xlc 5 = 64 by decide) (f := xmul (im 2) (xTm im kq)) (xmul_s64 (hC.rs 2 (by decide) e2) (hC.rs 8 (by decide) e8) (Nat.le_trans (Nat.add_le_add (xlen_sle sr2) (xlen_sle sQ)) (by decide)))
  obtain ⟨lr5, hlr⟩ : ∃ zz9, zz9 = va_up lr4 (5) (xmul (im 2) (xTm im kq)) := ⟨_, rfl⟩
  rw [← hlr] at hC
  have e8 : lr5 8 = xTm im kq := (congrFun hlr _).trans ((va_up_ne _ _ (by decide)).trans e8)
  have e9 : lr5 9 = xmM 63 (xTm im kq) := (congrFun hlr _).trans ((va_up_ne _ _ (by decide)).trans e9)
  have e2 : lr5 2 = im 2 := (congrFun hlr _).trans ((va_up_ne _ _ (by decide)).trans e2)
  have e5 : lr5 5 = xmul (im 2) (xTm im kq) := (congrFun hlr _).trans (va_up_self _ _ _)
  refine lv_aload_n hx hb dX5_fill_52 rfl (lv_at hl 0 rfl) ?_
  refine xw_get C hw hC.o (ci := 4) rfl iX5_fill_X5 9 (by decide) (by decide +kernel) rfl dX5_fill_53 ?_
  refine lv_aload_n hx hb dX5_fill_56 rfl (lv_at hl 0 rfl) ?_
  refine xw_get C hw hC.o (ci := 4) rfl iX5_fill_X5 11 (by decide) (by decide +kernel) rfl dX5_fill_57 ?_
  refine xw_cv (xw_S (n := 2) (rest := []) C hw (kX5_copy l G B _ (la 3) (la 5) (lr5 3) (xmul (im 2) (xTm im kq)) (hC.r 3 (by decide) rfl) (hC.r 5 (by decide) e5) (hC.ln (by decide) (by decide) (by decide)) (hC.rs 3 (by decide) rfl) (hC.rs 5 (by decide) e5)) gX5_fill_X5_copy rfl rfl rfl (by decide +kernel) ⟨Nat.le_of_ble_eq_true rfl, Nat.le_of_ble_eq_true rfl⟩ rfl hl.1 rfl (Nat.le_of_ble_eq_true rfl) dX5_fill_60 ⟨Nat.le_of_ble_eq_true rfl, Nat.le_of_ble_eq_true rfl⟩ hS) hS (fun u H locs hpp hw hS => ?_)
  rw [hpp] at hw
  have hC := hC.set (i := 3) (by decide) (show xlc 3 = 64 by decide) (f := xmul (im 2) (xTm im kq)) ((hC.rs 5 (by decide) e5))
  obtain ⟨lr6, hlr⟩ : ∃ zz9, zz9 = va_up lr5 (3) (xmul (im 2) (xTm im kq)) := ⟨_, rfl⟩
  rw [← hlr] at hC
  have e8 : lr6 8 = xTm im kq := (congrFun hlr _).trans ((va_up_ne _ _ (by decide)).trans e8)
  have e9 : lr6 9 = xmM 63 (xTm im kq) := (congrFun hlr _).trans ((va_up_ne _ _ (by decide)).trans e9)
  have e2 : lr6 2 = im 2 := (congrFun hlr _).trans ((va_up_ne _ _ (by decide)).trans e2)
  have e5 : lr6 5 = xmul (im 2) (xTm im kq) := (congrFun hlr _).trans ((va_up_ne _ _ (by decide)).trans e5)
  have e3 : lr6 3 = xmul (im 2) (xTm im kq) := (congrFun hlr _).trans (va_up_self _ _ _)
  refine lv_aload_n hx hb dX5_fill_63 rfl (lv_at hl 0 rfl) ?_
  refine xw_get C hw hC.o (ci := 4) rfl iX5_fill_X5 8 (by decide) (by decide +kernel) rfl dX5_fill_64 ?_
  refine lv_aload_n hx hb dX5_fill_67 rfl (lv_at hl 0 rfl) ?_
  refine xw_get C hw hC.o (ci := 4) rfl iX5_fill_X5 5 (by decide) (by decide +kernel) rfl dX5_fill_68 ?_
  refine lv_iconst (v := 0) hx hb dX5_fill_71 (by decide) ?_
  refine xw_ti (y := (nI 0)) (nI_0.symm) ?_
  refine lv_iconst (v := 4) hx hb dX5_fill_72 (by decide) ?_
  refine xw_ti (y := (nI 4)) (by decide) ?_
  refine xw_cv (xw_S (n := 4) (rest := []) C hw (kX5_load l G B _ (la 2) (ia 3) (im 2) (im 3) 4 0 4 (hC.r 2 (by decide) e2) (hC.i 3 (by decide) rfl) (hC.rs 2 (by decide) e2) (by decide) (by decide) (by decide)) gX5_fill_X5_load rfl rfl rfl (by decide +kernel) ⟨Nat.le_of_ble_eq_true rfl, Nat.le_of_ble_eq_true rfl⟩ rfl hl.1 rfl (Nat.le_of_ble_eq_true rfl) dX5_fill_73 ⟨Nat.le_of_ble_eq_true rfl, Nat.le_of_ble_eq_true rfl⟩ hS) hS (fun u H locs hpp hw hS => ?_)
  rw [hpp] at hw
  rw [xld_id sr3] at hw
  have hC := hC.set (i := 2) (by decide) (show xlc 2 = 64 by decide) (f := im 3) (xsup_mono sr3 (by decide))
  obtain ⟨lr7, hlr⟩ : ∃ zz9, zz9 = va_up lr6 (2) (im 3) := ⟨_, rfl⟩
  rw [← hlr] at hC
  have e8 : lr7 8 = xTm im kq := (congrFun hlr _).trans ((va_up_ne _ _ (by decide)).trans e8)
  have e9 : lr7 9 = xmM 63 (xTm im kq) := (congrFun hlr _).trans ((va_up_ne _ _ (by decide)).trans e9)
  have e5 : lr7 5 = xmul (im 2) (xTm im kq) := (congrFun hlr _).trans ((va_up_ne _ _ (by decide)).trans e5)
  have e3 : lr7 3 = xmul (im 2) (xTm im kq) := (congrFun hlr _).trans ((va_up_ne _ _ (by decide)).trans e3)
  have e2 : lr7 2 = im 3 := (congrFun hlr _).trans (va_up_self _ _ _)
  refine lv_aload_n hx hb dX5_fill_76 rfl (lv_at hl 0 rfl) ?_
  refine lv_aload_n hx hb dX5_fill_77 rfl (lv_at hl 0 rfl) ?_
  refine xw_get C hw hC.o (ci := 4) rfl iX5_fill_X5 8 (by decide) (by decide +kernel) rfl dX5_fill_78 ?_
  refine lv_aload_n hx hb dX5_fill_81 rfl (lv_at hl 0 rfl) ?_
  refine xw_get C hw hC.o (ci := 4) rfl iX5_fill_X5 17 (by decide) (by decide +kernel) rfl dX5_fill_82 ?_
  refine xw_cv (xw_V (n := 2) (rest := []) C hw (kX5_multiply l G B _ mo la ia rq co mn im lr7 ro me wr hC 2 9 (by decide) (by decide) (by decide) (by decide) (im 3) (xmM 63 (xTm im kq)) e2 e9 (Nat.le_trans (Nat.add_le_add (xlen_sle sr3) (xlen_sle sMQ)) (by decide))) gX5_fill_X5_multiply rfl rfl rfl (by decide +kernel) ⟨Nat.le_of_ble_eq_true rfl, Nat.le_of_ble_eq_true rfl⟩ hC.o rfl rfl hl.1 rfl (Nat.le_of_ble_eq_true rfl) dX5_fill_85 ⟨Nat.le_of_ble_eq_true rfl, Nat.le_of_ble_eq_true rfl⟩ hS) hS (fun u H locs hpp hw hS => ?_)
  rw [hpp] at hw
  have hC := hC.set (i := 5) (by decide) (show xlc 5 = 64 by decide) (f := xmul (im 3) (xmM 63 (xTm im kq))) (xmul_s64 (hC.rs 2 (by decide) e2) (hC.rs 9 (by decide) e9) (Nat.le_trans (Nat.add_le_add (xlen_sle sr3) (xlen_sle sMQ)) (by decide)))
  obtain ⟨lr8, hlr⟩ : ∃ zz9, zz9 = va_up lr7 (5) (xmul (im 3) (xmM 63 (xTm im kq))) := ⟨_, rfl⟩
  rw [← hlr] at hC
  have e8 : lr8 8 = xTm im kq := (congrFun hlr _).trans ((va_up_ne _ _ (by decide)).trans e8)
  have e9 : lr8 9 = xmM 63 (xTm im kq) := (congrFun hlr _).trans ((va_up_ne _ _ (by decide)).trans e9)
  have e3 : lr8 3 = xmul (im 2) (xTm im kq) := (congrFun hlr _).trans ((va_up_ne _ _ (by decide)).trans e3)
  have e2 : lr8 2 = im 3 := (congrFun hlr _).trans ((va_up_ne _ _ (by decide)).trans e2)
  have e5 : lr8 5 = xmul (im 3) (xmM 63 (xTm im kq)) := (congrFun hlr _).trans (va_up_self _ _ _)
  refine lv_aload_n hx hb dX5_fill_88 rfl (lv_at hl 0 rfl) ?_
  refine xw_get C hw hC.o (ci := 4) rfl iX5_fill_X5 10 (by decide) (by decide +kernel) rfl dX5_fill_89 ?_
  refine lv_aload_n hx hb dX5_fill_92 rfl (lv_at hl 0 rfl) ?_
  refine xw_get C hw hC.o (ci := 4) rfl iX5_fill_X5 11 (by decide) (by decide +kernel) rfl dX5_fill_93 ?_
  refine xw_cv (xw_S (n := 2) (rest := []) C hw (kX5_copy l G B _ (la 4) (la 5) (lr8 4) (xmul (im 3) (xmM 63 (xTm im kq))) (hC.r 4 (by decide) rfl) (hC.r 5 (by decide) e5) (hC.ln (by decide) (by decide) (by decide)) (hC.rs 4 (by decide) rfl) (hC.rs 5 (by decide) e5)) gX5_fill_X5_copy rfl rfl rfl (by decide +kernel) ⟨Nat.le_of_ble_eq_true rfl, Nat.le_of_ble_eq_true rfl⟩ rfl hl.1 rfl (Nat.le_of_ble_eq_true rfl) dX5_fill_96 ⟨Nat.le_of_ble_eq_true rfl, Nat.le_of_ble_eq_true rfl⟩ hS) hS (fun u H locs hpp hw hS => ?_)
  rw [hpp] at hw
  have hC := hC.set (i := 4) (by decide) (show xlc 4 = 64 by decide) (f := xmul (im 3) (xmM 63 (xTm im kq))) ((hC.rs 5 (by decide) e5))
  obtain ⟨lr9, hlr⟩ : ∃ zz9, zz9 = va_up lr8 (4) (xmul (im 3) (xmM 63 (xTm im kq))) := ⟨_, rfl⟩
  rw [← hlr] at hC
  have e8 : lr9 8 = xTm im kq := (congrFun hlr _).trans ((va_up_ne _ _ (by decide)).trans e8)
  have e9 : lr9 9 = xmM 63 (xTm im kq) := (congrFun hlr _).trans ((va_up_ne _ _ (by decide)).trans e9)
  have e3 : lr9 3 = xmul (im 2) (xTm im kq) := (congrFun hlr _).trans ((va_up_ne _ _ (by decide)).trans e3)
  have e2 : lr9 2 = im 3 := (congrFun hlr _).trans ((va_up_ne _ _ (by decide)).trans e2)
  have e5 : lr9 5 = xmul (im 3) (xmM 63 (xTm im kq)) := (congrFun hlr _).trans ((va_up_ne _ _ (by decide)).trans e5)
  have e4 : lr9 4 = xmul (im 3) (xmM 63 (xTm im kq)) := (congrFun hlr _).trans (va_up_self _ _ _)
  refine lv_aload_n hx hb dX5_fill_99 rfl (lv_at hl 0 rfl) ?_
  refine lv_aload_n hx hb dX5_fill_100 rfl (lv_at hl 0 rfl) ?_
  refine xw_get C hw hC.o (ci := 4) rfl iX5_fill_X5 8 (by decide) (by decide +kernel) rfl dX5_fill_101 ?_
  refine lv_iload_n hx hb dX5_fill_104 rfl (lv_at hl 1 rfl) ?_
  refine xw_cv (xw_V (n := 2) (rest := []) C hw (kX5_loadBottom l G B _ mo la ia rq co mn im lr9 ro me wr hC 2 (by decide) (im 3) e2 kr hkr) gX5_fill_X5_loadBottom rfl rfl rfl (by decide +kernel) ⟨Nat.le_of_ble_eq_true rfl, Nat.le_of_ble_eq_true rfl⟩ hC.o rfl rfl hl.1 rfl (Nat.le_of_ble_eq_true rfl) dX5_fill_105 ⟨Nat.le_of_ble_eq_true rfl, Nat.le_of_ble_eq_true rfl⟩ hS) hS (fun u H locs hpp hw hS => ?_)
  rw [hpp] at hw
  have hC := hC.set (i := 2) (by decide) (show xlc 2 = 64 by decide) (f := xBm im kr) (xld_sup _ _ (by decide))
  obtain ⟨lr10, hlr⟩ : ∃ zz9, zz9 = va_up lr9 (2) (xBm im kr) := ⟨_, rfl⟩
  rw [← hlr] at hC
  have e8 : lr10 8 = xTm im kq := (congrFun hlr _).trans ((va_up_ne _ _ (by decide)).trans e8)
  have e9 : lr10 9 = xmM 63 (xTm im kq) := (congrFun hlr _).trans ((va_up_ne _ _ (by decide)).trans e9)
  have e3 : lr10 3 = xmul (im 2) (xTm im kq) := (congrFun hlr _).trans ((va_up_ne _ _ (by decide)).trans e3)
  have e5 : lr10 5 = xmul (im 3) (xmM 63 (xTm im kq)) := (congrFun hlr _).trans ((va_up_ne _ _ (by decide)).trans e5)
  have e4 : lr10 4 = xmul (im 3) (xmM 63 (xTm im kq)) := (congrFun hlr _).trans ((va_up_ne _ _ (by decide)).trans e4)
  have e2 : lr10 2 = xBm im kr := (congrFun hlr _).trans (va_up_self _ _ _)
  refine lv_aload_n hx hb dX5_fill_108 rfl (lv_at hl 0 rfl) ?_
  refine lv_aload_n hx hb dX5_fill_109 rfl (lv_at hl 0 rfl) ?_
  refine xw_get C hw hC.o (ci := 4) rfl iX5_fill_X5 9 (by decide) (by decide +kernel) rfl dX5_fill_110 ?_
  refine lv_aload_n hx hb dX5_fill_113 rfl (lv_at hl 0 rfl) ?_
  refine xw_get C hw hC.o (ci := 4) rfl iX5_fill_X5 8 (by decide) (by decide +kernel) rfl dX5_fill_114 ?_
  refine xw_cv (xw_V (n := 2) (rest := []) C hw (kX5_multiply l G B _ mo la ia rq co mn im lr10 ro me wr hC 3 2 (by decide) (by decide) (by decide) (by decide) (xmul (im 2) (xTm im kq)) (xBm im kr) e3 e2 (Nat.le_trans (Nat.add_le_add (xlen_sle sAQ) (xlen_sle sRB)) (by decide))) gX5_fill_X5_multiply rfl rfl rfl (by decide +kernel) ⟨Nat.le_of_ble_eq_true rfl, Nat.le_of_ble_eq_true rfl⟩ hC.o rfl rfl hl.1 rfl (Nat.le_of_ble_eq_true rfl) dX5_fill_117 ⟨Nat.le_of_ble_eq_true rfl, Nat.le_of_ble_eq_true rfl⟩ hS) hS (fun u H locs hpp hw hS => ?_)
  rw [hpp] at hw
  have hC := hC.set (i := 5) (by decide) (show xlc 5 = 64 by decide) (f := xmul (xmul (im 2) (xTm im kq)) (xBm im kr)) (xmul_s64 (hC.rs 3 (by decide) e3) (hC.rs 2 (by decide) e2) (Nat.le_trans (Nat.add_le_add (xlen_sle sAQ) (xlen_sle sRB)) (by decide)))
  obtain ⟨lr11, hlr⟩ : ∃ zz9, zz9 = va_up lr10 (5) (xmul (xmul (im 2) (xTm im kq)) (xBm im kr)) := ⟨_, rfl⟩
  rw [← hlr] at hC
  have e8 : lr11 8 = xTm im kq := (congrFun hlr _).trans ((va_up_ne _ _ (by decide)).trans e8)
  have e9 : lr11 9 = xmM 63 (xTm im kq) := (congrFun hlr _).trans ((va_up_ne _ _ (by decide)).trans e9)
  have e3 : lr11 3 = xmul (im 2) (xTm im kq) := (congrFun hlr _).trans ((va_up_ne _ _ (by decide)).trans e3)
  have e4 : lr11 4 = xmul (im 3) (xmM 63 (xTm im kq)) := (congrFun hlr _).trans ((va_up_ne _ _ (by decide)).trans e4)
  have e2 : lr11 2 = xBm im kr := (congrFun hlr _).trans ((va_up_ne _ _ (by decide)).trans e2)
  have e5 : lr11 5 = xmul (xmul (im 2) (xTm im kq)) (xBm im kr) := (congrFun hlr _).trans (va_up_self _ _ _)
  refine lv_aload_n hx hb dX5_fill_120 rfl (lv_at hl 0 rfl) ?_
  refine xw_get C hw hC.o (ci := 4) rfl iX5_fill_X5 9 (by decide) (by decide +kernel) rfl dX5_fill_121 ?_
  refine lv_aload_n hx hb dX5_fill_124 rfl (lv_at hl 0 rfl) ?_
  refine xw_get C hw hC.o (ci := 4) rfl iX5_fill_X5 11 (by decide) (by decide +kernel) rfl dX5_fill_125 ?_
  refine xw_cv (xw_S (n := 2) (rest := []) C hw (kX5_copy l G B _ (la 3) (la 5) (xmul (im 2) (xTm im kq)) (xmul (xmul (im 2) (xTm im kq)) (xBm im kr)) (hC.r 3 (by decide) e3) (hC.r 5 (by decide) e5) (hC.ln (by decide) (by decide) (by decide)) (hC.rs 3 (by decide) e3) (hC.rs 5 (by decide) e5)) gX5_fill_X5_copy rfl rfl rfl (by decide +kernel) ⟨Nat.le_of_ble_eq_true rfl, Nat.le_of_ble_eq_true rfl⟩ rfl hl.1 rfl (Nat.le_of_ble_eq_true rfl) dX5_fill_128 ⟨Nat.le_of_ble_eq_true rfl, Nat.le_of_ble_eq_true rfl⟩ hS) hS (fun u H locs hpp hw hS => ?_)
  rw [hpp] at hw
  have hC := hC.set (i := 3) (by decide) (show xlc 3 = 64 by decide) (f := xmul (xmul (im 2) (xTm im kq)) (xBm im kr)) ((hC.rs 5 (by decide) e5))
  obtain ⟨lr12, hlr⟩ : ∃ zz9, zz9 = va_up lr11 (3) (xmul (xmul (im 2) (xTm im kq)) (xBm im kr)) := ⟨_, rfl⟩
  rw [← hlr] at hC
  have e8 : lr12 8 = xTm im kq := (congrFun hlr _).trans ((va_up_ne _ _ (by decide)).trans e8)
  have e9 : lr12 9 = xmM 63 (xTm im kq) := (congrFun hlr _).trans ((va_up_ne _ _ (by decide)).trans e9)
  have e4 : lr12 4 = xmul (im 3) (xmM 63 (xTm im kq)) := (congrFun hlr _).trans ((va_up_ne _ _ (by decide)).trans e4)
  have e2 : lr12 2 = xBm im kr := (congrFun hlr _).trans ((va_up_ne _ _ (by decide)).trans e2)
  have e5 : lr12 5 = xmul (xmul (im 2) (xTm im kq)) (xBm im kr) := (congrFun hlr _).trans ((va_up_ne _ _ (by decide)).trans e5)
  have e3 : lr12 3 = xmul (xmul (im 2) (xTm im kq)) (xBm im kr) := (congrFun hlr _).trans (va_up_self _ _ _)
  refine lv_aload_n hx hb dX5_fill_131 rfl (lv_at hl 0 rfl) ?_
  refine lv_aload_n hx hb dX5_fill_132 rfl (lv_at hl 0 rfl) ?_
  refine xw_get C hw hC.o (ci := 4) rfl iX5_fill_X5 10 (by decide) (by decide +kernel) rfl dX5_fill_133 ?_
  refine lv_aload_n hx hb dX5_fill_136 rfl (lv_at hl 0 rfl) ?_
  refine xw_get C hw hC.o (ci := 4) rfl iX5_fill_X5 8 (by decide) (by decide +kernel) rfl dX5_fill_137 ?_
  refine xw_cv (xw_V (n := 2) (rest := []) C hw (kX5_multiply l G B _ mo la ia rq co mn im lr12 ro me wr hC 4 2 (by decide) (by decide) (by decide) (by decide) (xmul (im 3) (xmM 63 (xTm im kq))) (xBm im kr) e4 e2 (Nat.le_trans (Nat.add_le_add (xlen_sle sBM) (xlen_sle sRB)) (by decide))) gX5_fill_X5_multiply rfl rfl rfl (by decide +kernel) ⟨Nat.le_of_ble_eq_true rfl, Nat.le_of_ble_eq_true rfl⟩ hC.o rfl rfl hl.1 rfl (Nat.le_of_ble_eq_true rfl) dX5_fill_140 ⟨Nat.le_of_ble_eq_true rfl, Nat.le_of_ble_eq_true rfl⟩ hS) hS (fun u H locs hpp hw hS => ?_)
  rw [hpp] at hw
  have hC := hC.set (i := 5) (by decide) (show xlc 5 = 64 by decide) (f := xmul (xmul (im 3) (xmM 63 (xTm im kq))) (xBm im kr)) (xmul_s64 (hC.rs 4 (by decide) e4) (hC.rs 2 (by decide) e2) (Nat.le_trans (Nat.add_le_add (xlen_sle sBM) (xlen_sle sRB)) (by decide)))
  obtain ⟨lr13, hlr⟩ : ∃ zz9, zz9 = va_up lr12 (5) (xmul (xmul (im 3) (xmM 63 (xTm im kq))) (xBm im kr)) := ⟨_, rfl⟩
  rw [← hlr] at hC
  have e8 : lr13 8 = xTm im kq := (congrFun hlr _).trans ((va_up_ne _ _ (by decide)).trans e8)
  have e9 : lr13 9 = xmM 63 (xTm im kq) := (congrFun hlr _).trans ((va_up_ne _ _ (by decide)).trans e9)
  have e4 : lr13 4 = xmul (im 3) (xmM 63 (xTm im kq)) := (congrFun hlr _).trans ((va_up_ne _ _ (by decide)).trans e4)
  have e2 : lr13 2 = xBm im kr := (congrFun hlr _).trans ((va_up_ne _ _ (by decide)).trans e2)
  have e3 : lr13 3 = xmul (xmul (im 2) (xTm im kq)) (xBm im kr) := (congrFun hlr _).trans ((va_up_ne _ _ (by decide)).trans e3)
  have e5 : lr13 5 = xmul (xmul (im 3) (xmM 63 (xTm im kq))) (xBm im kr) := (congrFun hlr _).trans (va_up_self _ _ _)
  refine lv_aload_n hx hb dX5_fill_143 rfl (lv_at hl 0 rfl) ?_
  refine xw_get C hw hC.o (ci := 4) rfl iX5_fill_X5 18 (by decide) (by decide +kernel) rfl dX5_fill_144 ?_
  refine lv_aload_n hx hb dX5_fill_147 rfl (lv_at hl 0 rfl) ?_
  refine xw_get C hw hC.o (ci := 4) rfl iX5_fill_X5 11 (by decide) (by decide +kernel) rfl dX5_fill_148 ?_
  refine xw_cv (xw_S (n := 2) (rest := []) C hw (kX5_copy l G B _ (la 10) (la 5) (lr13 10) (xmul (xmul (im 3) (xmM 63 (xTm im kq))) (xBm im kr)) (hC.r 10 (by decide) rfl) (hC.r 5 (by decide) e5) (hC.ln (by decide) (by decide) (by decide)) (hC.rs 10 (by decide) rfl) (hC.rs 5 (by decide) e5)) gX5_fill_X5_copy rfl rfl rfl (by decide +kernel) ⟨Nat.le_of_ble_eq_true rfl, Nat.le_of_ble_eq_true rfl⟩ rfl hl.1 rfl (Nat.le_of_ble_eq_true rfl) dX5_fill_151 ⟨Nat.le_of_ble_eq_true rfl, Nat.le_of_ble_eq_true rfl⟩ hS) hS (fun u H locs hpp hw hS => ?_)
  rw [hpp] at hw
  have hC := hC.set (i := 10) (by decide) (show xlc 10 = 64 by decide) (f := xmul (xmul (im 3) (xmM 63 (xTm im kq))) (xBm im kr)) ((hC.rs 5 (by decide) e5))
  obtain ⟨lr14, hlr⟩ : ∃ zz9, zz9 = va_up lr13 (10) (xmul (xmul (im 3) (xmM 63 (xTm im kq))) (xBm im kr)) := ⟨_, rfl⟩
  rw [← hlr] at hC
  have e8 : lr14 8 = xTm im kq := (congrFun hlr _).trans ((va_up_ne _ _ (by decide)).trans e8)
  have e9 : lr14 9 = xmM 63 (xTm im kq) := (congrFun hlr _).trans ((va_up_ne _ _ (by decide)).trans e9)
  have e4 : lr14 4 = xmul (im 3) (xmM 63 (xTm im kq)) := (congrFun hlr _).trans ((va_up_ne _ _ (by decide)).trans e4)
  have e2 : lr14 2 = xBm im kr := (congrFun hlr _).trans ((va_up_ne _ _ (by decide)).trans e2)
  have e3 : lr14 3 = xmul (xmul (im 2) (xTm im kq)) (xBm im kr) := (congrFun hlr _).trans ((va_up_ne _ _ (by decide)).trans e3)
  have e5 : lr14 5 = xmul (xmul (im 3) (xmM 63 (xTm im kq))) (xBm im kr) := (congrFun hlr _).trans ((va_up_ne _ _ (by decide)).trans e5)
  have e10 : lr14 10 = xmul (xmul (im 3) (xmM 63 (xTm im kq))) (xBm im kr) := (congrFun hlr _).trans (va_up_self _ _ _)
  have e11 : ∃ M : xMt, lr14 11 = xfl M := ⟨_, xfl_of (hC.2.2.1 11 (by decide)).2⟩
  obtain ⟨M1, e11⟩ := e11
  refine lv_iconst (v := 0) hx hb dX5_fill_154 (by decide) ?_
  refine xw_ti (y := (nI 0)) (nI_0.symm) ?_
  refine lv_istore_n (lv' := [(3, .int (nI 0)), (0, .ref mo), (1, .int (nI kr)), (2, .int (nI kq))]) hx hb dX5_fill_155 rfl hl (by decide) rfl (fun ls hl => ?_)
  have loop : ∀ (d k : Nat) (w1 : xM) (lr5 : Nat → xP) (M : xMt) (ls : Array Slot) (H : Heap) (locs : List Loc), k + d = 9 → xML G w1 mo la ia rq co mn im lr5 ro me wr → lr5 8 = xTm im kq → lr5 3 = xmul (xmul (im 2) (xTm im kq)) (xBm im kr) → lr5 4 = xmul (im 3) (xmM 63 (xTm im kq)) → lr5 10 = xmul (xmul (im 3) (xmM 63 (xTm im kq))) (xBm im kr) → lr5 11 = xfl M → (∀ j, j < k → ∀ i, i < 64 → M i j = xMcol (xBm im kr) (im 2) (im 3) (xTm im kq) j i) → xW G B w1 H → va_S (xA B) s.heap H locs → lv_has ls 5 [(3, .int (nI k)), (0, .ref mo), (1, .int (nI kr)), (2, .int (nI kq))] → W p l ev rmX5_fill s m [.ref mo, .int (nI kr), .int (nI kq)].toArray below meth cd H locs 0 0 (MQ below (va_Qv (fun u => ∃ lr2 M, xML G u mo la ia rq co mn im lr2 ro me wr ∧ lr2 11 = xfl M ∧ (∀ k, k < 9 → ∀ i, i < 64 → M i k = xMcol (xBm im kr) (im 2) (im 3) (xTm im kq) k i) ∧ ∀ i, i < 64 → M i 9 = xMtgt (xTm im kr) (im 3) (xTm im kq) i) (xE G B) (xA B)) [.ref mo, .int (nI kr), .int (nI kq)].toArray s 0 0 (xA B)) (F0 m 156 ls []) := by
    intro d
    induction d with
    | zero =>
      intro k w1 lr5 M ls H locs hk hC e8 e3 e4 e10 e11 hM hw hS hl
      refine lv_iload_n hx hb dX5_fill_156 rfl (lv_at hl 0 rfl) ?_
      refine lv_bipush (v := 9) hx hb dX5_fill_157 (by decide) ?_
      refine xw_ti (y := (nI 9)) (by decide) ?_
      refine lv_icmp_ge (tgt := 289) hx hb dX5_fill_159 (by decide) (fun _ => ?_) (fun hc => absurd ((nI_leI (by omega) (by omega)).mpr (by omega)) hc)
      refine lv_aload_n hx hb dX5_fill_289 rfl (lv_at hl 1 rfl) ?_
      refine lv_aload_n hx hb dX5_fill_290 rfl (lv_at hl 1 rfl) ?_
      refine xw_get C hw hC.o (ci := 4) rfl iX5_fill_X5 8 (by decide) (by decide +kernel) rfl dX5_fill_291 ?_
      refine lv_iload_n hx hb dX5_fill_294 rfl (lv_at hl 2 rfl) ?_
      refine xw_cv (xw_V (n := 2) (rest := []) C hw (kX5_loadTop l G B _ mo la ia rq co mn im lr5 ro me wr hC 2 (by decide) (lr5 2) rfl kr hkr) gX5_fill_X5_loadTop rfl rfl rfl (by decide +kernel) ⟨Nat.le_of_ble_eq_true rfl, Nat.le_of_ble_eq_true rfl⟩ hC.o rfl rfl hl.1 rfl (Nat.le_of_ble_eq_true rfl) dX5_fill_295 ⟨Nat.le_of_ble_eq_true rfl, Nat.le_of_ble_eq_true rfl⟩ hS) hS (fun u H locs hpp hw hS => ?_)
      rw [hpp] at hw
      have hC := hC.set (i := 2) (by decide) (show xlc 2 = 64 by decide) (f := xTm im kr) (xld_sup _ _ (by decide))
      obtain ⟨lr101, hlr⟩ : ∃ zz9, zz9 = va_up lr5 (2) (xTm im kr) := ⟨_, rfl⟩
      rw [← hlr] at hC
      have e8 : lr101 8 = xTm im kq := (congrFun hlr _).trans ((va_up_ne _ _ (by decide)).trans e8)
      have e3 : lr101 3 = xmul (xmul (im 2) (xTm im kq)) (xBm im kr) := (congrFun hlr _).trans ((va_up_ne _ _ (by decide)).trans e3)
      have e4 : lr101 4 = xmul (im 3) (xmM 63 (xTm im kq)) := (congrFun hlr _).trans ((va_up_ne _ _ (by decide)).trans e4)
      have e10 : lr101 10 = xmul (xmul (im 3) (xmM 63 (xTm im kq))) (xBm im kr) := (congrFun hlr _).trans ((va_up_ne _ _ (by decide)).trans e10)
      have e11 : lr101 11 = xfl M := (congrFun hlr _).trans ((va_up_ne _ _ (by decide)).trans e11)
      have e2 : lr101 2 = xTm im kr := (congrFun hlr _).trans (va_up_self _ _ _)
      refine lv_aload_n hx hb dX5_fill_298 rfl (lv_at hl 1 rfl) ?_
      refine lv_aload_n hx hb dX5_fill_299 rfl (lv_at hl 1 rfl) ?_
      refine xw_get C hw hC.o (ci := 4) rfl iX5_fill_X5 8 (by decide) (by decide +kernel) rfl dX5_fill_300 ?_
      refine lv_aload_n hx hb dX5_fill_303 rfl (lv_at hl 1 rfl) ?_
      refine xw_get C hw hC.o (ci := 4) rfl iX5_fill_X5 16 (by decide) (by decide +kernel) rfl dX5_fill_304 ?_
      refine xw_cv (xw_V (n := 2) (rest := []) C hw (kX5_multiply l G B _ mo la ia rq co mn im lr101 ro me wr hC 2 8 (by decide) (by decide) (by decide) (by decide) (xTm im kr) (xTm im kq) e2 e8 (Nat.le_trans (Nat.add_le_add (xlen_sle sRT) (xlen_sle sQ)) (by decide))) gX5_fill_X5_multiply rfl rfl rfl (by decide +kernel) ⟨Nat.le_of_ble_eq_true rfl, Nat.le_of_ble_eq_true rfl⟩ hC.o rfl rfl hl.1 rfl (Nat.le_of_ble_eq_true rfl) dX5_fill_307 ⟨Nat.le_of_ble_eq_true rfl, Nat.le_of_ble_eq_true rfl⟩ hS) hS (fun u H locs hpp hw hS => ?_)
      rw [hpp] at hw
      have hC := hC.set (i := 5) (by decide) (show xlc 5 = 64 by decide) (f := xmul (xTm im kr) (xTm im kq)) (xmul_s64 (hC.rs 2 (by decide) e2) (hC.rs 8 (by decide) e8) (Nat.le_trans (Nat.add_le_add (xlen_sle sRT) (xlen_sle sQ)) (by decide)))
      obtain ⟨lr102, hlr⟩ : ∃ zz9, zz9 = va_up lr101 (5) (xmul (xTm im kr) (xTm im kq)) := ⟨_, rfl⟩
      rw [← hlr] at hC
      have e8 : lr102 8 = xTm im kq := (congrFun hlr _).trans ((va_up_ne _ _ (by decide)).trans e8)
      have e3 : lr102 3 = xmul (xmul (im 2) (xTm im kq)) (xBm im kr) := (congrFun hlr _).trans ((va_up_ne _ _ (by decide)).trans e3)
      have e4 : lr102 4 = xmul (im 3) (xmM 63 (xTm im kq)) := (congrFun hlr _).trans ((va_up_ne _ _ (by decide)).trans e4)
      have e10 : lr102 10 = xmul (xmul (im 3) (xmM 63 (xTm im kq))) (xBm im kr) := (congrFun hlr _).trans ((va_up_ne _ _ (by decide)).trans e10)
      have e11 : lr102 11 = xfl M := (congrFun hlr _).trans ((va_up_ne _ _ (by decide)).trans e11)
      have e2 : lr102 2 = xTm im kr := (congrFun hlr _).trans ((va_up_ne _ _ (by decide)).trans e2)
      have e5 : lr102 5 = xmul (xTm im kr) (xTm im kq) := (congrFun hlr _).trans (va_up_self _ _ _)
      refine lv_aload_n hx hb dX5_fill_310 rfl (lv_at hl 1 rfl) ?_
      refine xw_get C hw hC.o (ci := 4) rfl iX5_fill_X5 8 (by decide) (by decide +kernel) rfl dX5_fill_311 ?_
      refine lv_aload_n hx hb dX5_fill_314 rfl (lv_at hl 1 rfl) ?_
      refine xw_get C hw hC.o (ci := 4) rfl iX5_fill_X5 11 (by decide) (by decide +kernel) rfl dX5_fill_315 ?_
      refine xw_cv (xw_S (n := 2) (rest := []) C hw (kX5_copy l G B _ (la 2) (la 5) (xTm im kr) (xmul (xTm im kr) (xTm im kq)) (hC.r 2 (by decide) e2) (hC.r 5 (by decide) e5) (hC.ln (by decide) (by decide) (by decide)) (hC.rs 2 (by decide) e2) (hC.rs 5 (by decide) e5)) gX5_fill_X5_copy rfl rfl rfl (by decide +kernel) ⟨Nat.le_of_ble_eq_true rfl, Nat.le_of_ble_eq_true rfl⟩ rfl hl.1 rfl (Nat.le_of_ble_eq_true rfl) dX5_fill_318 ⟨Nat.le_of_ble_eq_true rfl, Nat.le_of_ble_eq_true rfl⟩ hS) hS (fun u H locs hpp hw hS => ?_)
      rw [hpp] at hw
      have hC := hC.set (i := 2) (by decide) (show xlc 2 = 64 by decide) (f := xmul (xTm im kr) (xTm im kq)) ((hC.rs 5 (by decide) e5))
      obtain ⟨lr103, hlr⟩ : ∃ zz9, zz9 = va_up lr102 (2) (xmul (xTm im kr) (xTm im kq)) := ⟨_, rfl⟩
      rw [← hlr] at hC
      have e8 : lr103 8 = xTm im kq := (congrFun hlr _).trans ((va_up_ne _ _ (by decide)).trans e8)
      have e3 : lr103 3 = xmul (xmul (im 2) (xTm im kq)) (xBm im kr) := (congrFun hlr _).trans ((va_up_ne _ _ (by decide)).trans e3)
      have e4 : lr103 4 = xmul (im 3) (xmM 63 (xTm im kq)) := (congrFun hlr _).trans ((va_up_ne _ _ (by decide)).trans e4)
      have e10 : lr103 10 = xmul (xmul (im 3) (xmM 63 (xTm im kq))) (xBm im kr) := (congrFun hlr _).trans ((va_up_ne _ _ (by decide)).trans e10)
      have e11 : lr103 11 = xfl M := (congrFun hlr _).trans ((va_up_ne _ _ (by decide)).trans e11)
      have e5 : lr103 5 = xmul (xTm im kr) (xTm im kq) := (congrFun hlr _).trans ((va_up_ne _ _ (by decide)).trans e5)
      have e2 : lr103 2 = xmul (xTm im kr) (xTm im kq) := (congrFun hlr _).trans (va_up_self _ _ _)
      refine lv_aload_n hx hb dX5_fill_321 rfl (lv_at hl 1 rfl) ?_
      refine lv_aload_n hx hb dX5_fill_322 rfl (lv_at hl 1 rfl) ?_
      refine xw_get C hw hC.o (ci := 4) rfl iX5_fill_X5 10 (by decide) (by decide +kernel) rfl dX5_fill_323 ?_
      refine lv_aload_n hx hb dX5_fill_326 rfl (lv_at hl 1 rfl) ?_
      refine xw_get C hw hC.o (ci := 4) rfl iX5_fill_X5 8 (by decide) (by decide +kernel) rfl dX5_fill_327 ?_
      refine xw_cv (xw_V (n := 2) (rest := []) C hw (kX5_multiply l G B _ mo la ia rq co mn im lr103 ro me wr hC 4 2 (by decide) (by decide) (by decide) (by decide) (xmul (im 3) (xmM 63 (xTm im kq))) (xmul (xTm im kr) (xTm im kq)) e4 e2 (Nat.le_trans (Nat.add_le_add (xlen_sle sBM) (xlen_sle (xmul_sup sRT sQ))) (by decide))) gX5_fill_X5_multiply rfl rfl rfl (by decide +kernel) ⟨Nat.le_of_ble_eq_true rfl, Nat.le_of_ble_eq_true rfl⟩ hC.o rfl rfl hl.1 rfl (Nat.le_of_ble_eq_true rfl) dX5_fill_330 ⟨Nat.le_of_ble_eq_true rfl, Nat.le_of_ble_eq_true rfl⟩ hS) hS (fun u H locs hpp hw hS => ?_)
      rw [hpp] at hw
      have hC := hC.set (i := 5) (by decide) (show xlc 5 = 64 by decide) (f := xmul (xmul (im 3) (xmM 63 (xTm im kq))) (xmul (xTm im kr) (xTm im kq))) (xmul_s64 (hC.rs 4 (by decide) e4) (hC.rs 2 (by decide) e2) (Nat.le_trans (Nat.add_le_add (xlen_sle sBM) (xlen_sle (xmul_sup sRT sQ))) (by decide)))
      obtain ⟨lr104, hlr⟩ : ∃ zz9, zz9 = va_up lr103 (5) (xmul (xmul (im 3) (xmM 63 (xTm im kq))) (xmul (xTm im kr) (xTm im kq))) := ⟨_, rfl⟩
      rw [← hlr] at hC
      have e8 : lr104 8 = xTm im kq := (congrFun hlr _).trans ((va_up_ne _ _ (by decide)).trans e8)
      have e3 : lr104 3 = xmul (xmul (im 2) (xTm im kq)) (xBm im kr) := (congrFun hlr _).trans ((va_up_ne _ _ (by decide)).trans e3)
      have e4 : lr104 4 = xmul (im 3) (xmM 63 (xTm im kq)) := (congrFun hlr _).trans ((va_up_ne _ _ (by decide)).trans e4)
      have e10 : lr104 10 = xmul (xmul (im 3) (xmM 63 (xTm im kq))) (xBm im kr) := (congrFun hlr _).trans ((va_up_ne _ _ (by decide)).trans e10)
      have e11 : lr104 11 = xfl M := (congrFun hlr _).trans ((va_up_ne _ _ (by decide)).trans e11)
      have e2 : lr104 2 = xmul (xTm im kr) (xTm im kq) := (congrFun hlr _).trans ((va_up_ne _ _ (by decide)).trans e2)
      have e5 : lr104 5 = xmul (xmul (im 3) (xmM 63 (xTm im kq))) (xmul (xTm im kr) (xTm im kq)) := (congrFun hlr _).trans (va_up_self _ _ _)
      refine lv_iconst (v := 0) hx hb dX5_fill_333 (by decide) ?_
      refine xw_ti (y := (nI 0)) (nI_0.symm) ?_
      refine lv_istore_n (lv' := [(3, .int (nI 0)), (0, .ref mo), (1, .int (nI kr)), (2, .int (nI kq))]) hx hb dX5_fill_334 rfl hl (by decide) rfl (fun ls hl => ?_)
      have fin : ∀ (d i : Nat) (w1 : xM) (lr5 : Nat → xP) (M2 : xMt) (ls : Array Slot) (H : Heap) (locs : List Loc), i + d = 64 → xML G w1 mo la ia rq co mn im lr5 ro me wr → lr5 5 = xmul (xmul (im 3) (xmM 63 (xTm im kq))) (xmul (xTm im kr) (xTm im kq)) → lr5 11 = xfl M2 → (∀ j, j < 9 → ∀ i, i < 64 → M2 i j = xMcol (xBm im kr) (im 2) (im 3) (xTm im kq) j i) → (∀ j, j < i → M2 j 9 = (xmul (xmul (im 3) (xmM 63 (xTm im kq))) (xmul (xTm im kr) (xTm im kq))) j) → xW G B w1 H → va_S (xA B) s.heap H locs → lv_has ls 5 [(3, .int (nI i)), (0, .ref mo)] → W p l ev rmX5_fill s m [.ref mo, .int (nI kr), .int (nI kq)].toArray below meth cd H locs 0 0 (MQ below (va_Qv (fun u => ∃ lr2 M, xML G u mo la ia rq co mn im lr2 ro me wr ∧ lr2 11 = xfl M ∧ (∀ k, k < 9 → ∀ i, i < 64 → M i k = xMcol (xBm im kr) (im 2) (im 3) (xTm im kq) k i) ∧ ∀ i, i < 64 → M i 9 = xMtgt (xTm im kr) (im 3) (xTm im kq) i) (xE G B) (xA B)) [.ref mo, .int (nI kr), .int (nI kq)].toArray s 0 0 (xA B)) (F0 m 335 ls []) := by
        intro d
        induction d with
        | zero =>
          intro i w1 lr5 M2 ls H locs hi hC e5 e11 hM2 hT hw hS hl
          refine lv_iload_n hx hb dX5_fill_335 rfl (lv_at hl 0 rfl) ?_
          refine lv_bipush (v := 64) hx hb dX5_fill_336 (by decide) ?_
          refine xw_ti (y := (nI 64)) (by decide) ?_
          refine lv_icmp_ge (tgt := 365) hx hb dX5_fill_338 (by decide) (fun _ => ?_) (fun hc => absurd ((nI_leI (by omega) (by omega)).mpr (by omega)) hc)
          exact xw_vret C hw hS (Nat.le_of_ble_eq_true rfl) (Nat.le_of_ble_eq_true rfl) (⟨lr5, M2, hC, e11, hM2, fun j hj => hT j (by omega)⟩) dX5_fill_365
        | succ d ih2 =>
          intro i w1 lr5 M2 ls H locs hi hC e5 e11 hM2 hT hw hS hl
          refine lv_iload_n hx hb dX5_fill_335 rfl (lv_at hl 0 rfl) ?_
          refine lv_bipush (v := 64) hx hb dX5_fill_336 (by decide) ?_
          refine xw_ti (y := (nI 64)) (by decide) ?_
          refine lv_icmp_ge (tgt := 365) hx hb dX5_fill_338 (by decide) (fun hc => absurd hc (fun q => absurd ((nI_leI (by omega) (by omega)).mp q) (by omega))) (fun _ => ?_)
          refine lv_aload_n hx hb dX5_fill_341 rfl (lv_at hl 1 rfl) ?_
          refine xw_get C hw hC.o (ci := 4) rfl iX5_fill_X5 14 (by decide) (by decide +kernel) rfl dX5_fill_342 ?_
          refine lv_bipush (v := 10) hx hb dX5_fill_345 (by decide) ?_
          refine xw_ti (y := (nI 10)) (by decide) ?_
          refine lv_iload_n hx hb dX5_fill_347 rfl (lv_at hl 0 rfl) ?_
          refine lv_imul hx hb dX5_fill_348 ?_
          refine xw_ti (y := (nI (10 * i))) (pk_mul _ _) ?_
          refine lv_bipush (v := 9) hx hb dX5_fill_349 (by decide) ?_
          refine xw_ti (y := (nI 9)) (by decide) ?_
          refine lv_iadd hx hb dX5_fill_351 ?_
          refine xw_ti (y := (nI (10 * i + 9))) (nI_add _ _) ?_
          refine lv_aload_n hx hb dX5_fill_352 rfl (lv_at hl 1 rfl) ?_
          refine xw_get C hw hC.o (ci := 4) rfl iX5_fill_X5 11 (by decide) (by decide +kernel) rfl dX5_fill_353 ?_
          refine lv_iload_n hx hb dX5_fill_356 rfl (lv_at hl 0 rfl) ?_
          refine xw_laldN C hw (hC.r 5 (by decide) e5) (show i < 64 by omega) (by decide) dX5_fill_357 ?_
          refine xw_tl (y := (xJ ((xmul (xmul (im 3) (xmM 63 (xTm im kq))) (xmul (xTm im kr) (xTm im kq))) i))) (rfl) ?_
          refine xw_lastN C hw hS (hC.t e11) (show 10 * i + 9 < 640 by omega) (by decide) dX5_fill_358 (fun H locs hw hS => ?_)
          rw [xrowJ_up, xmu_fl _ _ (show i < 64 by omega) (show 9 < 10 by omega)] at hw
          have hC := hC.set (i := 11) (by decide) (show xlc 11 = 640 by decide) (f := xfl (xmu M2 i 9 ((xmul (xmul (im 3) (xmM 63 (xTm im kq))) (xmul (xTm im kr) (xTm im kq))) i))) (xfl_sup _)
          obtain ⟨lr121, hlr⟩ : ∃ zz9, zz9 = va_up lr5 11 (xfl (xmu M2 i 9 ((xmul (xmul (im 3) (xmM 63 (xTm im kq))) (xmul (xTm im kr) (xTm im kq))) i))) := ⟨_, rfl⟩
          rw [← hlr] at hC
          have e5 : lr121 5 = xmul (xmul (im 3) (xmM 63 (xTm im kq))) (xmul (xTm im kr) (xTm im kq)) := (congrFun hlr _).trans ((va_up_ne _ _ (by decide)).trans e5)
          have e11 : lr121 11 = xfl (xmu M2 i 9 ((xmul (xmul (im 3) (xmM 63 (xTm im kq))) (xmul (xTm im kr) (xTm im kq))) i)) := (congrFun hlr _).trans (va_up_self _ _ _)
          refine lv_iinc (v := (nI (i + 1))) (lv' := [(3, .int (nI (i + 1))), (0, .ref mo)]) hx hb dX5_fill_359 hl (k := 0) rfl (x_inc i) (by decide) rfl (fun ls hl => ?_)
          refine lv_goto (tgt := 335) hx hb dX5_fill_362 (by decide) ?_
          refine ih2 (i + 1) _ lr121 _ ls _ _ (by omega) hC e5 e11 (fun j hj n hn => ?_) (fun j hj => ?_) hw hS (lv_sub hl [0, 1] rfl)
          · unfold xmu; rw [if_neg (by omega)]; exact hM2 j hj n hn
          · unfold xmu; by_cases hji : j = i
            · rw [if_pos ⟨hji, rfl⟩, hji]
            · rw [if_neg (fun q => hji q.1)]; exact hT j (by omega)
      exact fin 64 0 _ lr104 M ls _ _ rfl hC e5 e11 (fun j hj => hM j (by omega)) (fun j hj => absurd hj (by omega)) hw hS (lv_sub hl [0, 1] rfl)
    | succ d ih =>
      intro k w1 lr5 M ls H locs hk hC e8 e3 e4 e10 e11 hM hw hS hl
      refine lv_iload_n hx hb dX5_fill_156 rfl (lv_at hl 0 rfl) ?_
      refine lv_bipush (v := 9) hx hb dX5_fill_157 (by decide) ?_
      refine xw_ti (y := (nI 9)) (by decide) ?_
      refine lv_icmp_ge (tgt := 289) hx hb dX5_fill_159 (by decide) (fun hc => absurd hc (fun q => absurd ((nI_leI (by omega) (by omega)).mp q) (by omega))) (fun _ => ?_)
      have sMo : xsup (va_up (fun _ => 0) k 1) 9 := xc_sup (by omega)
      have sMM := xmM_sup2 sMo 63
      refine lv_aload_n hx hb dX5_fill_162 rfl (lv_at hl 1 rfl) ?_
      refine xw_get C hw hC.o (ci := 4) rfl iX5_fill_X5 6 (by decide) (by decide +kernel) rfl dX5_fill_163 ?_
      refine xw_cv (xw_S (n := 1) (rest := []) C hw (kX5_empty l G B _ (la 0) (lr5 0) (hC.r 0 (by decide) rfl) (hC.rs 0 (by decide) rfl)) gX5_fill_X5_empty rfl rfl rfl (by decide +kernel) ⟨Nat.le_of_ble_eq_true rfl, Nat.le_of_ble_eq_true rfl⟩ rfl hl.1 rfl (Nat.le_of_ble_eq_true rfl) dX5_fill_166 ⟨Nat.le_of_ble_eq_true rfl, Nat.le_of_ble_eq_true rfl⟩ hS) hS (fun u H locs hpp hw hS => ?_)
      rw [hpp] at hw
      have hC := hC.set (i := 0) (by decide) (show xlc 0 = 64 by decide) (f := fun _ => 0) (xsup_z _)
      obtain ⟨lr141, hlr⟩ : ∃ zz9, zz9 = va_up lr5 (0) (fun _ => 0) := ⟨_, rfl⟩
      rw [← hlr] at hC
      have e8 : lr141 8 = xTm im kq := (congrFun hlr _).trans ((va_up_ne _ _ (by decide)).trans e8)
      have e3 : lr141 3 = xmul (xmul (im 2) (xTm im kq)) (xBm im kr) := (congrFun hlr _).trans ((va_up_ne _ _ (by decide)).trans e3)
      have e4 : lr141 4 = xmul (im 3) (xmM 63 (xTm im kq)) := (congrFun hlr _).trans ((va_up_ne _ _ (by decide)).trans e4)
      have e10 : lr141 10 = xmul (xmul (im 3) (xmM 63 (xTm im kq))) (xBm im kr) := (congrFun hlr _).trans ((va_up_ne _ _ (by decide)).trans e10)
      have e11 : lr141 11 = xfl M := (congrFun hlr _).trans ((va_up_ne _ _ (by decide)).trans e11)
      have e0 : lr141 0 = fun _ => 0 := (congrFun hlr _).trans (va_up_self _ _ _)
      refine lv_aload_n hx hb dX5_fill_169 rfl (lv_at hl 1 rfl) ?_
      refine xw_get C hw hC.o (ci := 4) rfl iX5_fill_X5 6 (by decide) (by decide +kernel) rfl dX5_fill_170 ?_
      refine lv_iload_n hx hb dX5_fill_173 rfl (lv_at hl 0 rfl) ?_
      refine lv_lconst (v := 1) hx hb dX5_fill_174 (by decide) ?_
      refine xw_tl (y := (xJ 1)) (xJ_1.symm) ?_
      refine xw_lastN C hw hS (hC.r 0 (by decide) e0) (show k < 64 by omega) (by decide) dX5_fill_175 (fun H locs hw hS => ?_)
      rw [xrowJ_up] at hw
      have hC := hC.set (i := 0) (by decide) (show xlc 0 = 64 by decide) (f := va_up (fun _ => 0) k 1) (xsup_up (hC.rs 0 (by decide) e0) (by omega))
      obtain ⟨lr142, hlr⟩ : ∃ zz9, zz9 = va_up lr141 (0) (va_up (fun _ => 0) k 1) := ⟨_, rfl⟩
      rw [← hlr] at hC
      have e8 : lr142 8 = xTm im kq := (congrFun hlr _).trans ((va_up_ne _ _ (by decide)).trans e8)
      have e3 : lr142 3 = xmul (xmul (im 2) (xTm im kq)) (xBm im kr) := (congrFun hlr _).trans ((va_up_ne _ _ (by decide)).trans e3)
      have e4 : lr142 4 = xmul (im 3) (xmM 63 (xTm im kq)) := (congrFun hlr _).trans ((va_up_ne _ _ (by decide)).trans e4)
      have e10 : lr142 10 = xmul (xmul (im 3) (xmM 63 (xTm im kq))) (xBm im kr) := (congrFun hlr _).trans ((va_up_ne _ _ (by decide)).trans e10)
      have e11 : lr142 11 = xfl M := (congrFun hlr _).trans ((va_up_ne _ _ (by decide)).trans e11)
      have e0 : lr142 0 = va_up (fun _ => 0) k 1 := (congrFun hlr _).trans (va_up_self _ _ _)
      refine lv_aload_n hx hb dX5_fill_176 rfl (lv_at hl 1 rfl) ?_
      refine xw_get C hw hC.o (ci := 4) rfl iX5_fill_X5 7 (by decide) (by decide +kernel) rfl dX5_fill_177 ?_
      refine xw_cv (xw_S (n := 1) (rest := []) C hw (kX5_empty l G B _ (la 1) (lr142 1) (hC.r 1 (by decide) rfl) (hC.rs 1 (by decide) rfl)) gX5_fill_X5_empty rfl rfl rfl (by decide +kernel) ⟨Nat.le_of_ble_eq_true rfl, Nat.le_of_ble_eq_true rfl⟩ rfl hl.1 rfl (Nat.le_of_ble_eq_true rfl) dX5_fill_180 ⟨Nat.le_of_ble_eq_true rfl, Nat.le_of_ble_eq_true rfl⟩ hS) hS (fun u H locs hpp hw hS => ?_)
      rw [hpp] at hw
      have hC := hC.set (i := 1) (by decide) (show xlc 1 = 64 by decide) (f := fun _ => 0) (xsup_z _)
      obtain ⟨lr143, hlr⟩ : ∃ zz9, zz9 = va_up lr142 (1) (fun _ => 0) := ⟨_, rfl⟩
      rw [← hlr] at hC
      have e8 : lr143 8 = xTm im kq := (congrFun hlr _).trans ((va_up_ne _ _ (by decide)).trans e8)
      have e3 : lr143 3 = xmul (xmul (im 2) (xTm im kq)) (xBm im kr) := (congrFun hlr _).trans ((va_up_ne _ _ (by decide)).trans e3)
      have e4 : lr143 4 = xmul (im 3) (xmM 63 (xTm im kq)) := (congrFun hlr _).trans ((va_up_ne _ _ (by decide)).trans e4)
      have e10 : lr143 10 = xmul (xmul (im 3) (xmM 63 (xTm im kq))) (xBm im kr) := (congrFun hlr _).trans ((va_up_ne _ _ (by decide)).trans e10)
      have e11 : lr143 11 = xfl M := (congrFun hlr _).trans ((va_up_ne _ _ (by decide)).trans e11)
      have e0 : lr143 0 = va_up (fun _ => 0) k 1 := (congrFun hlr _).trans ((va_up_ne _ _ (by decide)).trans e0)
      have e1 : lr143 1 = fun _ => 0 := (congrFun hlr _).trans (va_up_self _ _ _)
      refine lv_aload_n hx hb dX5_fill_183 rfl (lv_at hl 1 rfl) ?_
      refine xw_get C hw hC.o (ci := 4) rfl iX5_fill_X5 7 (by decide) (by decide +kernel) rfl dX5_fill_184 ?_
      refine lv_iload_n hx hb dX5_fill_187 rfl (lv_at hl 0 rfl) ?_
      refine lv_lconst (v := 1) hx hb dX5_fill_188 (by decide) ?_
      refine xw_tl (y := (xJ 1)) (xJ_1.symm) ?_
      refine xw_lastN C hw hS (hC.r 1 (by decide) e1) (show k < 64 by omega) (by decide) dX5_fill_189 (fun H locs hw hS => ?_)
      rw [xrowJ_up] at hw
      have hC := hC.set (i := 1) (by decide) (show xlc 1 = 64 by decide) (f := va_up (fun _ => 0) k 1) (xsup_up (hC.rs 1 (by decide) e1) (by omega))
      obtain ⟨lr144, hlr⟩ : ∃ zz9, zz9 = va_up lr143 (1) (va_up (fun _ => 0) k 1) := ⟨_, rfl⟩
      rw [← hlr] at hC
      have e8 : lr144 8 = xTm im kq := (congrFun hlr _).trans ((va_up_ne _ _ (by decide)).trans e8)
      have e3 : lr144 3 = xmul (xmul (im 2) (xTm im kq)) (xBm im kr) := (congrFun hlr _).trans ((va_up_ne _ _ (by decide)).trans e3)
      have e4 : lr144 4 = xmul (im 3) (xmM 63 (xTm im kq)) := (congrFun hlr _).trans ((va_up_ne _ _ (by decide)).trans e4)
      have e10 : lr144 10 = xmul (xmul (im 3) (xmM 63 (xTm im kq))) (xBm im kr) := (congrFun hlr _).trans ((va_up_ne _ _ (by decide)).trans e10)
      have e11 : lr144 11 = xfl M := (congrFun hlr _).trans ((va_up_ne _ _ (by decide)).trans e11)
      have e0 : lr144 0 = va_up (fun _ => 0) k 1 := (congrFun hlr _).trans ((va_up_ne _ _ (by decide)).trans e0)
      have e1 : lr144 1 = va_up (fun _ => 0) k 1 := (congrFun hlr _).trans (va_up_self _ _ _)
      refine lv_aload_n hx hb dX5_fill_190 rfl (lv_at hl 1 rfl) ?_
      refine xw_get C hw hC.o (ci := 4) rfl iX5_fill_X5 7 (by decide) (by decide +kernel) rfl dX5_fill_191 ?_
      refine xw_cv (xw_S (n := 1) (rest := []) C hw (kX5_move l G B _ (la 1) (va_up (fun _ => 0) k 1) (hC.r 1 (by decide) e1) (hC.rs 1 (by decide) e1)) gX5_fill_X5_move rfl rfl rfl (by decide +kernel) ⟨Nat.le_of_ble_eq_true rfl, Nat.le_of_ble_eq_true rfl⟩ rfl hl.1 rfl (Nat.le_of_ble_eq_true rfl) dX5_fill_194 ⟨Nat.le_of_ble_eq_true rfl, Nat.le_of_ble_eq_true rfl⟩ hS) hS (fun u H locs hpp hw hS => ?_)
      rw [hpp] at hw
      have hC := hC.set (i := 1) (by decide) (show xlc 1 = 64 by decide) (f := xmM 63 (va_up (fun _ => 0) k 1)) (xmM_sup (hC.rs 1 (by decide) e1) 63)
      obtain ⟨lr145, hlr⟩ : ∃ zz9, zz9 = va_up lr144 (1) (xmM 63 (va_up (fun _ => 0) k 1)) := ⟨_, rfl⟩
      rw [← hlr] at hC
      have e8 : lr145 8 = xTm im kq := (congrFun hlr _).trans ((va_up_ne _ _ (by decide)).trans e8)
      have e3 : lr145 3 = xmul (xmul (im 2) (xTm im kq)) (xBm im kr) := (congrFun hlr _).trans ((va_up_ne _ _ (by decide)).trans e3)
      have e4 : lr145 4 = xmul (im 3) (xmM 63 (xTm im kq)) := (congrFun hlr _).trans ((va_up_ne _ _ (by decide)).trans e4)
      have e10 : lr145 10 = xmul (xmul (im 3) (xmM 63 (xTm im kq))) (xBm im kr) := (congrFun hlr _).trans ((va_up_ne _ _ (by decide)).trans e10)
      have e11 : lr145 11 = xfl M := (congrFun hlr _).trans ((va_up_ne _ _ (by decide)).trans e11)
      have e0 : lr145 0 = va_up (fun _ => 0) k 1 := (congrFun hlr _).trans ((va_up_ne _ _ (by decide)).trans e0)
      have e1 : lr145 1 = xmM 63 (va_up (fun _ => 0) k 1) := (congrFun hlr _).trans (va_up_self _ _ _)
      refine lv_aload_n hx hb dX5_fill_197 rfl (lv_at hl 1 rfl) ?_
      refine lv_aload_n hx hb dX5_fill_198 rfl (lv_at hl 1 rfl) ?_
      refine xw_get C hw hC.o (ci := 4) rfl iX5_fill_X5 7 (by decide) (by decide +kernel) rfl dX5_fill_199 ?_
      refine lv_aload_n hx hb dX5_fill_202 rfl (lv_at hl 1 rfl) ?_
      refine xw_get C hw hC.o (ci := 4) rfl iX5_fill_X5 9 (by decide) (by decide +kernel) rfl dX5_fill_203 ?_
      refine xw_cv (xw_V (n := 2) (rest := []) C hw (kX5_multiply l G B _ mo la ia rq co mn im lr145 ro me wr hC 1 3 (by decide) (by decide) (by decide) (by decide) (xmM 63 (va_up (fun _ => 0) k 1)) (xmul (xmul (im 2) (xTm im kq)) (xBm im kr)) e1 e3 (Nat.le_trans (Nat.add_le_add (xlen_sle sMM) (xlen_sle sD)) (by decide))) gX5_fill_X5_multiply rfl rfl rfl (by decide +kernel) ⟨Nat.le_of_ble_eq_true rfl, Nat.le_of_ble_eq_true rfl⟩ hC.o rfl rfl hl.1 rfl (Nat.le_of_ble_eq_true rfl) dX5_fill_206 ⟨Nat.le_of_ble_eq_true rfl, Nat.le_of_ble_eq_true rfl⟩ hS) hS (fun u H locs hpp hw hS => ?_)
      rw [hpp] at hw
      have hC := hC.set (i := 5) (by decide) (show xlc 5 = 64 by decide) (f := xmul (xmM 63 (va_up (fun _ => 0) k 1)) (xmul (xmul (im 2) (xTm im kq)) (xBm im kr))) (xmul_s64 (hC.rs 1 (by decide) e1) (hC.rs 3 (by decide) e3) (Nat.le_trans (Nat.add_le_add (xlen_sle sMM) (xlen_sle sD)) (by decide)))
      obtain ⟨lr146, hlr⟩ : ∃ zz9, zz9 = va_up lr145 (5) (xmul (xmM 63 (va_up (fun _ => 0) k 1)) (xmul (xmul (im 2) (xTm im kq)) (xBm im kr))) := ⟨_, rfl⟩
      rw [← hlr] at hC
      have e8 : lr146 8 = xTm im kq := (congrFun hlr _).trans ((va_up_ne _ _ (by decide)).trans e8)
      have e3 : lr146 3 = xmul (xmul (im 2) (xTm im kq)) (xBm im kr) := (congrFun hlr _).trans ((va_up_ne _ _ (by decide)).trans e3)
      have e4 : lr146 4 = xmul (im 3) (xmM 63 (xTm im kq)) := (congrFun hlr _).trans ((va_up_ne _ _ (by decide)).trans e4)
      have e10 : lr146 10 = xmul (xmul (im 3) (xmM 63 (xTm im kq))) (xBm im kr) := (congrFun hlr _).trans ((va_up_ne _ _ (by decide)).trans e10)
      have e11 : lr146 11 = xfl M := (congrFun hlr _).trans ((va_up_ne _ _ (by decide)).trans e11)
      have e0 : lr146 0 = va_up (fun _ => 0) k 1 := (congrFun hlr _).trans ((va_up_ne _ _ (by decide)).trans e0)
      have e1 : lr146 1 = xmM 63 (va_up (fun _ => 0) k 1) := (congrFun hlr _).trans ((va_up_ne _ _ (by decide)).trans e1)
      have e5 : lr146 5 = xmul (xmM 63 (va_up (fun _ => 0) k 1)) (xmul (xmul (im 2) (xTm im kq)) (xBm im kr)) := (congrFun hlr _).trans (va_up_self _ _ _)
      refine lv_aload_n hx hb dX5_fill_209 rfl (lv_at hl 1 rfl) ?_
      refine xw_get C hw hC.o (ci := 4) rfl iX5_fill_X5 7 (by decide) (by decide +kernel) rfl dX5_fill_210 ?_
      refine lv_aload_n hx hb dX5_fill_213 rfl (lv_at hl 1 rfl) ?_
      refine xw_get C hw hC.o (ci := 4) rfl iX5_fill_X5 11 (by decide) (by decide +kernel) rfl dX5_fill_214 ?_
      refine xw_cv (xw_S (n := 2) (rest := []) C hw (kX5_copy l G B _ (la 1) (la 5) (xmM 63 (va_up (fun _ => 0) k 1)) (xmul (xmM 63 (va_up (fun _ => 0) k 1)) (xmul (xmul (im 2) (xTm im kq)) (xBm im kr))) (hC.r 1 (by decide) e1) (hC.r 5 (by decide) e5) (hC.ln (by decide) (by decide) (by decide)) (hC.rs 1 (by decide) e1) (hC.rs 5 (by decide) e5)) gX5_fill_X5_copy rfl rfl rfl (by decide +kernel) ⟨Nat.le_of_ble_eq_true rfl, Nat.le_of_ble_eq_true rfl⟩ rfl hl.1 rfl (Nat.le_of_ble_eq_true rfl) dX5_fill_217 ⟨Nat.le_of_ble_eq_true rfl, Nat.le_of_ble_eq_true rfl⟩ hS) hS (fun u H locs hpp hw hS => ?_)
      rw [hpp] at hw
      have hC := hC.set (i := 1) (by decide) (show xlc 1 = 64 by decide) (f := xmul (xmM 63 (va_up (fun _ => 0) k 1)) (xmul (xmul (im 2) (xTm im kq)) (xBm im kr))) ((hC.rs 5 (by decide) e5))
      obtain ⟨lr147, hlr⟩ : ∃ zz9, zz9 = va_up lr146 (1) (xmul (xmM 63 (va_up (fun _ => 0) k 1)) (xmul (xmul (im 2) (xTm im kq)) (xBm im kr))) := ⟨_, rfl⟩
      rw [← hlr] at hC
      have e8 : lr147 8 = xTm im kq := (congrFun hlr _).trans ((va_up_ne _ _ (by decide)).trans e8)
      have e3 : lr147 3 = xmul (xmul (im 2) (xTm im kq)) (xBm im kr) := (congrFun hlr _).trans ((va_up_ne _ _ (by decide)).trans e3)
      have e4 : lr147 4 = xmul (im 3) (xmM 63 (xTm im kq)) := (congrFun hlr _).trans ((va_up_ne _ _ (by decide)).trans e4)
      have e10 : lr147 10 = xmul (xmul (im 3) (xmM 63 (xTm im kq))) (xBm im kr) := (congrFun hlr _).trans ((va_up_ne _ _ (by decide)).trans e10)
      have e11 : lr147 11 = xfl M := (congrFun hlr _).trans ((va_up_ne _ _ (by decide)).trans e11)
      have e0 : lr147 0 = va_up (fun _ => 0) k 1 := (congrFun hlr _).trans ((va_up_ne _ _ (by decide)).trans e0)
      have e5 : lr147 5 = xmul (xmM 63 (va_up (fun _ => 0) k 1)) (xmul (xmul (im 2) (xTm im kq)) (xBm im kr)) := (congrFun hlr _).trans ((va_up_ne _ _ (by decide)).trans e5)
      have e1 : lr147 1 = xmul (xmM 63 (va_up (fun _ => 0) k 1)) (xmul (xmul (im 2) (xTm im kq)) (xBm im kr)) := (congrFun hlr _).trans (va_up_self _ _ _)
      refine lv_aload_n hx hb dX5_fill_220 rfl (lv_at hl 1 rfl) ?_
      refine lv_aload_n hx hb dX5_fill_221 rfl (lv_at hl 1 rfl) ?_
      refine xw_get C hw hC.o (ci := 4) rfl iX5_fill_X5 6 (by decide) (by decide +kernel) rfl dX5_fill_222 ?_
      refine lv_aload_n hx hb dX5_fill_225 rfl (lv_at hl 1 rfl) ?_
      refine xw_get C hw hC.o (ci := 4) rfl iX5_fill_X5 18 (by decide) (by decide +kernel) rfl dX5_fill_226 ?_
      refine xw_cv (xw_V (n := 2) (rest := []) C hw (kX5_multiply l G B _ mo la ia rq co mn im lr147 ro me wr hC 0 10 (by decide) (by decide) (by decide) (by decide) (va_up (fun _ => 0) k 1) (xmul (xmul (im 3) (xmM 63 (xTm im kq))) (xBm im kr)) e0 e10 (Nat.le_trans (Nat.add_le_add (xlen_sle sMo) (xlen_sle sQ3)) (by decide))) gX5_fill_X5_multiply rfl rfl rfl (by decide +kernel) ⟨Nat.le_of_ble_eq_true rfl, Nat.le_of_ble_eq_true rfl⟩ hC.o rfl rfl hl.1 rfl (Nat.le_of_ble_eq_true rfl) dX5_fill_229 ⟨Nat.le_of_ble_eq_true rfl, Nat.le_of_ble_eq_true rfl⟩ hS) hS (fun u H locs hpp hw hS => ?_)
      rw [hpp] at hw
      have hC := hC.set (i := 5) (by decide) (show xlc 5 = 64 by decide) (f := xmul (va_up (fun _ => 0) k 1) (xmul (xmul (im 3) (xmM 63 (xTm im kq))) (xBm im kr))) (xmul_s64 (hC.rs 0 (by decide) e0) (hC.rs 10 (by decide) e10) (Nat.le_trans (Nat.add_le_add (xlen_sle sMo) (xlen_sle sQ3)) (by decide)))
      obtain ⟨lr148, hlr⟩ : ∃ zz9, zz9 = va_up lr147 (5) (xmul (va_up (fun _ => 0) k 1) (xmul (xmul (im 3) (xmM 63 (xTm im kq))) (xBm im kr))) := ⟨_, rfl⟩
      rw [← hlr] at hC
      have e8 : lr148 8 = xTm im kq := (congrFun hlr _).trans ((va_up_ne _ _ (by decide)).trans e8)
      have e3 : lr148 3 = xmul (xmul (im 2) (xTm im kq)) (xBm im kr) := (congrFun hlr _).trans ((va_up_ne _ _ (by decide)).trans e3)
      have e4 : lr148 4 = xmul (im 3) (xmM 63 (xTm im kq)) := (congrFun hlr _).trans ((va_up_ne _ _ (by decide)).trans e4)
      have e10 : lr148 10 = xmul (xmul (im 3) (xmM 63 (xTm im kq))) (xBm im kr) := (congrFun hlr _).trans ((va_up_ne _ _ (by decide)).trans e10)
      have e11 : lr148 11 = xfl M := (congrFun hlr _).trans ((va_up_ne _ _ (by decide)).trans e11)
      have e0 : lr148 0 = va_up (fun _ => 0) k 1 := (congrFun hlr _).trans ((va_up_ne _ _ (by decide)).trans e0)
      have e1 : lr148 1 = xmul (xmM 63 (va_up (fun _ => 0) k 1)) (xmul (xmul (im 2) (xTm im kq)) (xBm im kr)) := (congrFun hlr _).trans ((va_up_ne _ _ (by decide)).trans e1)
      have e5 : lr148 5 = xmul (va_up (fun _ => 0) k 1) (xmul (xmul (im 3) (xmM 63 (xTm im kq))) (xBm im kr)) := (congrFun hlr _).trans (va_up_self _ _ _)
      refine lv_iconst (v := 0) hx hb dX5_fill_232 (by decide) ?_
      refine xw_ti (y := (nI 0)) (nI_0.symm) ?_
      refine lv_istore (lv' := [(4, .int (nI 0)), (3, .int (nI k)), (0, .ref mo), (1, .int (nI kr)), (2, .int (nI kq))]) hx hb dX5_fill_233 hl (by decide) rfl (fun ls hl => ?_)
      have inner : ∀ (d2 i : Nat) (w1 : xM) (lr5 : Nat → xP) (M2 : xMt) (ls : Array Slot) (H : Heap) (locs : List Loc), i + d2 = 64 → xML G w1 mo la ia rq co mn im lr5 ro me wr → lr5 8 = xTm im kq → lr5 3 = xmul (xmul (im 2) (xTm im kq)) (xBm im kr) → lr5 4 = xmul (im 3) (xmM 63 (xTm im kq)) → lr5 10 = xmul (xmul (im 3) (xmM 63 (xTm im kq))) (xBm im kr) → lr5 1 = xmul (xmM 63 (va_up (fun _ => 0) k 1)) (xmul (xmul (im 2) (xTm im kq)) (xBm im kr)) → lr5 5 = xmul (va_up (fun _ => 0) k 1) (xmul (xmul (im 3) (xmM 63 (xTm im kq))) (xBm im kr)) → lr5 11 = xfl M2 → (∀ j, j < k → ∀ i, i < 64 → M2 i j = xMcol (xBm im kr) (im 2) (im 3) (xTm im kq) j i) → (∀ j, j < i → M2 j k = xMcol (xBm im kr) (im 2) (im 3) (xTm im kq) k j) → xW G B w1 H → va_S (xA B) s.heap H locs → lv_has ls 5 [(4, .int (nI i)), (3, .int (nI k)), (0, .ref mo), (1, .int (nI kr)), (2, .int (nI kq))] → W p l ev rmX5_fill s m [.ref mo, .int (nI kr), .int (nI kq)].toArray below meth cd H locs 0 0 (MQ below (va_Qv (fun u => ∃ lr2 M, xML G u mo la ia rq co mn im lr2 ro me wr ∧ lr2 11 = xfl M ∧ (∀ k, k < 9 → ∀ i, i < 64 → M i k = xMcol (xBm im kr) (im 2) (im 3) (xTm im kq) k i) ∧ ∀ i, i < 64 → M i 9 = xMtgt (xTm im kr) (im 3) (xTm im kq) i) (xE G B) (xA B)) [.ref mo, .int (nI kr), .int (nI kq)].toArray s 0 0 (xA B)) (F0 m 235 ls []) := by
        intro d2
        induction d2 with
        | zero =>
          intro i w1 lr5 M2 ls H locs hi hC e8 e3 e4 e10 e1 e5 e11 hM2 hT hw hS hl
          refine lv_iload hx hb dX5_fill_235 (lv_at hl 0 rfl) ?_
          refine lv_bipush (v := 64) hx hb dX5_fill_237 (by decide) ?_
          refine xw_ti (y := (nI 64)) (by decide) ?_
          refine lv_icmp_ge (tgt := 283) hx hb dX5_fill_239 (by decide) (fun _ => ?_) (fun hc => absurd ((nI_leI (by omega) (by omega)).mpr (by omega)) hc)
          refine lv_iinc (v := (nI (k + 1))) (lv' := [(3, .int (nI (k + 1))), (4, .int (nI i)), (0, .ref mo), (1, .int (nI kr)), (2, .int (nI kq))]) hx hb dX5_fill_283 hl (k := 1) rfl (x_inc k) (by decide) rfl (fun ls hl => ?_)
          refine lv_goto (tgt := 156) hx hb dX5_fill_286 (by decide) ?_
          refine ih (k + 1) w1 lr5 M2 ls _ _ (by omega) hC e8 e3 e4 e10 e11 (fun j hj n hn => ?_) hw hS (lv_sub hl [0, 2, 3, 4] rfl)
          by_cases hjk : j = k
          · rw [hjk]; exact hT n (by omega)
          · exact hM2 j (by omega) n hn
        | succ d2 ih2 =>
          intro i w1 lr5 M2 ls H locs hi hC e8 e3 e4 e10 e1 e5 e11 hM2 hT hw hS hl
          refine lv_iload hx hb dX5_fill_235 (lv_at hl 0 rfl) ?_
          refine lv_bipush (v := 64) hx hb dX5_fill_237 (by decide) ?_
          refine xw_ti (y := (nI 64)) (by decide) ?_
          refine lv_icmp_ge (tgt := 283) hx hb dX5_fill_239 (by decide) (fun hc => absurd hc (fun q => absurd ((nI_leI (by omega) (by omega)).mp q) (by omega))) (fun _ => ?_)
          refine lv_aload_n hx hb dX5_fill_242 rfl (lv_at hl 2 rfl) ?_
          refine xw_get C hw hC.o (ci := 4) rfl iX5_fill_X5 14 (by decide) (by decide +kernel) rfl dX5_fill_243 ?_
          refine lv_bipush (v := 10) hx hb dX5_fill_246 (by decide) ?_
          refine xw_ti (y := (nI 10)) (by decide) ?_
          refine lv_iload hx hb dX5_fill_248 (lv_at hl 0 rfl) ?_
          refine lv_imul hx hb dX5_fill_250 ?_
          refine xw_ti (y := (nI (10 * i))) (pk_mul _ _) ?_
          refine lv_iload_n hx hb dX5_fill_251 rfl (lv_at hl 1 rfl) ?_
          refine lv_iadd hx hb dX5_fill_252 ?_
          refine xw_ti (y := (nI (10 * i + k))) (nI_add _ _) ?_
          refine lv_aload_n hx hb dX5_fill_253 rfl (lv_at hl 2 rfl) ?_
          refine xw_get C hw hC.o (ci := 4) rfl iX5_fill_X5 7 (by decide) (by decide +kernel) rfl dX5_fill_254 ?_
          refine lv_iload hx hb dX5_fill_257 (lv_at hl 0 rfl) ?_
          refine xw_laldN C hw (hC.r 1 (by decide) e1) (show i < 64 by omega) (by decide) dX5_fill_259 ?_
          refine xw_ldc2 C (v := 32003) (by decide +kernel) dX5_fill_260 ?_
          refine lv_ladd hx hb dX5_fill_263 ?_
          refine lv_aload_n hx hb dX5_fill_264 rfl (lv_at hl 2 rfl) ?_
          refine xw_get C hw hC.o (ci := 4) rfl iX5_fill_X5 11 (by decide) (by decide +kernel) rfl dX5_fill_265 ?_
          refine lv_iload hx hb dX5_fill_268 (lv_at hl 0 rfl) ?_
          refine xw_laldN C hw (hC.r 5 (by decide) e5) (show i < 64 by omega) (by decide) dX5_fill_270 ?_
          refine lv_lsub hx hb dX5_fill_271 ?_
          refine xw_ldc2 C (v := 32003) (by decide +kernel) dX5_fill_272 ?_
          refine lv_lrem hx hb dX5_fill_275 (by decide) ?_
          refine xw_tl (y := (xJ (xMcol (xBm im kr) (im 2) (im 3) (xTm im kq) k i))) (xl_sub _ _) ?_
          refine xw_lastN C hw hS (hC.t e11) (show 10 * i + k < 640 by omega) (by decide) dX5_fill_276 (fun H locs hw hS => ?_)
          rw [xrowJ_up, xmu_fl _ _ (show i < 64 by omega) (show k < 10 by omega)] at hw
          have hC := hC.set (i := 11) (by decide) (show xlc 11 = 640 by decide) (f := xfl (xmu M2 i k (xMcol (xBm im kr) (im 2) (im 3) (xTm im kq) k i))) (xfl_sup _)
          obtain ⟨lr161, hlr⟩ : ∃ zz9, zz9 = va_up lr5 11 (xfl (xmu M2 i k (xMcol (xBm im kr) (im 2) (im 3) (xTm im kq) k i))) := ⟨_, rfl⟩
          rw [← hlr] at hC
          have e8 : lr161 8 = xTm im kq := (congrFun hlr _).trans ((va_up_ne _ _ (by decide)).trans e8)
          have e3 : lr161 3 = xmul (xmul (im 2) (xTm im kq)) (xBm im kr) := (congrFun hlr _).trans ((va_up_ne _ _ (by decide)).trans e3)
          have e4 : lr161 4 = xmul (im 3) (xmM 63 (xTm im kq)) := (congrFun hlr _).trans ((va_up_ne _ _ (by decide)).trans e4)
          have e10 : lr161 10 = xmul (xmul (im 3) (xmM 63 (xTm im kq))) (xBm im kr) := (congrFun hlr _).trans ((va_up_ne _ _ (by decide)).trans e10)
          have e1 : lr161 1 = xmul (xmM 63 (va_up (fun _ => 0) k 1)) (xmul (xmul (im 2) (xTm im kq)) (xBm im kr)) := (congrFun hlr _).trans ((va_up_ne _ _ (by decide)).trans e1)
          have e5 : lr161 5 = xmul (va_up (fun _ => 0) k 1) (xmul (xmul (im 3) (xmM 63 (xTm im kq))) (xBm im kr)) := (congrFun hlr _).trans ((va_up_ne _ _ (by decide)).trans e5)
          have e11 : lr161 11 = xfl (xmu M2 i k (xMcol (xBm im kr) (im 2) (im 3) (xTm im kq) k i)) := (congrFun hlr _).trans (va_up_self _ _ _)
          refine lv_iinc (v := (nI (i + 1))) (lv' := [(4, .int (nI (i + 1))), (3, .int (nI k)), (0, .ref mo), (1, .int (nI kr)), (2, .int (nI kq))]) hx hb dX5_fill_277 hl (k := 0) rfl (x_inc i) (by decide) rfl (fun ls hl => ?_)
          refine lv_goto (tgt := 235) hx hb dX5_fill_280 (by decide) ?_
          refine ih2 (i + 1) _ lr161 _ ls _ _ (by omega) hC e8 e3 e4 e10 e1 e5 e11 (fun j hj n hn => ?_) (fun j hj => ?_) hw hS (lv_sub hl [0, 1, 2, 3, 4] rfl)
          · unfold xmu; rw [if_neg (by omega)]; exact hM2 j hj n hn
          · unfold xmu; by_cases hji : j = i
            · rw [if_pos ⟨hji, rfl⟩, hji]
            · rw [if_neg (fun q => hji q.1)]; exact hT j (by omega)
      exact inner 64 0 _ lr148 M ls _ _ rfl hC e8 e3 e4 e10 e1 e5 e11 hM (fun j hj => absurd hj (by omega)) hw hS (lv_sub hl [0, 1, 2, 3, 4] rfl)
  exact loop 9 0 _ lr14 M1 ls _ _ rfl hC e8 e3 e4 e10 e11 (fun j hj => absurd hj (by omega)) hw hS hl
