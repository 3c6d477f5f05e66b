/-! ===== the reference: mayBe, free; least; find; its constructor (laid by wip/whole/m_modp.py) ===== -/
abbrev rmX5_init : Room := { frames := 1, cells := 17, slots := 3461, locals := 21 }
theorem iX5_init_X5 : ∀ w ∈ wsX50, w ∈ wsX5_init := by decide +kernel
set_option maxHeartbeats 4000000 in
set_option maxRecDepth 100000 in
theorem kX5_init (l : Launch) (G : xG) (B : Nat) (w : xM) (h : Nat) (wr : xM) (hh : w h = some (.inr (4, [.int 0, .int 0, .null, .null, .null, .null, .null, .null, .null, .null, .null, .null, .null, .null, .null, .null, .null, .null, .null, .int 0]))) (hr : ∀ (a : Nat) (e : va_E), wr a = some e → w a = some e ∧ a ≠ h) : Met l yX5_init wsX5_init rmX5_init (va_Pc [.ref h] (xB G B w)) (va_Qv (fun u => ∃ (la ia : Nat → Nat) (rq : Nat) (im lr : Nat → xP) (ro : Nat → Option Nat), xML G u h la ia rq 0 0 im lr ro 0 wr ∧ im 2 = x1 ∧ im 3 = x1) (xE G B) (xA B)) 17 3461 (xA B) := by
  refine xw_start (own := RX5) (mn := "<init>") (cc := cX5_init) (nL := 1) (rt := none) (by decide) rfl rfl rfl (Nat.le_of_ble_eq_true rfl) ?_
  intro p ev s m below meth cd ls C hl hw hS
  obtain ⟨hx, hb, -, -, -, hts, -, -, -, -⟩ := id C
  have hl : lv_has ls 1 [(0, .ref h)] := hl
  have hB : xBr h w wr (fun _ => 0) (fun _ => .inr (0, [])) 0 := xBr.start hr
  refine lv_aload_n hx hb dX5_init_0 rfl (lv_at hl 0 rfl) ?_
  refine xw_obj C hl.1 (by decide +kernel) (by decide +kernel) (by decide +kernel) (Nat.le_of_ble_eq_true rfl) (Nat.le_of_ble_eq_true rfl) dX5_init_1 ?_
  refine lv_aload_n hx hb dX5_init_4 rfl (lv_at hl 0 rfl) ?_
  refine lv_sipush (v := 1050) hx hb dX5_init_5 (by decide) ?_
  refine xw_ti (y := (nI 1050)) (by decide) ?_
  refine xw_newa C hw hS 0 (by decide +kernel) rfl (N' := 1050) (a0 := (1050, .inl (fun _ => 0))) (xz_i 1050) (nI_pos (by decide)) (nI_clamp (by decide)) (by decide) (Nat.le_of_ble_eq_true rfl) (Nat.le_of_ble_eq_true rfl) dX5_init_8 (fun a0 H ha0 hw hS => ?_)
  obtain ⟨hB, hh⟩ := hB.add ha0 hh (.inl (G.2 0, 1050, .inl (fun _ => 0)))
  refine xw_putF C hw hS hh (ci := 4) rfl iX5_init_X5 tyX5 tyX5_ok nmX5 2 (by decide) (by decide +kernel) rfl rfl rfl (ty := (.array .int)) (by decide +kernel) rfl rfl (Nat.le_of_ble_eq_true rfl) dX5_init_10 (fun H locs hw hS => ?_)
  obtain ⟨w0, hB, hh, hw⟩ := hB.put (.inr (4, [.int 0, .int 0, .ref a0, .null, .null, .null, .null, .null, .null, .null, .null, .null, .null, .null, .null, .null, .null, .null, .null, .int 0])) hw
  refine lv_aload_n hx hb dX5_init_13 rfl (lv_at hl 0 rfl) ?_
  refine lv_sipush (v := 1050) hx hb dX5_init_14 (by decide) ?_
  refine xw_ti (y := (nI 1050)) (by decide) ?_
  refine xw_newa C hw hS 0 (by decide +kernel) rfl (N' := 1050) (a0 := (1050, .inl (fun _ => 0))) (xz_i 1050) (nI_pos (by decide)) (nI_clamp (by decide)) (by decide) (Nat.le_of_ble_eq_true rfl) (Nat.le_of_ble_eq_true rfl) dX5_init_17 (fun a1 H ha1 hw hS => ?_)
  obtain ⟨hB, hh⟩ := hB.add ha1 hh (.inl (G.2 0, 1050, .inl (fun _ => 0)))
  refine xw_putF C hw hS hh (ci := 4) rfl iX5_init_X5 tyX5 tyX5_ok nmX5 3 (by decide) (by decide +kernel) rfl rfl rfl (ty := (.array .int)) (by decide +kernel) rfl rfl (Nat.le_of_ble_eq_true rfl) dX5_init_19 (fun H locs hw hS => ?_)
  obtain ⟨w1, hB, hh, hw⟩ := hB.put (.inr (4, [.int 0, .int 0, .ref a0, .ref a1, .null, .null, .null, .null, .null, .null, .null, .null, .null, .null, .null, .null, .null, .null, .null, .int 0])) hw
  refine lv_aload_n hx hb dX5_init_22 rfl (lv_at hl 0 rfl) ?_
  refine lv_iconst (v := 4) hx hb dX5_init_23 (by decide) ?_
  refine xw_ti (y := (nI 4)) (by decide) ?_
  refine xw_newa C hw hS 0 (by decide +kernel) rfl (N' := 4) (a0 := (4, .inl (fun _ => 0))) (xz_i 4) (nI_pos (by decide)) (nI_clamp (by decide)) (by decide) (Nat.le_of_ble_eq_true rfl) (Nat.le_of_ble_eq_true rfl) dX5_init_24 (fun a2 H ha2 hw hS => ?_)
  obtain ⟨hB, hh⟩ := hB.add ha2 hh (.inl (G.2 0, 4, .inl (fun _ => 0)))
  refine xw_putF C hw hS hh (ci := 4) rfl iX5_init_X5 tyX5 tyX5_ok nmX5 4 (by decide) (by decide +kernel) rfl rfl rfl (ty := (.array .int)) (by decide +kernel) rfl rfl (Nat.le_of_ble_eq_true rfl) dX5_init_26 (fun H locs hw hS => ?_)
  obtain ⟨w2, hB, hh, hw⟩ := hB.put (.inr (4, [.int 0, .int 0, .ref a0, .ref a1, .ref a2, .null, .null, .null, .null, .null, .null, .null, .null, .null, .null, .null, .null, .null, .null, .int 0])) hw
  refine lv_aload_n hx hb dX5_init_29 rfl (lv_at hl 0 rfl) ?_
  refine lv_iconst (v := 4) hx hb dX5_init_30 (by decide) ?_
  refine xw_ti (y := (nI 4)) (by decide) ?_
  refine xw_newa C hw hS 0 (by decide +kernel) rfl (N' := 4) (a0 := (4, .inl (fun _ => 0))) (xz_i 4) (nI_pos (by decide)) (nI_clamp (by decide)) (by decide) (Nat.le_of_ble_eq_true rfl) (Nat.le_of_ble_eq_true rfl) dX5_init_31 (fun a3 H ha3 hw hS => ?_)
  obtain ⟨hB, hh⟩ := hB.add ha3 hh (.inl (G.2 0, 4, .inl (fun _ => 0)))
  refine xw_putF C hw hS hh (ci := 4) rfl iX5_init_X5 tyX5 tyX5_ok nmX5 5 (by decide) (by decide +kernel) rfl rfl rfl (ty := (.array .int)) (by decide +kernel) rfl rfl (Nat.le_of_ble_eq_true rfl) dX5_init_33 (fun H locs hw hS => ?_)
  obtain ⟨w3, hB, hh, hw⟩ := hB.put (.inr (4, [.int 0, .int 0, .ref a0, .ref a1, .ref a2, .ref a3, .null, .null, .null, .null, .null, .null, .null, .null, .null, .null, .null, .null, .null, .int 0])) hw
  refine lv_aload_n hx hb dX5_init_36 rfl (lv_at hl 0 rfl) ?_
  refine lv_bipush (v := 64) hx hb dX5_init_37 (by decide) ?_
  refine xw_ti (y := (nI 64)) (by decide) ?_
  refine xw_newa C hw hS 1 (by decide +kernel) rfl (N' := 64) (a0 := (64, .inr (.inl (fun _ => 0)))) (xz_l 64) (nI_pos (by decide)) (nI_clamp (by decide)) (by decide) (Nat.le_of_ble_eq_true rfl) (Nat.le_of_ble_eq_true rfl) dX5_init_39 (fun a4 H ha4 hw hS => ?_)
  obtain ⟨hB, hh⟩ := hB.add ha4 hh (.inl (G.2 1, 64, .inr (.inl (fun _ => 0))))
  refine xw_putF C hw hS hh (ci := 4) rfl iX5_init_X5 tyX5 tyX5_ok nmX5 6 (by decide) (by decide +kernel) rfl rfl rfl (ty := (.array .long)) (by decide +kernel) rfl rfl (Nat.le_of_ble_eq_true rfl) dX5_init_41 (fun H locs hw hS => ?_)
  obtain ⟨w4, hB, hh, hw⟩ := hB.put (.inr (4, [.int 0, .int 0, .ref a0, .ref a1, .ref a2, .ref a3, .ref a4, .null, .null, .null, .null, .null, .null, .null, .null, .null, .null, .null, .null, .int 0])) hw
  refine lv_aload_n hx hb dX5_init_44 rfl (lv_at hl 0 rfl) ?_
  refine lv_bipush (v := 64) hx hb dX5_init_45 (by decide) ?_
  refine xw_ti (y := (nI 64)) (by decide) ?_
  refine xw_newa C hw hS 1 (by decide +kernel) rfl (N' := 64) (a0 := (64, .inr (.inl (fun _ => 0)))) (xz_l 64) (nI_pos (by decide)) (nI_clamp (by decide)) (by decide) (Nat.le_of_ble_eq_true rfl) (Nat.le_of_ble_eq_true rfl) dX5_init_47 (fun a5 H ha5 hw hS => ?_)
  obtain ⟨hB, hh⟩ := hB.add ha5 hh (.inl (G.2 1, 64, .inr (.inl (fun _ => 0))))
  refine xw_putF C hw hS hh (ci := 4) rfl iX5_init_X5 tyX5 tyX5_ok nmX5 7 (by decide) (by decide +kernel) rfl rfl rfl (ty := (.array .long)) (by decide +kernel) rfl rfl (Nat.le_of_ble_eq_true rfl) dX5_init_49 (fun H locs hw hS => ?_)
  obtain ⟨w5, hB, hh, hw⟩ := hB.put (.inr (4, [.int 0, .int 0, .ref a0, .ref a1, .ref a2, .ref a3, .ref a4, .ref a5, .null, .null, .null, .null, .null, .null, .null, .null, .null, .null, .null, .int 0])) hw
  refine lv_aload_n hx hb dX5_init_52 rfl (lv_at hl 0 rfl) ?_
  refine lv_bipush (v := 64) hx hb dX5_init_53 (by decide) ?_
  refine xw_ti (y := (nI 64)) (by decide) ?_
  refine xw_newa C hw hS 1 (by decide +kernel) rfl (N' := 64) (a0 := (64, .inr (.inl (fun _ => 0)))) (xz_l 64) (nI_pos (by decide)) (nI_clamp (by decide)) (by decide) (Nat.le_of_ble_eq_true rfl) (Nat.le_of_ble_eq_true rfl) dX5_init_55 (fun a6 H ha6 hw hS => ?_)
  obtain ⟨hB, hh⟩ := hB.add ha6 hh (.inl (G.2 1, 64, .inr (.inl (fun _ => 0))))
  refine xw_putF C hw hS hh (ci := 4) rfl iX5_init_X5 tyX5 tyX5_ok nmX5 8 (by decide) (by decide +kernel) rfl rfl rfl (ty := (.array .long)) (by decide +kernel) rfl rfl (Nat.le_of_ble_eq_true rfl) dX5_init_57 (fun H locs hw hS => ?_)
  obtain ⟨w6, hB, hh, hw⟩ := hB.put (.inr (4, [.int 0, .int 0, .ref a0, .ref a1, .ref a2, .ref a3, .ref a4, .ref a5, .ref a6, .null, .null, .null, .null, .null, .null, .null, .null, .null, .null, .int 0])) hw
  refine lv_aload_n hx hb dX5_init_60 rfl (lv_at hl 0 rfl) ?_
  refine lv_bipush (v := 64) hx hb dX5_init_61 (by decide) ?_
  refine xw_ti (y := (nI 64)) (by decide) ?_
  refine xw_newa C hw hS 1 (by decide +kernel) rfl (N' := 64) (a0 := (64, .inr (.inl (fun _ => 0)))) (xz_l 64) (nI_pos (by decide)) (nI_clamp (by decide)) (by decide) (Nat.le_of_ble_eq_true rfl) (Nat.le_of_ble_eq_true rfl) dX5_init_63 (fun a7 H ha7 hw hS => ?_)
  obtain ⟨hB, hh⟩ := hB.add ha7 hh (.inl (G.2 1, 64, .inr (.inl (fun _ => 0))))
  refine xw_putF C hw hS hh (ci := 4) rfl iX5_init_X5 tyX5 tyX5_ok nmX5 9 (by decide) (by decide +kernel) rfl rfl rfl (ty := (.array .long)) (by decide +kernel) rfl rfl (Nat.le_of_ble_eq_true rfl) dX5_init_65 (fun H locs hw hS => ?_)
  obtain ⟨w7, hB, hh, hw⟩ := hB.put (.inr (4, [.int 0, .int 0, .ref a0, .ref a1, .ref a2, .ref a3, .ref a4, .ref a5, .ref a6, .ref a7, .null, .null, .null, .null, .null, .null, .null, .null, .null, .int 0])) hw
  refine lv_aload_n hx hb dX5_init_68 rfl (lv_at hl 0 rfl) ?_
  refine lv_bipush (v := 64) hx hb dX5_init_69 (by decide) ?_
  refine xw_ti (y := (nI 64)) (by decide) ?_
  refine xw_newa C hw hS 1 (by decide +kernel) rfl (N' := 64) (a0 := (64, .inr (.inl (fun _ => 0)))) (xz_l 64) (nI_pos (by decide)) (nI_clamp (by decide)) (by decide) (Nat.le_of_ble_eq_true rfl) (Nat.le_of_ble_eq_true rfl) dX5_init_71 (fun a8 H ha8 hw hS => ?_)
  obtain ⟨hB, hh⟩ := hB.add ha8 hh (.inl (G.2 1, 64, .inr (.inl (fun _ => 0))))
  refine xw_putF C hw hS hh (ci := 4) rfl iX5_init_X5 tyX5 tyX5_ok nmX5 10 (by decide) (by decide +kernel) rfl rfl rfl (ty := (.array .long)) (by decide +kernel) rfl rfl (Nat.le_of_ble_eq_true rfl) dX5_init_73 (fun H locs hw hS => ?_)
  obtain ⟨w8, hB, hh, hw⟩ := hB.put (.inr (4, [.int 0, .int 0, .ref a0, .ref a1, .ref a2, .ref a3, .ref a4, .ref a5, .ref a6, .ref a7, .ref a8, .null, .null, .null, .null, .null, .null, .null, .null, .int 0])) hw
  refine lv_aload_n hx hb dX5_init_76 rfl (lv_at hl 0 rfl) ?_
  refine lv_bipush (v := 64) hx hb dX5_init_77 (by decide) ?_
  refine xw_ti (y := (nI 64)) (by decide) ?_
  refine xw_newa C hw hS 1 (by decide +kernel) rfl (N' := 64) (a0 := (64, .inr (.inl (fun _ => 0)))) (xz_l 64) (nI_pos (by decide)) (nI_clamp (by decide)) (by decide) (Nat.le_of_ble_eq_true rfl) (Nat.le_of_ble_eq_true rfl) dX5_init_79 (fun a9 H ha9 hw hS => ?_)
  obtain ⟨hB, hh⟩ := hB.add ha9 hh (.inl (G.2 1, 64, .inr (.inl (fun _ => 0))))
  refine xw_putF C hw hS hh (ci := 4) rfl iX5_init_X5 tyX5 tyX5_ok nmX5 11 (by decide) (by decide +kernel) rfl rfl rfl (ty := (.array .long)) (by decide +kernel) rfl rfl (Nat.le_of_ble_eq_true rfl) dX5_init_81 (fun H locs hw hS => ?_)
  obtain ⟨w9, hB, hh, hw⟩ := hB.put (.inr (4, [.int 0, .int 0, .ref a0, .ref a1, .ref a2, .ref a3, .ref a4, .ref a5, .ref a6, .ref a7, .ref a8, .ref a9, .null, .null, .null, .null, .null, .null, .null, .int 0])) hw
  refine lv_aload_n hx hb dX5_init_84 rfl (lv_at hl 0 rfl) ?_
  refine lv_bipush (v := 64) hx hb dX5_init_85 (by decide) ?_
  refine xw_ti (y := (nI 64)) (by decide) ?_
  refine xw_newa C hw hS 1 (by decide +kernel) rfl (N' := 64) (a0 := (64, .inr (.inl (fun _ => 0)))) (xz_l 64) (nI_pos (by decide)) (nI_clamp (by decide)) (by decide) (Nat.le_of_ble_eq_true rfl) (Nat.le_of_ble_eq_true rfl) dX5_init_87 (fun a10 H ha10 hw hS => ?_)
  obtain ⟨hB, hh⟩ := hB.add ha10 hh (.inl (G.2 1, 64, .inr (.inl (fun _ => 0))))
  refine xw_putF C hw hS hh (ci := 4) rfl iX5_init_X5 tyX5 tyX5_ok nmX5 12 (by decide) (by decide +kernel) rfl rfl rfl (ty := (.array .long)) (by decide +kernel) rfl rfl (Nat.le_of_ble_eq_true rfl) dX5_init_89 (fun H locs hw hS => ?_)
  obtain ⟨w10, hB, hh, hw⟩ := hB.put (.inr (4, [.int 0, .int 0, .ref a0, .ref a1, .ref a2, .ref a3, .ref a4, .ref a5, .ref a6, .ref a7, .ref a8, .ref a9, .ref a10, .null, .null, .null, .null, .null, .null, .int 0])) hw
  refine lv_aload_n hx hb dX5_init_92 rfl (lv_at hl 0 rfl) ?_
  refine lv_bipush (v := 64) hx hb dX5_init_93 (by decide) ?_
  refine xw_ti (y := (nI 64)) (by decide) ?_
  refine xw_newa C hw hS 1 (by decide +kernel) rfl (N' := 64) (a0 := (64, .inr (.inl (fun _ => 0)))) (xz_l 64) (nI_pos (by decide)) (nI_clamp (by decide)) (by decide) (Nat.le_of_ble_eq_true rfl) (Nat.le_of_ble_eq_true rfl) dX5_init_95 (fun a11 H ha11 hw hS => ?_)
  obtain ⟨hB, hh⟩ := hB.add ha11 hh (.inl (G.2 1, 64, .inr (.inl (fun _ => 0))))
  refine xw_putF C hw hS hh (ci := 4) rfl iX5_init_X5 tyX5 tyX5_ok nmX5 13 (by decide) (by decide +kernel) rfl rfl rfl (ty := (.array .long)) (by decide +kernel) rfl rfl (Nat.le_of_ble_eq_true rfl) dX5_init_97 (fun H locs hw hS => ?_)
  obtain ⟨w11, hB, hh, hw⟩ := hB.put (.inr (4, [.int 0, .int 0, .ref a0, .ref a1, .ref a2, .ref a3, .ref a4, .ref a5, .ref a6, .ref a7, .ref a8, .ref a9, .ref a10, .ref a11, .null, .null, .null, .null, .null, .int 0])) hw
  refine lv_aload_n hx hb dX5_init_100 rfl (lv_at hl 0 rfl) ?_
  refine lv_sipush (v := 640) hx hb dX5_init_101 (by decide) ?_
  refine xw_ti (y := (nI 640)) (by decide) ?_
  refine xw_newa C hw hS 1 (by decide +kernel) rfl (N' := 640) (a0 := (640, .inr (.inl (fun _ => 0)))) (xz_l 640) (nI_pos (by decide)) (nI_clamp (by decide)) (by decide) (Nat.le_of_ble_eq_true rfl) (Nat.le_of_ble_eq_true rfl) dX5_init_104 (fun a12 H ha12 hw hS => ?_)
  obtain ⟨hB, hh⟩ := hB.add ha12 hh (.inl (G.2 1, 640, .inr (.inl (fun _ => 0))))
  refine xw_putF C hw hS hh (ci := 4) rfl iX5_init_X5 tyX5 tyX5_ok nmX5 14 (by decide) (by decide +kernel) rfl rfl rfl (ty := (.array .long)) (by decide +kernel) rfl rfl (Nat.le_of_ble_eq_true rfl) dX5_init_106 (fun H locs hw hS => ?_)
  obtain ⟨w12, hB, hh, hw⟩ := hB.put (.inr (4, [.int 0, .int 0, .ref a0, .ref a1, .ref a2, .ref a3, .ref a4, .ref a5, .ref a6, .ref a7, .ref a8, .ref a9, .ref a10, .ref a11, .ref a12, .null, .null, .null, .null, .int 0])) hw
  refine lv_aload_n hx hb dX5_init_109 rfl (lv_at hl 0 rfl) ?_
  refine lv_bipush (v := 9) hx hb dX5_init_110 (by decide) ?_
  refine xw_ti (y := (nI 9)) (by decide) ?_
  refine xw_newa C hw hS 0 (by decide +kernel) rfl (N' := 9) (a0 := (9, .inl (fun _ => 0))) (xz_i 9) (nI_pos (by decide)) (nI_clamp (by decide)) (by decide) (Nat.le_of_ble_eq_true rfl) (Nat.le_of_ble_eq_true rfl) dX5_init_112 (fun a13 H ha13 hw hS => ?_)
  obtain ⟨hB, hh⟩ := hB.add ha13 hh (.inl (G.2 0, 9, .inl (fun _ => 0)))
  refine xw_putF C hw hS hh (ci := 4) rfl iX5_init_X5 tyX5 tyX5_ok nmX5 15 (by decide) (by decide +kernel) rfl rfl rfl (ty := (.array .int)) (by decide +kernel) rfl rfl (Nat.le_of_ble_eq_true rfl) dX5_init_114 (fun H locs hw hS => ?_)
  obtain ⟨w13, hB, hh, hw⟩ := hB.put (.inr (4, [.int 0, .int 0, .ref a0, .ref a1, .ref a2, .ref a3, .ref a4, .ref a5, .ref a6, .ref a7, .ref a8, .ref a9, .ref a10, .ref a11, .ref a12, .ref a13, .null, .null, .null, .int 0])) hw
  refine lv_aload_n hx hb dX5_init_117 rfl (lv_at hl 0 rfl) ?_
  refine lv_bipush (v := 64) hx hb dX5_init_118 (by decide) ?_
  refine xw_ti (y := (nI 64)) (by decide) ?_
  refine xw_newa C hw hS 1 (by decide +kernel) rfl (N' := 64) (a0 := (64, .inr (.inl (fun _ => 0)))) (xz_l 64) (nI_pos (by decide)) (nI_clamp (by decide)) (by decide) (Nat.le_of_ble_eq_true rfl) (Nat.le_of_ble_eq_true rfl) dX5_init_120 (fun a14 H ha14 hw hS => ?_)
  obtain ⟨hB, hh⟩ := hB.add ha14 hh (.inl (G.2 1, 64, .inr (.inl (fun _ => 0))))
  refine xw_putF C hw hS hh (ci := 4) rfl iX5_init_X5 tyX5 tyX5_ok nmX5 16 (by decide) (by decide +kernel) rfl rfl rfl (ty := (.array .long)) (by decide +kernel) rfl rfl (Nat.le_of_ble_eq_true rfl) dX5_init_122 (fun H locs hw hS => ?_)
  obtain ⟨w14, hB, hh, hw⟩ := hB.put (.inr (4, [.int 0, .int 0, .ref a0, .ref a1, .ref a2, .ref a3, .ref a4, .ref a5, .ref a6, .ref a7, .ref a8, .ref a9, .ref a10, .ref a11, .ref a12, .ref a13, .ref a14, .null, .null, .int 0])) hw
  refine lv_aload_n hx hb dX5_init_125 rfl (lv_at hl 0 rfl) ?_
  refine lv_bipush (v := 64) hx hb dX5_init_126 (by decide) ?_
  refine xw_ti (y := (nI 64)) (by decide) ?_
  refine xw_newa C hw hS 1 (by decide +kernel) rfl (N' := 64) (a0 := (64, .inr (.inl (fun _ => 0)))) (xz_l 64) (nI_pos (by decide)) (nI_clamp (by decide)) (by decide) (Nat.le_of_ble_eq_true rfl) (Nat.le_of_ble_eq_true rfl) dX5_init_128 (fun a15 H ha15 hw hS => ?_)
  obtain ⟨hB, hh⟩ := hB.add ha15 hh (.inl (G.2 1, 64, .inr (.inl (fun _ => 0))))
  refine xw_putF C hw hS hh (ci := 4) rfl iX5_init_X5 tyX5 tyX5_ok nmX5 17 (by decide) (by decide +kernel) rfl rfl rfl (ty := (.array .long)) (by decide +kernel) rfl rfl (Nat.le_of_ble_eq_true rfl) dX5_init_130 (fun H locs hw hS => ?_)
  obtain ⟨w15, hB, hh, hw⟩ := hB.put (.inr (4, [.int 0, .int 0, .ref a0, .ref a1, .ref a2, .ref a3, .ref a4, .ref a5, .ref a6, .ref a7, .ref a8, .ref a9, .ref a10, .ref a11, .ref a12, .ref a13, .ref a14, .ref a15, .null, .int 0])) hw
  refine lv_aload_n hx hb dX5_init_133 rfl (lv_at hl 0 rfl) ?_
  refine lv_bipush (v := 64) hx hb dX5_init_134 (by decide) ?_
  refine xw_ti (y := (nI 64)) (by decide) ?_
  refine xw_newa C hw hS 1 (by decide +kernel) rfl (N' := 64) (a0 := (64, .inr (.inl (fun _ => 0)))) (xz_l 64) (nI_pos (by decide)) (nI_clamp (by decide)) (by decide) (Nat.le_of_ble_eq_true rfl) (Nat.le_of_ble_eq_true rfl) dX5_init_136 (fun a16 H ha16 hw hS => ?_)
  obtain ⟨hB, hh⟩ := hB.add ha16 hh (.inl (G.2 1, 64, .inr (.inl (fun _ => 0))))
  refine xw_putF C hw hS hh (ci := 4) rfl iX5_init_X5 tyX5 tyX5_ok nmX5 18 (by decide) (by decide +kernel) rfl rfl rfl (ty := (.array .long)) (by decide +kernel) rfl rfl (Nat.le_of_ble_eq_true rfl) dX5_init_138 (fun H locs hw hS => ?_)
  obtain ⟨w16, hB, hh, hw⟩ := hB.put (.inr (4, [.int 0, .int 0, .ref a0, .ref a1, .ref a2, .ref a3, .ref a4, .ref a5, .ref a6, .ref a7, .ref a8, .ref a9, .ref a10, .ref a11, .ref a12, .ref a13, .ref a14, .ref a15, .ref a16, .int 0])) hw
  have hz2 := (hB.1 2 (by decide)).1
  refine lv_aload_n hx hb dX5_init_141 rfl (lv_at hl 0 rfl) ?_
  refine xw_get C hw hh (ci := 4) rfl iX5_init_X5 4 (by decide) (by decide +kernel) rfl dX5_init_142 ?_
  refine lv_iconst (v := 0) hx hb dX5_init_145 (by decide) ?_
  refine xw_ti (y := (nI 0)) (nI_0.symm) ?_
  refine lv_iconst (v := 1) hx hb dX5_init_146 (by decide) ?_
  refine xw_iastN C hw hS hz2 (show 0 < 4 by decide) (by decide) dX5_init_147 (fun H locs hw hS => ?_)
  obtain ⟨hB, hh⟩ := hB.set (i := 2) (by decide) hh (xIr G 4 x1)
  rw [show upd (fun _ => (0 : Int32)) 0 1 = xrow x1 from xrow_1] at hw
  have hz3 := (hB.1 3 (by decide)).1
  refine lv_aload_n hx hb dX5_init_148 rfl (lv_at hl 0 rfl) ?_
  refine xw_get C hw hh (ci := 4) rfl iX5_init_X5 5 (by decide) (by decide +kernel) rfl dX5_init_149 ?_
  refine lv_iconst (v := 0) hx hb dX5_init_152 (by decide) ?_
  refine xw_ti (y := (nI 0)) (nI_0.symm) ?_
  refine lv_iconst (v := 1) hx hb dX5_init_153 (by decide) ?_
  refine xw_iastN C hw hS hz3 (show 0 < 4 by decide) (by decide) dX5_init_154 (fun H locs hw hS => ?_)
  obtain ⟨hB, hh⟩ := hB.set (i := 3) (by decide) hh (xIr G 4 x1)
  rw [show upd (fun _ => (0 : Int32)) 0 1 = xrow x1 from xrow_1] at hw
  exact xw_vret C hw hS (Nat.le_of_ble_eq_true rfl) (Nat.le_of_ble_eq_true rfl) (by obtain ⟨la, ia, rq, h9⟩ := xML.make (im := fun i => if i < 2 then fun _ => 0 else x1) hB hh (fun i hi => by rcases (show i = 0 ∨ i = 1 ∨ i = 2 ∨ i = 3 by omega) with rfl | rfl | rfl | rfl; exact ⟨xel_z 1050, xsup_z _⟩; exact ⟨xel_z 1050, xsup_z _⟩; exact ⟨rfl, xc_sup (by decide)⟩; exact ⟨rfl, xc_sup (by decide)⟩) (fun i hi => by rcases (show i = 4 ∨ i = 5 ∨ i = 6 ∨ i = 7 ∨ i = 8 ∨ i = 9 ∨ i = 10 ∨ i = 11 ∨ i = 14 ∨ i = 15 ∨ i = 16 by omega) with rfl | rfl | rfl | rfl | rfl | rfl | rfl | rfl | rfl | rfl | rfl <;> exact xel_zl 64) (xel_zl 640) rfl; exact ⟨la, ia, rq, _, _, _, h9, rfl, rfl⟩) dX5_init_155
