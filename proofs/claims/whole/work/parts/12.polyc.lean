/-! ===== Polynomial, its constructors and division; Fraction (laid by wip/whole/m_polyc.py) ===== -/
abbrev rmX3_divide : Room := { frames := 2, cells := 0, slots := 0, locals := 49 }
theorem iX3_divide_X3 : ∀ w ∈ wsX30, w ∈ wsX3_divide := by decide +kernel
set_option maxHeartbeats 4000000 in
set_option maxRecDepth 100000 in
theorem kX3_divide (l : Launch) (G : xG) (B : Nat) (w : xM) (h r n : Nat) (f : xP) (h2 r2 n2 : Nat) (g : xP) (h3 r3 n3 : Nat) (z : xP) (hp : xPoly G w h r n f) (hg : xPoly G w h2 r2 n2 g) (hz : xPoly G w h3 r3 n3 z) (a1 : h2 ≠ h) (b1 : r2 ≠ r) (a2 : h3 ≠ h) (b2 : r3 ≠ r) (a3 : h3 ≠ h2) (b3 : r3 ≠ r2) (hg0 : xlen g n2 ≠ 0) (hfit : xlen f n ≤ n3) : Met l yX3_divide wsX3_divide rmX3_divide (va_Pc [.ref h, .ref h2, .ref h3] (xB G B w)) (va_Qv (fun u => u = xset G (xset G w h r n (xdv g (xlen g n2 - 1) (xinv (g (xlen g n2 - 1))) (xlen f n + 1 - xlen g n2) f (fun _ => 0)).1) h3 r3 n3 (xdv g (xlen g n2 - 1) (xinv (g (xlen g n2 - 1))) (xlen f n + 1 - xlen g n2) f (fun _ => 0)).2) (xE G B) (xA B)) 0 0 (xA B) := by
  refine xw_start (own := RX3) (mn := "divide") (cc := cX3_divide) (nL := 6) (rt := none) (by decide) rfl rfl rfl (Nat.le_of_ble_eq_true rfl) ?_
  intro p ev s m below meth cd ls C hl hw hS
  obtain ⟨hx, hb, -, -, -, hts, -, -, -, -⟩ := id C
  have hl : lv_has ls 6 [(0, .ref h), (1, .ref h2), (2, .ref h3)] := hl
  have hn := hp.2.2.2
  have hn2 := hg.2.2.2
  have hn3 := hz.2.2.2
  have hlf := xlen_le f n
  have hlg := xlen_le g n2
  have hsf := xlen_sup hp.2.2.1
  have hsg := xlen_sup hg.2.2.1
  have c1 := hp.ne2 hg
  have c2 := hp.ne2 hz
  have c3 := hg.ne2 hz
  obtain ⟨b, hbb⟩ : ∃ b, xlen g n2 = b + 1 := ⟨xlen g n2 - 1, by omega⟩
  obtain ⟨iv, hiv⟩ : ∃ iv, iv = xinv (g (xlen g n2 - 1)) := ⟨_, rfl⟩
  refine lv_aload_n hx hb dX3_divide_0 rfl (lv_at hl 2 rfl) ?_
  refine xw_cv (xw_V (n := 0) (rest := []) C hw (kX3_clear l G B w h3 r3 n3 z hz) gX3_divide_X3_clear rfl rfl rfl (by decide +kernel) ⟨Nat.le_of_ble_eq_true rfl, Nat.le_of_ble_eq_true rfl⟩ (hz).1 rfl rfl hl.1 rfl (Nat.le_of_ble_eq_true rfl) dX3_divide_1 ⟨Nat.le_of_ble_eq_true rfl, Nat.le_of_ble_eq_true rfl⟩ hS) hS (fun u H locs hpp hw hS => ?_)
  rw [hpp] at hw
  have hp1 : xPoly G (xset G w h3 r3 n3 (fun _ => 0)) h r n f := xset_n hp (Ne.symm a2) (Ne.symm b2) (Ne.symm c2.2) c2.1
  have hg1 : xPoly G (xset G w h3 r3 n3 (fun _ => 0)) h2 r2 n2 g := xset_n hg (Ne.symm a3) (Ne.symm b3) (Ne.symm c3.2) c3.1
  refine lv_aload_n hx hb dX3_divide_4 rfl (lv_at hl 1 rfl) ?_
  refine xw_ci (xw_V (n := 0) (rest := []) C hw (kX3_isZero l G B _ h2 r2 n2 g hg1) gX3_divide_X3_isZero rfl rfl rfl (by decide +kernel) ⟨Nat.le_of_ble_eq_true rfl, Nat.le_of_ble_eq_true rfl⟩ (hg1).1 rfl rfl hl.1 rfl (Nat.le_of_ble_eq_true rfl) dX3_divide_5 ⟨Nat.le_of_ble_eq_true rfl, Nat.le_of_ble_eq_true rfl⟩ hS) hS (fun rq q H locs hq hw hS => ?_)
  obtain ⟨hq, hu⟩ := hq
  rw [hu] at hw
  have hq : rq = 0 := by
    rcases hq with ⟨-, q⟩ | ⟨q, -⟩
    · exact absurd q hg0
    · exact q
  refine xw_ti (y := 0) (hq) ?_
  refine lv_if_eq (tgt := 12) hx hb dX3_divide_8 (by decide) (fun _ => ?_) (fun hc => absurd (rfl) hc)
  refine lv_aload_n hx hb dX3_divide_12 rfl (lv_at hl 1 rfl) ?_
  refine xw_ci (xw_V (n := 0) (rest := []) C hw (kX3_leading l G B _ h2 r2 n2 g hg1) gX3_divide_X3_leading rfl rfl rfl (by decide +kernel) ⟨Nat.le_of_ble_eq_true rfl, Nat.le_of_ble_eq_true rfl⟩ (hg1).1 rfl rfl hl.1 rfl (Nat.le_of_ble_eq_true rfl) dX3_divide_13 ⟨Nat.le_of_ble_eq_true rfl, Nat.le_of_ble_eq_true rfl⟩ hS) hS (fun ru u H locs hp hw hS => ?_)
  obtain ⟨hr, hu⟩ := hp
  rw [hu] at hw
  refine xw_ti (y := (xI (g b))) (hr.trans (by rw [xcf_hi hn2 hbb])) ?_
  refine xw_ci (xw_S (n := 1) (rest := []) C hw (kX2_inverse l G B _ (g b)) gX3_divide_X2_inverse rfl rfl rfl (by decide +kernel) ⟨Nat.le_of_ble_eq_true rfl, Nat.le_of_ble_eq_true rfl⟩ rfl hl.1 rfl (Nat.le_of_ble_eq_true rfl) dX3_divide_16 ⟨Nat.le_of_ble_eq_true rfl, Nat.le_of_ble_eq_true rfl⟩ hS) hS (fun ru u H locs hp hw hS => ?_)
  obtain ⟨hr, hu⟩ := hp
  rw [hu] at hw
  refine xw_ti (y := (xI iv)) (hr.trans (by rw [hiv, hbb]; rfl)) ?_
  refine lv_istore_n (lv' := [(3, .int (xI iv)), (0, .ref h), (1, .ref h2), (2, .ref h3)]) hx hb dX3_divide_19 rfl hl (by decide) rfl (fun ls hl => ?_)
  refine lv_aload_n hx hb dX3_divide_20 rfl (lv_at hl 1 rfl) ?_
  refine xw_get C hw (hp1).1 (ci := 2) rfl iX3_divide_X3 1 (by decide) (by decide +kernel) rfl dX3_divide_21 ?_
  refine lv_aload_n hx hb dX3_divide_24 rfl (lv_at hl 2 rfl) ?_
  refine xw_get C hw (hg1).1 (ci := 2) rfl iX3_divide_X3 1 (by decide) (by decide +kernel) rfl dX3_divide_25 ?_
  refine lv_isub hx hb dX3_divide_28 ?_
  by_cases hcmp : xlen f n < xlen g n2
  · skip
    refine lv_istore (lv' := [(4, .int ((xhi f n) - (xhi g n2))), (3, .int (xI iv)), (0, .ref h), (1, .ref h2), (2, .ref h3)]) hx hb dX3_divide_29 hl (by decide) rfl (fun ls hl => ?_)
    refine lv_iload hx hb dX3_divide_31 (lv_at hl 0 rfl) ?_
    refine lv_if_lt (tgt := 80) hx hb dX3_divide_33 (by decide) (fun _ => ?_) (fun hc => absurd ((x_hh_lt (by omega) (by omega)).mpr hcmp) hc)
    exact xw_vret C hw hS (Nat.le_of_ble_eq_true rfl) (Nat.le_of_ble_eq_true rfl) (by rw [show xlen f n + 1 - xlen g n2 = 0 by omega, xdv_0]; show _ = xset G (xset G w h r n f) h3 r3 n3 (fun _ => 0); rw [xset_id hp]) dX3_divide_80
  · skip
    refine xw_ti (y := (nI (xlen f n + 1 - xlen g n2) - 1)) (by unfold xhi; rw [x_hh_sub (by omega) (by omega), show xlen f n - xlen g n2 + 1 = xlen f n + 1 - xlen g n2 by omega]) ?_
    refine lv_istore (lv' := [(4, .int (nI (xlen f n + 1 - xlen g n2) - 1)), (3, .int (xI iv)), (0, .ref h), (1, .ref h2), (2, .ref h3)]) hx hb dX3_divide_29 hl (by decide) rfl (fun ls hl => ?_)
    have loop : ∀ (j : Nat) (f1 z1 : xP) (ls : Array Slot) (H : Heap) (locs : List Loc), j ≤ xlen f n + 1 - xlen g n2 → xsup f1 n → xsup z1 n3 → xdv g b iv j f1 z1 = xdv g b iv (xlen f n + 1 - xlen g n2) f (fun _ => 0) → xW G B (xset G (xset G w h r n f1) h3 r3 n3 z1) H → va_S (xA B) s.heap H locs → lv_has ls 6 [(4, .int (nI j - 1)), (3, .int (xI iv)), (0, .ref h), (1, .ref h2), (2, .ref h3)] → W p l ev rmX3_divide s m [.ref h, .ref h2, .ref h3].toArray below meth cd H locs 0 0 (MQ below (va_Qv (fun u => u = xset G (xset G w h r n (xdv g (xlen g n2 - 1) (xinv (g (xlen g n2 - 1))) (xlen f n + 1 - xlen g n2) f (fun _ => 0)).1) h3 r3 n3 (xdv g (xlen g n2 - 1) (xinv (g (xlen g n2 - 1))) (xlen f n + 1 - xlen g n2) f (fun _ => 0)).2) (xE G B) (xA B)) [.ref h, .ref h2, .ref h3].toArray s 0 0 (xA B)) (F0 m 31 ls []) := by
      intro j
      induction j with
      | zero =>
        intro f1 z1 ls H locs hj hs1 hs2 he hw hS hl
        refine lv_iload hx hb dX3_divide_31 (lv_at hl 0 rfl) ?_
        refine lv_if_lt (tgt := 80) hx hb dX3_divide_33 (by decide) (fun _ => ?_) (fun hc => absurd (x_neg) hc)
        exact xw_vret C hw hS (Nat.le_of_ble_eq_true rfl) (Nat.le_of_ble_eq_true rfl) (by rw [← hiv, show xlen g n2 - 1 = b by omega, ← he, xdv_0]) dX3_divide_80
      | succ j ih =>
        intro f1 z1 ls H locs hj hs1 hs2 he hw hS hl
        have i0 : xPoly G (xset G (xset G w h r n f1) h3 r3 n3 z1) h r n f1 := xset_n (xset_s hp.ne hs1 hn) (Ne.symm a2) (Ne.symm b2) (Ne.symm c2.2) c2.1
        have i2 : xPoly G (xset G (xset G w h r n f1) h3 r3 n3 z1) h2 r2 n2 g := xset_n (xset_n hg a1 b1 (Ne.symm c1.1) c1.2) (Ne.symm a3) (Ne.symm b3) (Ne.symm c3.2) c3.1
        have i3 : xPoly G (xset G (xset G w h r n f1) h3 r3 n3 z1) h3 r3 n3 z1 := xset_s hz.ne hs2 hn3
        have hl : lv_has ls 6 [(4, .int (nI j)), (3, .int (xI iv)), (0, .ref h), (1, .ref h2), (2, .ref h3)] := by rw [← (show (nI (j + 1) - 1) = (nI j) from x_m1 j)]; exact hl
        refine lv_iload hx hb dX3_divide_31 (lv_at hl 0 rfl) ?_
        refine lv_if_lt (tgt := 80) hx hb dX3_divide_33 (by decide) (fun hc => absurd hc (nI_pos (by omega))) (fun _ => ?_)
        refine lv_aload_n hx hb dX3_divide_36 rfl (lv_at hl 2 rfl) ?_
        refine lv_iload hx hb dX3_divide_37 (lv_at hl 0 rfl) ?_
        refine lv_aload_n hx hb dX3_divide_39 rfl (lv_at hl 3 rfl) ?_
        refine xw_get C hw (i2).1 (ci := 2) rfl iX3_divide_X3 1 (by decide) (by decide +kernel) rfl dX3_divide_40 ?_
        refine lv_iadd hx hb dX3_divide_43 ?_
        refine xw_ti (y := (nI (j + b))) (by unfold xhi; rw [hbb, x_m1, nI_add]) ?_
        refine xw_ci (xw_V (n := 1) (rest := []) C hw (kX3_coefficient l G B _ h r n f1 (nI (j + b)) i0) gX3_divide_X3_coefficient rfl rfl rfl (by decide +kernel) ⟨Nat.le_of_ble_eq_true rfl, Nat.le_of_ble_eq_true rfl⟩ (i0).1 rfl rfl hl.1 rfl (Nat.le_of_ble_eq_true rfl) dX3_divide_44 ⟨Nat.le_of_ble_eq_true rfl, Nat.le_of_ble_eq_true rfl⟩ hS) hS (fun ru u H locs hp hw hS => ?_)
        obtain ⟨hr, hu⟩ := hp
        rw [hu] at hw
        refine xw_ti (y := (xI (f1 (j + b)))) (hr.trans (by rw [xcf_n _ (by omega)])) ?_
        refine lv_iload_n hx hb dX3_divide_47 rfl (lv_at hl 1 rfl) ?_
        refine xw_ci (xw_S (n := 2) (rest := []) C hw (kX2_product l G B _ (f1 (j + b)) iv) gX3_divide_X2_product rfl rfl rfl (by decide +kernel) ⟨Nat.le_of_ble_eq_true rfl, Nat.le_of_ble_eq_true rfl⟩ rfl hl.1 rfl (Nat.le_of_ble_eq_true rfl) dX3_divide_48 ⟨Nat.le_of_ble_eq_true rfl, Nat.le_of_ble_eq_true rfl⟩ hS) hS (fun ru u H locs hp hw hS => ?_)
        obtain ⟨hr, hu⟩ := hp
        rw [hu] at hw
        refine xw_ti (y := (xI (f1 (j + b) * iv))) (hr) ?_
        refine lv_istore (lv' := [(5, .int (xI (f1 (j + b) * iv))), (4, .int (nI j)), (3, .int (xI iv)), (0, .ref h), (1, .ref h2), (2, .ref h3)]) hx hb dX3_divide_51 hl (by decide) rfl (fun ls hl => ?_)
        refine lv_aload_n hx hb dX3_divide_53 rfl (lv_at hl 5 rfl) ?_
        refine lv_iload hx hb dX3_divide_54 (lv_at hl 1 rfl) ?_
        refine lv_iload hx hb dX3_divide_56 (lv_at hl 0 rfl) ?_
        refine xw_cv (xw_V (n := 2) (rest := []) C hw (kX3_put l G B _ h3 r3 n3 z1 j (f1 (j + b) * iv) i3 (by omega)) gX3_divide_X3_put rfl rfl rfl (by decide +kernel) ⟨Nat.le_of_ble_eq_true rfl, Nat.le_of_ble_eq_true rfl⟩ (i3).1 rfl rfl hl.1 rfl (Nat.le_of_ble_eq_true rfl) dX3_divide_58 ⟨Nat.le_of_ble_eq_true rfl, Nat.le_of_ble_eq_true rfl⟩ hS) hS (fun u H locs hpp hw hS => ?_)
        rw [hpp] at hw
        rw [xset_u hz.ne] at hw
        have j0 : xPoly G (xset G (xset G w h r n f1) h3 r3 n3 (va_up z1 j (f1 (j + b) * iv))) h r n f1 := xset_n (xset_s hp.ne hs1 hn) (Ne.symm a2) (Ne.symm b2) (Ne.symm c2.2) c2.1
        have j2 : xPoly G (xset G (xset G w h r n f1) h3 r3 n3 (va_up z1 j (f1 (j + b) * iv))) h2 r2 n2 g := xset_n (xset_n hg a1 b1 (Ne.symm c1.1) c1.2) (Ne.symm a3) (Ne.symm b3) (Ne.symm c3.2) c3.1
        refine lv_aload_n hx hb dX3_divide_61 rfl (lv_at hl 3 rfl) ?_
        refine lv_aload_n hx hb dX3_divide_62 rfl (lv_at hl 4 rfl) ?_
        refine lv_sipush (v := 32003) hx hb dX3_divide_63 (by decide) ?_
        refine lv_iload hx hb dX3_divide_66 (lv_at hl 0 rfl) ?_
        refine lv_isub hx hb dX3_divide_68 ?_
        refine xw_ti (y := (nI (32003 - (f1 (j + b) * iv).val))) (x_P_sub _) ?_
        refine lv_iload hx hb dX3_divide_69 (lv_at hl 1 rfl) ?_
        refine xw_cv (xw_V (n := 3) (rest := []) C hw (kX3_gather l G B _ h r n f1 h2 r2 n2 g j0 j2 a1 b1 (32003 - (f1 (j + b) * iv).val) j (by omega) (by omega)) gX3_divide_X3_gather rfl rfl rfl (by decide +kernel) ⟨Nat.le_of_ble_eq_true rfl, Nat.le_of_ble_eq_true rfl⟩ (j0).1 rfl rfl hl.1 rfl (Nat.le_of_ble_eq_true rfl) dX3_divide_71 ⟨Nat.le_of_ble_eq_true rfl, Nat.le_of_ble_eq_true rfl⟩ hS) hS (fun u H locs hpp hw hS => ?_)
        rw [hpp] at hw
        rw [xset_c (Ne.symm a2) (Ne.symm b2) (Ne.symm c2.2) c2.1, xset_u hp.ne] at hw
        refine lv_iinc (v := (nI j - 1)) (lv' := [(4, .int (nI j - 1)), (5, .int (xI (f1 (j + b) * iv))), (3, .int (xI iv)), (0, .ref h), (1, .ref h2), (2, .ref h3)]) hx hb dX3_divide_74 hl (k := 1) rfl (x_dec _) (by decide) rfl (fun ls hl => ?_)
        refine lv_goto (tgt := 31) hx hb dX3_divide_77 (by decide) ?_
        exact ih _ _ ls _ _ (by omega) (xgat_sup hs1 hsg (by omega)) (xsup_up hs2 (by omega)) (by rw [← he, xdv_s]) hw hS (lv_sub hl [0, 2, 3, 4, 5] rfl)
    exact loop (xlen f n + 1 - xlen g n2) f (fun _ => 0) ls _ _ (Nat.le_refl _) hp.2.2.1 (xsup_z _) rfl (by rw [xset_id hp]; exact hw) hS hl

abbrev rmX3_init : Room := { frames := 1, cells := 1, slots := 64, locals := 21 }
theorem iX3_init_X3 : ∀ w ∈ wsX30, w ∈ wsX3_init := by decide +kernel
set_option maxHeartbeats 4000000 in
set_option maxRecDepth 100000 in
theorem kX3_init (l : Launch) (G : xG) (B : Nat) (w : xM) (h q : Nat) (hh : w h = some (.inr (2, [.null, .int 0]))) (hq : q ≤ 64) : Met l yX3_init wsX3_init rmX3_init (va_Pc [.ref h, .int (nI q)] (xB G B w)) (va_Qv (fun u => ∃ r, w r = none ∧ r ≠ h ∧ u = xset G w h r q (fun _ => 0)) (xE G B) (xA B)) 1 64 (xA B) := by
  refine xw_start (own := RX3) (mn := "<init>") (cc := cX3_init) (nL := 2) (rt := none) (by decide) rfl rfl rfl (Nat.le_of_ble_eq_true rfl) ?_
  intro p ev s m below meth cd ls C hl hw hS
  obtain ⟨hx, hb, -, -, -, hts, -, -, -, -⟩ := id C
  have hl : lv_has ls 2 [(0, .ref h), (1, .int (nI q))] := hl
  refine lv_aload_n hx hb dX3_init_0 rfl (lv_at hl 0 rfl) ?_
  refine xw_obj C hl.1 (by decide +kernel) (by decide +kernel) (by decide +kernel) (Nat.le_of_ble_eq_true rfl) (Nat.le_of_ble_eq_true rfl) dX3_init_1 ?_
  refine lv_aload_n hx hb dX3_init_4 rfl (lv_at hl 0 rfl) ?_
  refine lv_iload_n hx hb dX3_init_5 rfl (lv_at hl 1 rfl) ?_
  refine lv_iconst (v := 0) hx hb dX3_init_6 (by decide) ?_
  refine xw_max C hl.1 (by decide +kernel) (by decide +kernel) (by decide +kernel) (by decide +kernel) (Nat.le_of_ble_eq_true rfl) (Nat.le_of_ble_eq_true rfl) (Nat.le_of_ble_eq_true rfl) (Nat.le_of_ble_eq_true rfl) (z := nI q) (if_neg (nI_pos (by omega))) dX3_init_7 ?_
  refine xw_newa C hw hS 0 (by decide +kernel) rfl (N' := q) (a0 := (q, .inl (fun _ => 0))) (fun _ => rfl) (nI_pos (by omega)) (nI_clamp (by omega)) (by show q * 4 ≤ _; omega) (Nat.le_of_ble_eq_true rfl) (by show 0 + q ≤ 64; omega) dX3_init_10 (fun r H hr hw hS => ?_)
  have hrh : r ≠ h := fun q9 => by rw [q9, hh] at hr; cases hr
  have h1 : xu w r (.inl (G.2 0, q, .inl (fun _ => 0))) h = some (.inr (2, [.null, .int 0])) := (xu_n _ _ (Ne.symm hrh)).trans hh
  refine xw_putF C hw hS h1 (ci := 2) rfl iX3_init_X3 tyX3 tyX3_ok nmX3 0 (by decide) (by decide +kernel) rfl rfl rfl (ty := (.array .int)) (by decide +kernel) rfl rfl (Nat.le_of_ble_eq_true rfl) dX3_init_12 (fun H locs hw hS => ?_)
  have hw : xW G B (xu (xu w r (.inl (G.2 0, q, .inl (fun _ => 0)))) h (.inr (2, [.ref r, .int 0]))) H := hw
  refine lv_aload_n hx hb dX3_init_15 rfl (lv_at hl 0 rfl) ?_
  refine lv_iconst (v := (-1)) hx hb dX3_init_16 (by decide) ?_
  refine xw_put C hw hS (xu_s _ _ _) (ci := 2) rfl iX3_init_X3 tyX3 tyX3_ok nmX3 1 (by decide) (by decide +kernel) rfl (ty := .int) (by decide +kernel) rfl rfl (Nat.le_of_ble_eq_true rfl) dX3_init_17 (fun H locs hw hS => ?_)
  have hw : xW G B (xset G w h r q (fun _ => 0)) H := by rw [xu_u] at hw; unfold xset; rw [xhi_z, show xrow (fun _ => 0) = fun _ => 0 from funext fun _ => xI_0]; exact hw
  exact xw_vret C hw hS (Nat.le_of_ble_eq_true rfl) (by show 0 + q ≤ 64; omega) (⟨r, hr, hrh, rfl⟩) dX3_init_20

abbrev rmX3_init_ : Room := { frames := 3, cells := 1, slots := 64, locals := 66 }
theorem iX3_init__X3 : ∀ w ∈ wsX30, w ∈ wsX3_init_ := by decide +kernel
set_option maxHeartbeats 4000000 in
set_option maxRecDepth 100000 in
theorem kX3_init_ (l : Launch) (G : xG) (B : Nat) (w : xM) (h : Nat) (h2 r2 n2 : Nat) (g : xP) (hh : w h = some (.inr (2, [.null, .int 0]))) (hg : xPoly G w h2 r2 n2 g) (hne : h2 ≠ h) : Met l yX3_init_ wsX3_init_ rmX3_init_ (va_Pc [.ref h, .ref h2] (xB G B w)) (va_Qv (fun u => ∃ r, w r = none ∧ r ≠ h ∧ u = xset G w h r (xlen g n2) g) (xE G B) (xA B)) 1 64 (xA B) := by
  refine xw_start (own := RX3) (mn := "<init>") (cc := cX3_init_) (nL := 2) (rt := none) (by decide) rfl rfl rfl (Nat.le_of_ble_eq_true rfl) ?_
  intro p ev s m below meth cd ls C hl hw hS
  obtain ⟨hx, hb, -, -, -, hts, -, -, -, -⟩ := id C
  have hl : lv_has ls 2 [(0, .ref h), (1, .ref h2)] := hl
  have hn2 := hg.2.2.2
  have hlen := xlen_le g n2
  refine lv_aload_n hx hb dX3_init__0 rfl (lv_at hl 0 rfl) ?_
  refine xw_obj C hl.1 (by decide +kernel) (by decide +kernel) (by decide +kernel) (Nat.le_of_ble_eq_true rfl) (Nat.le_of_ble_eq_true rfl) dX3_init__1 ?_
  refine lv_aload_n hx hb dX3_init__4 rfl (lv_at hl 0 rfl) ?_
  refine lv_aload_n hx hb dX3_init__5 rfl (lv_at hl 1 rfl) ?_
  refine xw_get C hw (hg).1 (ci := 2) rfl iX3_init__X3 1 (by decide) (by decide +kernel) rfl dX3_init__6 ?_
  refine lv_iconst (v := 1) hx hb dX3_init__9 (by decide) ?_
  refine lv_iadd hx hb dX3_init__10 ?_
  refine xw_ti (y := (nI (xlen g n2))) (by unfold xhi; exact Int32.sub_add_cancel _ _) ?_
  refine lv_iconst (v := 0) hx hb dX3_init__11 (by decide) ?_
  refine xw_max C hl.1 (by decide +kernel) (by decide +kernel) (by decide +kernel) (by decide +kernel) (Nat.le_of_ble_eq_true rfl) (Nat.le_of_ble_eq_true rfl) (Nat.le_of_ble_eq_true rfl) (Nat.le_of_ble_eq_true rfl) (z := nI (xlen g n2)) (if_neg (nI_pos (by omega))) dX3_init__12 ?_
  refine xw_newa C hw hS 0 (by decide +kernel) rfl (N' := (xlen g n2)) (a0 := ((xlen g n2), .inl (fun _ => 0))) (fun _ => rfl) (nI_pos (by omega)) (nI_clamp (by omega)) (by show (xlen g n2) * 4 ≤ _; omega) (Nat.le_of_ble_eq_true rfl) (by show 0 + (xlen g n2) ≤ 64; omega) dX3_init__15 (fun r H hr hw hS => ?_)
  have hrh : r ≠ h := fun q9 => by rw [q9, hh] at hr; cases hr
  have h1 : xu w r (.inl (G.2 0, xlen g n2, .inl (fun _ => 0))) h = some (.inr (2, [.null, .int 0])) := (xu_n _ _ (Ne.symm hrh)).trans hh
  refine xw_putF C hw hS h1 (ci := 2) rfl iX3_init__X3 tyX3 tyX3_ok nmX3 0 (by decide) (by decide +kernel) rfl rfl rfl (ty := (.array .int)) (by decide +kernel) rfl rfl (Nat.le_of_ble_eq_true rfl) dX3_init__17 (fun H locs hw hS => ?_)
  have hw : xW G B (xu (xu w r (.inl (G.2 0, xlen g n2, .inl (fun _ => 0)))) h (.inr (2, [.ref r, .int 0]))) H := hw
  refine lv_aload_n hx hb dX3_init__20 rfl (lv_at hl 0 rfl) ?_
  refine lv_iconst (v := (-1)) hx hb dX3_init__21 (by decide) ?_
  refine xw_put C hw hS (xu_s _ _ _) (ci := 2) rfl iX3_init__X3 tyX3 tyX3_ok nmX3 1 (by decide) (by decide +kernel) rfl (ty := .int) (by decide +kernel) rfl rfl (Nat.le_of_ble_eq_true rfl) dX3_init__22 (fun H locs hw hS => ?_)
  have hw : xW G B (xset G w h r (xlen g n2) (fun _ => 0)) H := by rw [xu_u] at hw; unfold xset; rw [xhi_z, show xrow (fun _ => 0) = fun _ => 0 from funext fun _ => xI_0]; exact hw
  have k1 : r ≠ h2 := fun q9 => by rw [q9, hg.1] at hr; cases hr
  have k2 : r2 ≠ r := fun q9 => by rw [← q9, hg.2.1] at hr; cases hr
  have k3 : r2 ≠ h := fun q9 => by rw [← q9, hg.2.1] at hh; cases hh
  have hp0 : xPoly G (xset G w h r (xlen g n2) (fun _ => 0)) h r (xlen g n2) (fun _ => 0) := xset_s hrh (xsup_z _) (by omega)
  have hg0 : xPoly G (xset G w h r (xlen g n2) (fun _ => 0)) h2 r2 n2 g := xset_n hg hne k2 (Ne.symm k1) k3
  refine lv_aload_n hx hb dX3_init__25 rfl (lv_at hl 0 rfl) ?_
  refine lv_aload_n hx hb dX3_init__26 rfl (lv_at hl 1 rfl) ?_
  refine xw_cv (xw_V (n := 1) (rest := []) C hw (kX3_copy l G B _ h r (xlen g n2) _ h2 r2 n2 g hp0 hg0 hne k2 (Nat.le_refl _)) gX3_init__X3_copy rfl rfl rfl (by decide +kernel) ⟨Nat.le_of_ble_eq_true rfl, Nat.le_of_ble_eq_true rfl⟩ (hp0).1 rfl rfl hl.1 rfl (Nat.le_of_ble_eq_true rfl) dX3_init__27 ⟨Nat.le_of_ble_eq_true rfl, by show 0 + xlen g n2 + 0 ≤ 64; omega⟩ hS) hS (fun u H locs hpp hw hS => ?_)
  rw [hpp] at hw
  rw [xset_u hrh] at hw
  exact xw_vret C hw hS (Nat.le_of_ble_eq_true rfl) (by show 0 + xlen g n2 + 0 ≤ 64; omega) (⟨r, hr, hrh, rfl⟩) dX3_init__30

abbrev rmX1_part : Room := { frames := 0, cells := 0, slots := 0, locals := 0 }
theorem iX1_part_X1 : ∀ w ∈ wsX10, w ∈ wsX1_part := by decide +kernel
set_option maxHeartbeats 4000000 in
set_option maxRecDepth 100000 in
theorem kX1_part (l : Launch) (G : xG) (B : Nat) (w : xM) (h a b : Nat) (x : Int32) (hh : w h = some (.inr (1, [.ref a, .ref b]))) : Met l yX1_part wsX1_part rmX1_part (va_Pc [.ref h, .int x] (xB G B w)) (xQr G B (fun z u => z = (if x = 0 then b else a) ∧ u = w)) 0 0 (xA B) := by
  refine xw_start (own := RX1) (mn := "part") (cc := cX1_part) (nL := 2) (rt := (some (.object "CertificateSums$Polynomial"))) (by decide) rfl rfl rfl (Nat.le_of_ble_eq_true rfl) ?_
  intro p ev s m below meth cd ls C hl hw hS
  obtain ⟨hx, hb, -, -, -, hts, -, -, -, -⟩ := id C
  have hl : lv_has ls 2 [(0, .ref h), (1, .int x)] := hl
  refine lv_iload_n hx hb dX1_part_0 rfl (lv_at hl 1 rfl) ?_
  refine lv_if_eq (tgt := 11) hx hb dX1_part_1 (by decide) (fun hc => ?_) (fun hc => ?_)
  · skip
    refine lv_aload_n hx hb dX1_part_11 rfl (lv_at hl 0 rfl) ?_
    refine xw_get C hw hh (ci := 1) rfl iX1_part_X1 1 (by decide) (by decide +kernel) rfl dX1_part_12 ?_
    exact xw_aret C hw hS (Nat.le_of_ble_eq_true rfl) (Nat.le_of_ble_eq_true rfl) (⟨by rw [if_pos hc], rfl⟩) dX1_part_15
  · skip
    refine lv_aload_n hx hb dX1_part_4 rfl (lv_at hl 0 rfl) ?_
    refine xw_get C hw hh (ci := 1) rfl iX1_part_X1 0 (by decide) (by decide +kernel) rfl dX1_part_5 ?_
    refine lv_goto (tgt := 15) hx hb dX1_part_8 (by decide) ?_
    exact xw_aret C hw hS (Nat.le_of_ble_eq_true rfl) (Nat.le_of_ble_eq_true rfl) (⟨by rw [if_neg hc], rfl⟩) dX1_part_15
