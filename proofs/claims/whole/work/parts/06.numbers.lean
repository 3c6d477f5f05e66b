/-! ===== Numbers (laid by wip/whole/m_numbers.py) ===== -/
abbrev rmX2_reduced : Room := { frames := 0, cells := 0, slots := 0, locals := 0 }
set_option maxHeartbeats 4000000 in
set_option maxRecDepth 100000 in
/-- Numbers.reduced: the number modulo 32003 -/
theorem kX2_reduced (l : Launch) (G : xG) (B : Nat) (w : xM) (v : Int64) : Met l yX2_reduced wsX2_reduced rmX2_reduced (va_Pc [.long v] (xB G B w)) (va_Qi (fun r u => r = xI (xR v) ∧ u = w) (xE G B) (xA B)) 0 0 (xA B) := by
  refine xw_start (own := RX2) (mn := "reduced") (cc := cX2_reduced) (nL := 3) (rt := (some .int)) (by decide) rfl rfl rfl (Nat.le_of_ble_eq_true rfl) ?_
  intro p ev s m below meth cd ls C hl hw hS
  obtain ⟨hx, hb, -, -, -, hts, -, -, -, -⟩ := id C
  have hl : lv_has ls 3 [(0, .long v)] := hl
  refine lv_lload_n hx hb dX2_reduced_0 rfl (lv_at hl 0 rfl) ?_
  refine xw_ldc2 C (v := 32003) (by decide +kernel) dX2_reduced_1 ?_
  refine lv_lrem hx hb dX2_reduced_4 (by decide) ?_
  refine lv_l2i (v := ((v - v / 32003 * 32003)).toInt32) hx hb dX2_reduced_5 rfl ?_
  refine lv_istore_n (lv' := [(2, .int (((v - v / 32003 * 32003)).toInt32)), (0, .long v)]) hx hb dX2_reduced_6 rfl hl (by decide) rfl (fun ls hl => ?_)
  refine lv_iload_n hx hb dX2_reduced_7 rfl (lv_at hl 0 rfl) ?_
  refine lv_if_ge (tgt := 19) hx hb dX2_reduced_8 (by decide) (fun hc => ?_) (fun hc => ?_)
  · skip
    refine lv_iload_n hx hb dX2_reduced_19 rfl (lv_at hl 0 rfl) ?_
    exact xw_iret C hw hS (Nat.le_of_ble_eq_true rfl) (Nat.le_of_ble_eq_true rfl) (⟨x_red_p hc, rfl⟩) dX2_reduced_20
  · skip
    refine lv_iload_n hx hb dX2_reduced_11 rfl (lv_at hl 0 rfl) ?_
    refine lv_sipush (v := 32003) hx hb dX2_reduced_12 (by decide) ?_
    refine lv_iadd hx hb dX2_reduced_15 ?_
    refine lv_goto (tgt := 20) hx hb dX2_reduced_16 (by decide) ?_
    exact xw_iret C hw hS (Nat.le_of_ble_eq_true rfl) (Nat.le_of_ble_eq_true rfl) (⟨x_red_n hc, rfl⟩) dX2_reduced_20

abbrev rmX2_product : Room := { frames := 1, cells := 0, slots := 0, locals := 22 }
set_option maxHeartbeats 4000000 in
set_option maxRecDepth 100000 in
theorem kX2_product (l : Launch) (G : xG) (B : Nat) (w : xM) (x y : xF) : Met l yX2_product wsX2_product rmX2_product (va_Pc [.int (xI x), .int (xI y)] (xB G B w)) (va_Qi (fun r u => r = xI (x * y) ∧ u = w) (xE G B) (xA B)) 0 0 (xA B) := by
  refine xw_start (own := RX2) (mn := "product") (cc := cX2_product) (nL := 2) (rt := (some .int)) (by decide) rfl rfl rfl (Nat.le_of_ble_eq_true rfl) ?_
  intro p ev s m below meth cd ls C hl hw hS
  obtain ⟨hx, hb, -, -, -, hts, -, -, -, -⟩ := id C
  have hl : lv_has ls 2 [(0, .int (xI x)), (1, .int (xI y))] := hl
  refine lv_iload_n hx hb dX2_product_0 rfl (lv_at hl 0 rfl) ?_
  refine lv_i2l (v := ((xI x)).toInt64) hx hb dX2_product_1 rfl ?_
  refine lv_iload_n hx hb dX2_product_2 rfl (lv_at hl 1 rfl) ?_
  refine lv_i2l (v := ((xI y)).toInt64) hx hb dX2_product_3 rfl ?_
  refine lv_lmul hx hb dX2_product_4 ?_
  refine xw_tl (y := (xJ x * xJ y)) (by rw [xI_l, xI_l]) ?_
  refine xw_ci (xw_S (n := 1) (rest := []) C hw (kX2_reduced l G B w (xJ x * xJ y)) gX2_product_X2_reduced rfl rfl rfl (by decide +kernel) ⟨Nat.le_of_ble_eq_true rfl, Nat.le_of_ble_eq_true rfl⟩ rfl hl.1 rfl (Nat.le_of_ble_eq_true rfl) dX2_product_5 ⟨Nat.le_of_ble_eq_true rfl, Nat.le_of_ble_eq_true rfl⟩ hS) hS (fun ru u H locs hp hw hS => ?_)
  obtain ⟨hr, hu⟩ := hp
  rw [hu] at hw
  refine xw_ti (y := (xI (x * y))) (hr.trans (by rw [xR_mul])) ?_
  exact xw_iret C hw hS (Nat.le_of_ble_eq_true rfl) (Nat.le_of_ble_eq_true rfl) (⟨rfl, rfl⟩) dX2_product_8

abbrev rmX2_inverse : Room := { frames := 1, cells := 0, slots := 0, locals := 22 }
set_option maxHeartbeats 4000000 in
set_option maxRecDepth 100000 in
theorem kX2_inverse (l : Launch) (G : xG) (B : Nat) (w : xM) (x : xF) : Met l yX2_inverse wsX2_inverse rmX2_inverse (va_Pc [.int (xI x)] (xB G B w)) (va_Qi (fun r u => r = xI (xinv x) ∧ u = w) (xE G B) (xA B)) 0 0 (xA B) := by
  refine xw_start (own := RX2) (mn := "inverse") (cc := cX2_inverse) (nL := 4) (rt := (some .int)) (by decide) rfl rfl rfl (Nat.le_of_ble_eq_true rfl) ?_
  intro p ev s m below meth cd ls C hl hw hS
  obtain ⟨hx, hb, -, -, -, hts, -, -, -, -⟩ := id C
  have hl : lv_has ls 4 [(0, .int (xI x))] := hl
  refine lv_iconst (v := 1) hx hb dX2_inverse_0 (by decide) ?_
  refine lv_istore_n (lv' := [(1, .int 1), (0, .int (xI x))]) hx hb dX2_inverse_1 rfl hl (by decide) rfl (fun ls hl => ?_)
  refine lv_iload_n hx hb dX2_inverse_2 rfl (lv_at hl 1 rfl) ?_
  refine lv_istore_n (lv' := [(2, .int (xI x)), (1, .int 1), (0, .int (xI x))]) hx hb dX2_inverse_3 rfl hl (by decide) rfl (fun ls hl => ?_)
  refine lv_sipush (v := 32001) hx hb dX2_inverse_4 (by decide) ?_
  refine lv_istore_n (lv' := [(3, .int 32001), (2, .int (xI x)), (1, .int 1), (0, .int (xI x))]) hx hb dX2_inverse_7 rfl hl (by decide) rfl (fun ls hl => ?_)
  have loop : ∀ (f n : Nat) (r t : xF) (ls : Array Slot) (H : Heap) (locs : List Loc), n < 2 ^ f → n < 40000 → xW G B w H → va_S (xA B) s.heap H locs → lv_has ls 4 [(3, .int (nI n)), (2, .int (xI t)), (1, .int (xI r)), (0, .int (xI x))] → xpw f n r t = xinv x → W p l ev rmX2_inverse s m [.int (xI x)].toArray below meth cd H locs 0 0 (MQ below (va_Qi (fun r u => r = xI (xinv x) ∧ u = w) (xE G B) (xA B)) [.int (xI x)].toArray s 0 0 (xA B)) (F0 m 8 ls []) := by
    intro f
    induction f with
    | zero =>
      intro n r t ls H locs hn hn2 hw hS hl hv
      have hn0 : n = 0 := by simpa using hn
      subst hn0
      refine lv_iload_n hx hb dX2_inverse_8 rfl (lv_at hl 0 rfl) ?_
      refine lv_if_le (tgt := 44) hx hb dX2_inverse_9 (by decide) (fun _ => ?_) (fun hc => absurd (by decide) hc)
      refine lv_iload_n hx hb dX2_inverse_44 rfl (lv_at hl 2 rfl) ?_
      exact xw_iret C hw hS (Nat.le_of_ble_eq_true rfl) (Nat.le_of_ble_eq_true rfl) (⟨by rw [← hv, xpw_0], rfl⟩) dX2_inverse_45
    | succ f ih =>
      intro n r t ls H locs hn hn2 hw hS hl hv
      by_cases hz : n = 0
      · subst hz
        refine lv_iload_n hx hb dX2_inverse_8 rfl (lv_at hl 0 rfl) ?_
        refine lv_if_le (tgt := 44) hx hb dX2_inverse_9 (by decide) (fun _ => ?_) (fun hc => absurd (by decide) hc)
        refine lv_iload_n hx hb dX2_inverse_44 rfl (lv_at hl 2 rfl) ?_
        exact xw_iret C hw hS (Nat.le_of_ble_eq_true rfl) (Nat.le_of_ble_eq_true rfl) (⟨by rw [← hv, xpw_0], rfl⟩) dX2_inverse_45
      · rw [xpw_s _ _ hz] at hv
        refine lv_iload_n hx hb dX2_inverse_8 rfl (lv_at hl 0 rfl) ?_
        refine lv_if_le (tgt := 44) hx hb dX2_inverse_9 (by decide) (fun hc => absurd hc (nI_nle (Nat.pos_of_ne_zero hz) (by omega))) (fun _ => ?_)
        refine lv_iload_n hx hb dX2_inverse_12 rfl (lv_at hl 0 rfl) ?_
        refine lv_iconst (v := 1) hx hb dX2_inverse_13 (by decide) ?_
        refine lv_iand hx hb dX2_inverse_14 ?_
        refine xw_ti (y := (nI (n % 2))) (pk_andN (m := 1) (by omega) 1 (by decide)) ?_
        refine lv_iconst (v := 1) hx hb dX2_inverse_15 (by decide) ?_
        refine xw_ti (y := (nI 1)) (by decide) ?_
        refine lv_icmp_ne (tgt := 28) hx hb dX2_inverse_16 (by decide) (fun hc => ?_) (fun hc => ?_)
        · skip
          have hm : ¬ n % 2 = 1 := fun q => hc (by rw [q])
          refine lv_iload_n hx hb dX2_inverse_28 rfl (lv_at hl 1 rfl) ?_
          refine lv_i2l (v := ((xI t)).toInt64) hx hb dX2_inverse_29 rfl ?_
          refine lv_iload_n hx hb dX2_inverse_30 rfl (lv_at hl 1 rfl) ?_
          refine lv_i2l (v := ((xI t)).toInt64) hx hb dX2_inverse_31 rfl ?_
          refine lv_lmul hx hb dX2_inverse_32 ?_
          refine xw_tl (y := (xJ t * xJ t)) (by rw [xI_l]) ?_
          refine xw_ci (xw_S (n := 1) (rest := []) C hw (kX2_reduced l G B w (xJ t * xJ t)) gX2_inverse_X2_reduced rfl rfl rfl (by decide +kernel) ⟨Nat.le_of_ble_eq_true rfl, Nat.le_of_ble_eq_true rfl⟩ rfl hl.1 rfl (Nat.le_of_ble_eq_true rfl) dX2_inverse_33 ⟨Nat.le_of_ble_eq_true rfl, Nat.le_of_ble_eq_true rfl⟩ hS) hS (fun ru u H locs hp hw hS => ?_)
          obtain ⟨hr, hu⟩ := hp
          rw [hu] at hw
          refine xw_ti (y := (xI (t * t))) (hr.trans (by rw [xR_mul])) ?_
          refine lv_istore_n (lv' := [(2, .int (xI (t * t))), (3, .int (nI n)), (1, .int (xI r)), (0, .int (xI x))]) hx hb dX2_inverse_36 rfl hl (by decide) rfl (fun ls hl => ?_)
          refine lv_iload_n hx hb dX2_inverse_37 rfl (lv_at hl 1 rfl) ?_
          refine lv_iconst (v := 1) hx hb dX2_inverse_38 (by decide) ?_
          refine lv_ishr hx hb dX2_inverse_39 ?_
          refine xw_ti (y := (nI (n / 2))) (pk_shrN (by omega) _ 1 (by decide)) ?_
          refine lv_istore_n (lv' := [(3, .int (nI (n / 2))), (2, .int (xI (t * t))), (1, .int (xI r)), (0, .int (xI x))]) hx hb dX2_inverse_40 rfl hl (by decide) rfl (fun ls hl => ?_)
          refine lv_goto (tgt := 8) hx hb dX2_inverse_41 (by decide) ?_
          exact ih (n / 2) r (t * t) _ _ _ (by rw [Nat.pow_succ] at hn; omega) (by omega) hw hS (lv_sub hl [0, 1, 2, 3] rfl) (by rw [if_neg hm] at hv; exact hv)
        · skip
          have hm : n % 2 = 1 := (nI_eq (by omega) (by omega)).mp hc
          refine lv_iload_n hx hb dX2_inverse_19 rfl (lv_at hl 2 rfl) ?_
          refine lv_i2l (v := ((xI r)).toInt64) hx hb dX2_inverse_20 rfl ?_
          refine lv_iload_n hx hb dX2_inverse_21 rfl (lv_at hl 1 rfl) ?_
          refine lv_i2l (v := ((xI t)).toInt64) hx hb dX2_inverse_22 rfl ?_
          refine lv_lmul hx hb dX2_inverse_23 ?_
          refine xw_tl (y := (xJ r * xJ t)) (by rw [xI_l, xI_l]) ?_
          refine xw_ci (xw_S (n := 1) (rest := []) C hw (kX2_reduced l G B w (xJ r * xJ t)) gX2_inverse_X2_reduced rfl rfl rfl (by decide +kernel) ⟨Nat.le_of_ble_eq_true rfl, Nat.le_of_ble_eq_true rfl⟩ rfl hl.1 rfl (Nat.le_of_ble_eq_true rfl) dX2_inverse_24 ⟨Nat.le_of_ble_eq_true rfl, Nat.le_of_ble_eq_true rfl⟩ hS) hS (fun ru u H locs hp hw hS => ?_)
          obtain ⟨hr, hu⟩ := hp
          rw [hu] at hw
          refine xw_ti (y := (xI (r * t))) (hr.trans (by rw [xR_mul])) ?_
          refine lv_istore_n (lv' := [(1, .int (xI (r * t))), (3, .int (nI n)), (2, .int (xI t)), (0, .int (xI x))]) hx hb dX2_inverse_27 rfl hl (by decide) rfl (fun ls hl => ?_)
          refine lv_iload_n hx hb dX2_inverse_28 rfl (lv_at hl 2 rfl) ?_
          refine lv_i2l (v := ((xI t)).toInt64) hx hb dX2_inverse_29 rfl ?_
          refine lv_iload_n hx hb dX2_inverse_30 rfl (lv_at hl 2 rfl) ?_
          refine lv_i2l (v := ((xI t)).toInt64) hx hb dX2_inverse_31 rfl ?_
          refine lv_lmul hx hb dX2_inverse_32 ?_
          refine xw_tl (y := (xJ t * xJ t)) (by rw [xI_l]) ?_
          refine xw_ci (xw_S (n := 1) (rest := []) C hw (kX2_reduced l G B w (xJ t * xJ t)) gX2_inverse_X2_reduced rfl rfl rfl (by decide +kernel) ⟨Nat.le_of_ble_eq_true rfl, Nat.le_of_ble_eq_true rfl⟩ rfl hl.1 rfl (Nat.le_of_ble_eq_true rfl) dX2_inverse_33 ⟨Nat.le_of_ble_eq_true rfl, Nat.le_of_ble_eq_true rfl⟩ hS) hS (fun ru u H locs hp hw hS => ?_)
          obtain ⟨hr, hu⟩ := hp
          rw [hu] at hw
          refine xw_ti (y := (xI (t * t))) (hr.trans (by rw [xR_mul])) ?_
          refine lv_istore_n (lv' := [(2, .int (xI (t * t))), (1, .int (xI (r * t))), (3, .int (nI n)), (0, .int (xI x))]) hx hb dX2_inverse_36 rfl hl (by decide) rfl (fun ls hl => ?_)
          refine lv_iload_n hx hb dX2_inverse_37 rfl (lv_at hl 2 rfl) ?_
          refine lv_iconst (v := 1) hx hb dX2_inverse_38 (by decide) ?_
          refine lv_ishr hx hb dX2_inverse_39 ?_
          refine xw_ti (y := (nI (n / 2))) (pk_shrN (by omega) _ 1 (by decide)) ?_
          refine lv_istore_n (lv' := [(3, .int (nI (n / 2))), (2, .int (xI (t * t))), (1, .int (xI (r * t))), (0, .int (xI x))]) hx hb dX2_inverse_40 rfl hl (by decide) rfl (fun ls hl => ?_)
          refine lv_goto (tgt := 8) hx hb dX2_inverse_41 (by decide) ?_
          exact ih (n / 2) (r * t) (t * t) _ _ _ (by rw [Nat.pow_succ] at hn; omega) (by omega) hw hS (lv_sub hl [0, 1, 2, 3] rfl) (by rw [if_pos hm] at hv; exact hv)
  exact loop 15 32001 1 x _ _ _ (by decide) (by decide) hw hS hl rfl
