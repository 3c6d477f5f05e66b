/-! ===== Polynomial, second half (laid by wip/whole/m_polyb.py) ===== -/
abbrev rmX3_evaluate : Room := { frames := 1, cells := 0, slots := 0, locals := 22 }
theorem iX3_evaluate_X3 : ∀ w ∈ wsX30, w ∈ wsX3_evaluate := by decide +kernel
set_option maxHeartbeats 4000000 in
set_option maxRecDepth 100000 in
theorem kX3_evaluate (l : Launch) (G : xG) (B : Nat) (w : xM) (h r n : Nat) (f : xP) (v : xF) (hp : xPoly G w h r n f) : Met l yX3_evaluate wsX3_evaluate rmX3_evaluate (va_Pc [.ref h, .int (xI v)] (xB G B w)) (va_Qi (fun r u => r = xI (xhor f v (xlen f n) 0) ∧ u = w) (xE G B) (xA B)) 0 0 (xA B) := by
  refine xw_start (own := RX3) (mn := "evaluate") (cc := cX3_evaluate) (nL := 4) (rt := (some .int)) (by decide) rfl rfl rfl (Nat.le_of_ble_eq_true rfl) ?_
  intro p ev s m below meth cd ls C hl hw hS
  obtain ⟨hx, hb, -, -, -, hts, -, -, -, -⟩ := id C
  have hl : lv_has ls 4 [(0, .ref h), (1, .int (xI v))] := hl
  have hn := hp.2.2.2
  have hlen := xlen_le f n
  refine lv_iconst (v := 0) hx hb dX3_evaluate_0 (by decide) ?_
  refine xw_ti (y := (xI 0)) (xI_0.symm) ?_
  refine lv_istore_n (lv' := [(2, .int (xI 0)), (0, .ref h), (1, .int (xI v))]) hx hb dX3_evaluate_1 rfl hl (by decide) rfl (fun ls hl => ?_)
  refine lv_aload_n hx hb dX3_evaluate_2 rfl (lv_at hl 1 rfl) ?_
  refine xw_get C hw (hp).1 (ci := 2) rfl iX3_evaluate_X3 1 (by decide) (by decide +kernel) rfl dX3_evaluate_3 ?_
  refine lv_istore_n (lv' := [(3, .int (xhi f n)), (2, .int (xI 0)), (0, .ref h), (1, .int (xI v))]) hx hb dX3_evaluate_6 rfl hl (by decide) rfl (fun ls hl => ?_)
  have loop : ∀ (j : Nat) (a : xF) (ls : Array Slot) (H : Heap) (locs : List Loc), j ≤ n → xhor f v j a = xhor f v (xlen f n) 0 → xW G B w H → va_S (xA B) s.heap H locs → lv_has ls 4 [(3, .int (nI j - 1)), (2, .int (xI a)), (0, .ref h), (1, .int (xI v))] → W p l ev rmX3_evaluate s m [.ref h, .int (xI v)].toArray below meth cd H locs 0 0 (MQ below (va_Qi (fun r u => r = xI (xhor f v (xlen f n) 0) ∧ u = w) (xE G B) (xA B)) [.ref h, .int (xI v)].toArray s 0 0 (xA B)) (F0 m 7 ls []) := by
    intro j
    induction j with
    | zero =>
      intro a ls H locs hj he hw hS hl
      refine lv_iload_n hx hb dX3_evaluate_7 rfl (lv_at hl 0 rfl) ?_
      refine lv_if_lt (tgt := 33) hx hb dX3_evaluate_8 (by decide) (fun _ => ?_) (fun hc => absurd (x_neg) hc)
      refine lv_iload_n hx hb dX3_evaluate_33 rfl (lv_at hl 1 rfl) ?_
      exact xw_iret C hw hS (Nat.le_of_ble_eq_true rfl) (Nat.le_of_ble_eq_true rfl) (⟨by rw [← he]; rfl, rfl⟩) dX3_evaluate_34
    | succ j ih =>
      intro a ls H locs hj he hw hS hl
      have hl : lv_has ls 4 [(3, .int (nI j)), (2, .int (xI a)), (0, .ref h), (1, .int (xI v))] := by rw [← (show (nI (j + 1) - 1) = (nI j) from x_m1 j)]; exact hl
      refine lv_iload_n hx hb dX3_evaluate_7 rfl (lv_at hl 0 rfl) ?_
      refine lv_if_lt (tgt := 33) hx hb dX3_evaluate_8 (by decide) (fun hc => absurd hc (nI_pos (by omega))) (fun _ => ?_)
      refine lv_iload_n hx hb dX3_evaluate_11 rfl (lv_at hl 1 rfl) ?_
      refine lv_i2l (v := ((xI a)).toInt64) hx hb dX3_evaluate_12 rfl ?_
      refine xw_tl (y := (xJ a)) (xI_l _) ?_
      refine lv_iload_n hx hb dX3_evaluate_13 rfl (lv_at hl 3 rfl) ?_
      refine lv_i2l (v := ((xI v)).toInt64) hx hb dX3_evaluate_14 rfl ?_
      refine xw_tl (y := (xJ v)) (xI_l _) ?_
      refine lv_lmul hx hb dX3_evaluate_15 ?_
      refine lv_aload_n hx hb dX3_evaluate_16 rfl (lv_at hl 2 rfl) ?_
      refine lv_iload_n hx hb dX3_evaluate_17 rfl (lv_at hl 0 rfl) ?_
      refine xw_ci (xw_V (n := 1) (rest := [.long ((xJ a) * (xJ v))]) C hw (kX3_coefficient l G B _ h r n f (nI j) hp) gX3_evaluate_X3_coefficient rfl rfl rfl (by decide +kernel) ⟨Nat.le_of_ble_eq_true rfl, Nat.le_of_ble_eq_true rfl⟩ (hp).1 rfl rfl hl.1 rfl (Nat.le_of_ble_eq_true rfl) dX3_evaluate_18 ⟨Nat.le_of_ble_eq_true rfl, Nat.le_of_ble_eq_true rfl⟩ hS) hS (fun ru u H locs hp hw hS => ?_)
      obtain ⟨hr, hu⟩ := hp
      rw [hu] at hw
      refine xw_ti (y := (xI (f j))) (hr.trans (by rw [xcf_n _ (by omega)])) ?_
      refine lv_i2l (v := ((xI (f j))).toInt64) hx hb dX3_evaluate_21 rfl ?_
      refine xw_tl (y := (xJ (f j))) (xI_l _) ?_
      refine lv_ladd hx hb dX3_evaluate_22 ?_
      refine xw_ci (xw_S (n := 1) (rest := []) C hw (kX2_reduced l G B _ _) gX3_evaluate_X2_reduced rfl rfl rfl (by decide +kernel) ⟨Nat.le_of_ble_eq_true rfl, Nat.le_of_ble_eq_true rfl⟩ rfl hl.1 rfl (Nat.le_of_ble_eq_true rfl) dX3_evaluate_23 ⟨Nat.le_of_ble_eq_true rfl, Nat.le_of_ble_eq_true rfl⟩ hS) hS (fun ru u H locs hp hw hS => ?_)
      obtain ⟨hr, hu⟩ := hp
      rw [hu] at hw
      refine xw_ti (y := (xI (a * v + f j))) (hr.trans (by rw [xR_ma])) ?_
      refine lv_istore_n (lv' := [(2, .int (xI (a * v + f j))), (3, .int (nI j)), (0, .ref h), (1, .int (xI v))]) hx hb dX3_evaluate_26 rfl hl (by decide) rfl (fun ls hl => ?_)
      refine lv_iinc (v := (nI j - 1)) (lv' := [(3, .int (nI j - 1)), (2, .int (xI (a * v + f j))), (0, .ref h), (1, .int (xI v))]) hx hb dX3_evaluate_27 hl (k := 1) rfl (x_dec _) (by decide) rfl (fun ls hl => ?_)
      refine lv_goto (tgt := 7) hx hb dX3_evaluate_30 (by decide) ?_
      exact ih (a * v + f j) ls _ _ (by omega) he hw hS (lv_sub hl [0, 1, 2, 3] rfl)
  exact loop (xlen f n) 0 ls _ _ hlen rfl hw hS (lv_sub hl [0, 1, 2, 3] rfl)

abbrev rmX3_matches : Room := { frames := 1, cells := 0, slots := 0, locals := 21 }
theorem iX3_matches_X3 : ∀ w ∈ wsX30, w ∈ wsX3_matches := by decide +kernel
set_option maxHeartbeats 4000000 in
set_option maxRecDepth 100000 in
theorem kX3_matches (l : Launch) (G : xG) (B : Nat) (w : xM) (h r n : Nat) (f : xP) (h2 r2 n2 : Nat) (g : xP) (hp : xPoly G w h r n f) (hq : xPoly G w h2 r2 n2 g) : Met l yX3_matches wsX3_matches rmX3_matches (va_Pc [.ref h, .ref h2] (xB G B w)) (va_Qi (fun z u => ((z = 1 ∧ f = g) ∨ (z = 0 ∧ f ≠ g)) ∧ u = w) (xE G B) (xA B)) 0 0 (xA B) := by
  refine xw_start (own := RX3) (mn := "matches") (cc := cX3_matches) (nL := 3) (rt := (some .boolean)) (by decide) rfl rfl rfl (Nat.le_of_ble_eq_true rfl) ?_
  intro p ev s m below meth cd ls C hl hw hS
  obtain ⟨hx, hb, -, -, -, hts, -, -, -, -⟩ := id C
  have hl : lv_has ls 3 [(0, .ref h), (1, .ref h2)] := hl
  have hn := hp.2.2.2
  have hn2 := hq.2.2.2
  have hlen := xlen_le f n
  have hlen2 := xlen_le g n2
  refine lv_aload_n hx hb dX3_matches_0 rfl (lv_at hl 0 rfl) ?_
  refine xw_get C hw (hp).1 (ci := 2) rfl iX3_matches_X3 1 (by decide) (by decide +kernel) rfl dX3_matches_1 ?_
  refine lv_aload_n hx hb dX3_matches_4 rfl (lv_at hl 1 rfl) ?_
  refine xw_get C hw (hq).1 (ci := 2) rfl iX3_matches_X3 1 (by decide) (by decide +kernel) rfl dX3_matches_5 ?_
  refine lv_icmp_eq (tgt := 13) hx hb dX3_matches_8 (by decide) (fun hc => ?_) (fun hc => ?_)
  · skip
    have hc := (xhi_eq hn hn2).mp hc
    refine lv_iconst (v := 0) hx hb dX3_matches_13 (by decide) ?_
    refine lv_istore_n (lv' := [(2, .int 0), (0, .ref h), (1, .ref h2)]) hx hb dX3_matches_14 rfl hl (by decide) rfl (fun ls hl => ?_)
    have loop : ∀ (d k : Nat) (ls : Array Slot) (H : Heap) (locs : List Loc), k + d = xlen f n → (∀ i, i < k → f i = g i) → xW G B w H → va_S (xA B) s.heap H locs → lv_has ls 3 [(2, .int (nI k)), (0, .ref h), (1, .ref h2)] → W p l ev rmX3_matches s m [.ref h, .ref h2].toArray below meth cd H locs 0 0 (MQ below (va_Qi (fun z u => ((z = 1 ∧ f = g) ∨ (z = 0 ∧ f ≠ g)) ∧ u = w) (xE G B) (xA B)) [.ref h, .ref h2].toArray s 0 0 (xA B)) (F0 m 15 ls []) := by
      intro d
      induction d with
      | zero =>
        intro k ls H locs hk he hw hS hl
        refine lv_iload_n hx hb dX3_matches_15 rfl (lv_at hl 0 rfl) ?_
        refine lv_aload_n hx hb dX3_matches_16 rfl (lv_at hl 1 rfl) ?_
        refine xw_get C hw (hp).1 (ci := 2) rfl iX3_matches_X3 1 (by decide) (by decide +kernel) rfl dX3_matches_17 ?_
        refine lv_icmp_gt (tgt := 44) hx hb dX3_matches_20 (by decide) (fun _ => ?_) (fun hc => absurd ((x_gt_hi (by omega) (by omega)).mpr (by omega)) hc)
        refine lv_iconst (v := 1) hx hb dX3_matches_44 (by decide) ?_
        have hfg : f = g := by
          funext i
          by_cases hi : i < k
          · exact he i hi
          · rw [xlen_sup hp.2.2.1 i (by omega), xlen_sup hq.2.2.1 i (by omega)]
        exact xw_zret C hw hS (Nat.le_of_ble_eq_true rfl) (Nat.le_of_ble_eq_true rfl) (Or.inr rfl) (⟨Or.inl ⟨rfl, hfg⟩, rfl⟩) dX3_matches_45
      | succ d ih =>
        intro k ls H locs hk he hw hS hl
        refine lv_iload_n hx hb dX3_matches_15 rfl (lv_at hl 0 rfl) ?_
        refine lv_aload_n hx hb dX3_matches_16 rfl (lv_at hl 1 rfl) ?_
        refine xw_get C hw (hp).1 (ci := 2) rfl iX3_matches_X3 1 (by decide) (by decide +kernel) rfl dX3_matches_17 ?_
        refine lv_icmp_gt (tgt := 44) hx hb dX3_matches_20 (by decide) (fun hc => absurd hc (fun q => absurd ((x_gt_hi (by omega) (by omega)).mp q) (by omega))) (fun _ => ?_)
        refine lv_aload_n hx hb dX3_matches_23 rfl (lv_at hl 1 rfl) ?_
        refine lv_iload_n hx hb dX3_matches_24 rfl (lv_at hl 0 rfl) ?_
        refine xw_ci (xw_V (n := 1) (rest := []) C hw (kX3_coefficient l G B _ h r n f (nI k) hp) gX3_matches_X3_coefficient rfl rfl rfl (by decide +kernel) ⟨Nat.le_of_ble_eq_true rfl, Nat.le_of_ble_eq_true rfl⟩ (hp).1 rfl rfl hl.1 rfl (Nat.le_of_ble_eq_true rfl) dX3_matches_25 ⟨Nat.le_of_ble_eq_true rfl, Nat.le_of_ble_eq_true rfl⟩ hS) hS (fun ru u H locs hp hw hS => ?_)
        obtain ⟨hr, hu⟩ := hp
        rw [hu] at hw
        refine xw_ti (y := (xI (f k))) (hr.trans (by rw [xcf_n _ (by omega)])) ?_
        refine lv_aload_n hx hb dX3_matches_28 rfl (lv_at hl 2 rfl) ?_
        refine lv_iload_n hx hb dX3_matches_29 rfl (lv_at hl 0 rfl) ?_
        refine xw_ci (xw_V (n := 1) (rest := [.int (xI (f k))]) C hw (kX3_coefficient l G B _ h2 r2 n2 g (nI k) hq) gX3_matches_X3_coefficient rfl rfl rfl (by decide +kernel) ⟨Nat.le_of_ble_eq_true rfl, Nat.le_of_ble_eq_true rfl⟩ (hq).1 rfl rfl hl.1 rfl (Nat.le_of_ble_eq_true rfl) dX3_matches_30 ⟨Nat.le_of_ble_eq_true rfl, Nat.le_of_ble_eq_true rfl⟩ hS) hS (fun ru u H locs hp hw hS => ?_)
        obtain ⟨hr, hu⟩ := hp
        rw [hu] at hw
        refine xw_ti (y := (xI (g k))) (hr.trans (by rw [xcf_n _ (by omega)])) ?_
        refine lv_icmp_eq (tgt := 38) hx hb dX3_matches_33 (by decide) (fun hc2 => ?_) (fun hc2 => ?_)
        · skip
          refine lv_iinc (v := (nI (k + 1))) (lv' := [(2, .int (nI (k + 1))), (0, .ref h), (1, .ref h2)]) hx hb dX3_matches_38 hl (k := 0) rfl (x_inc k) (by decide) rfl (fun ls hl => ?_)
          refine lv_goto (tgt := 15) hx hb dX3_matches_41 (by decide) ?_
          exact ih (k + 1) ls _ _ (by omega) (fun i hi => by
            by_cases hik : i = k
            · subst hik; exact xI_inj hc2
            · exact he i (by omega)) hw hS hl
        · skip
          refine lv_iconst (v := 0) hx hb dX3_matches_36 (by decide) ?_
          exact xw_zret C hw hS (Nat.le_of_ble_eq_true rfl) (Nat.le_of_ble_eq_true rfl) (Or.inl rfl) (⟨Or.inr ⟨rfl, fun q => hc2 (by rw [q])⟩, rfl⟩) dX3_matches_37
    exact loop (xlen f n) 0 ls _ _ (by omega) (fun i hi => absurd hi (by omega)) hw hS hl
  · skip
    refine lv_iconst (v := 0) hx hb dX3_matches_11 (by decide) ?_
    exact xw_zret C hw hS (Nat.le_of_ble_eq_true rfl) (Nat.le_of_ble_eq_true rfl) (Or.inl rfl) (⟨Or.inr ⟨rfl, fun q => hc (by rw [xhi_eq hn hn2, ← q]; rw [← q] at hq; exact (xlen_n (m := 64) hp.2.2.1 hn).symm.trans (xlen_n hq.2.2.1 hn2))⟩, rfl⟩) dX3_matches_12

abbrev rmX3_moveByOne : Room := { frames := 1, cells := 0, slots := 0, locals := 23 }
theorem iX3_moveByOne_X3 : ∀ w ∈ wsX30, w ∈ wsX3_moveByOne := by decide +kernel
set_option maxHeartbeats 4000000 in
set_option maxRecDepth 100000 in
theorem kX3_moveByOne (l : Launch) (G : xG) (B : Nat) (w : xM) (h r n : Nat) (f : xP) (hp : xPoly G w h r n f) : Met l yX3_moveByOne wsX3_moveByOne rmX3_moveByOne (va_Pc [.ref h] (xB G B w)) (va_Qv (fun u => u = xset G w h r n (xmv n f)) (xE G B) (xA B)) 0 0 (xA B) := by
  refine xw_start (own := RX3) (mn := "moveByOne") (cc := cX3_moveByOne) (nL := 3) (rt := none) (by decide) rfl rfl rfl (Nat.le_of_ble_eq_true rfl) ?_
  intro p ev s m below meth cd ls C hl hw hS
  obtain ⟨hx, hb, -, -, -, hts, -, -, -, -⟩ := id C
  have hl : lv_has ls 3 [(0, .ref h)] := hl
  have hn := hp.2.2.2
  have hlen := xlen_le f n
  obtain ⟨L, hL⟩ : ∃ L, xlen f n = L := ⟨_, rfl⟩
  rw [hL] at hlen
  refine lv_iconst (v := 0) hx hb dX3_moveByOne_0 (by decide) ?_
  refine lv_istore_n (lv' := [(1, .int 0), (0, .ref h)]) hx hb dX3_moveByOne_1 rfl hl (by decide) rfl (fun ls hl => ?_)
  have loop : ∀ (t d : Nat) (ls : Array Slot) (H : Heap) (locs : List Loc), d ≤ L - 1 → d + t = L - 1 → xW G B (xset G w h r n (xpas L d f)) H → va_S (xA B) s.heap H locs → lv_has ls 3 [(1, .int (nI d)), (0, .ref h)] → W p l ev rmX3_moveByOne s m [.ref h].toArray below meth cd H locs 0 0 (MQ below (va_Qv (fun u => u = xset G w h r n (xmv n f)) (xE G B) (xA B)) [.ref h].toArray s 0 0 (xA B)) (F0 m 2 ls []) := by
    intro t
    induction t with
    | zero =>
      intro d ls H locs hd hdt hw hS hl
      have h0 : xPoly G (xset G w h r n (xpas L d f)) h r n (xpas L d f) := xset_s hp.ne (xpas_sup hp.2.2.1 _ _ hlen) hn
      have hL2 : xlen (xpas L d f) n = L := by have := xpas_len hp.2.2.1 d (by omega); rw [hL] at this; exact this
      have hsL : xsup (xpas L d f) L := by have q := xlen_sup (xpas_sup hp.2.2.1 L d hlen); rw [hL2] at q; exact q
      have hH : xhi (xpas L d f) n = nI L - 1 := by unfold xhi; rw [hL2]
      rw [xPoly, hH] at h0
      refine lv_iload_n hx hb dX3_moveByOne_2 rfl (lv_at hl 0 rfl) ?_
      refine lv_aload_n hx hb dX3_moveByOne_3 rfl (lv_at hl 1 rfl) ?_
      refine xw_get C hw h0.1 (ci := 2) rfl iX3_moveByOne_X3 1 (by decide) (by decide +kernel) rfl dX3_moveByOne_4 ?_
      refine lv_icmp_ge (tgt := 57) hx hb dX3_moveByOne_7 (by decide) (fun _ => ?_) (fun hc => absurd ((x_ge_hi (by omega) (by omega)).mpr (by omega)) hc)
      exact xw_vret C hw hS (Nat.le_of_ble_eq_true rfl) (Nat.le_of_ble_eq_true rfl) (by unfold xmv; rw [hL, show L - 1 = d by omega]) dX3_moveByOne_57
    | succ t ih =>
      intro d ls H locs hd hdt hw hS hl
      have h0 : xPoly G (xset G w h r n (xpas L d f)) h r n (xpas L d f) := xset_s hp.ne (xpas_sup hp.2.2.1 _ _ hlen) hn
      have hL2 : xlen (xpas L d f) n = L := by have := xpas_len hp.2.2.1 d (by omega); rw [hL] at this; exact this
      have hsL : xsup (xpas L d f) L := by have q := xlen_sup (xpas_sup hp.2.2.1 L d hlen); rw [hL2] at q; exact q
      have hH : xhi (xpas L d f) n = nI L - 1 := by unfold xhi; rw [hL2]
      rw [xPoly, hH] at h0
      refine lv_iload_n hx hb dX3_moveByOne_2 rfl (lv_at hl 0 rfl) ?_
      refine lv_aload_n hx hb dX3_moveByOne_3 rfl (lv_at hl 1 rfl) ?_
      refine xw_get C hw h0.1 (ci := 2) rfl iX3_moveByOne_X3 1 (by decide) (by decide +kernel) rfl dX3_moveByOne_4 ?_
      refine lv_icmp_ge (tgt := 57) hx hb dX3_moveByOne_7 (by decide) (fun hc => absurd hc (fun q => absurd ((x_ge_hi (by omega) (by omega)).mp q) (by omega))) (fun _ => ?_)
      refine lv_aload_n hx hb dX3_moveByOne_10 rfl (lv_at hl 1 rfl) ?_
      refine xw_get C hw h0.1 (ci := 2) rfl iX3_moveByOne_X3 1 (by decide) (by decide +kernel) rfl dX3_moveByOne_11 ?_
      refine lv_iconst (v := 1) hx hb dX3_moveByOne_14 (by decide) ?_
      refine lv_isub hx hb dX3_moveByOne_15 ?_
      refine xw_ti (y := (nI (L - 1) - 1)) (by obtain ⟨i, hi⟩ : ∃ i, L = i + 1 := ⟨L - 1, by omega⟩; subst hi; rw [x_m1]; rfl) ?_
      refine lv_istore_n (lv' := [(2, .int (nI (L - 1) - 1)), (1, .int (nI d)), (0, .ref h)]) hx hb dX3_moveByOne_16 rfl hl (by decide) rfl (fun ls hl => ?_)
      have inner : ∀ (j : Nat) (ls : Array Slot) (H : Heap) (locs : List Loc), d ≤ j → j ≤ L - 1 → xW G B (xset G w h r n (xsuf (xpas L d f) L j)) H → va_S (xA B) s.heap H locs → lv_has ls 3 [(2, .int (nI j - 1)), (1, .int (nI d)), (0, .ref h)] → W p l ev rmX3_moveByOne s m [.ref h].toArray below meth cd H locs 0 0 (MQ below (va_Qv (fun u => u = xset G w h r n (xmv n f)) (xE G B) (xA B)) [.ref h].toArray s 0 0 (xA B)) (F0 m 17 ls []) := by
        intro j
        induction j with
        | zero =>
          intro ls H locs hdj hj hw hS hl
          have hd0 : d = 0 := by omega
          have hw : xW G B (xset G w h r n (xpas L (d + 1) f)) H := by rw [hd0] at hw ⊢; exact hw
          refine lv_iload_n hx hb dX3_moveByOne_17 rfl (lv_at hl 0 rfl) ?_
          refine lv_iload_n hx hb dX3_moveByOne_18 rfl (lv_at hl 1 rfl) ?_
          refine lv_icmp_lt (tgt := 51) hx hb dX3_moveByOne_19 (by decide) (fun _ => ?_) (fun hc => absurd ((x_gt_hi (by omega) (by omega)).mpr (by omega)) hc)
          refine lv_iinc (v := (nI (d + 1))) (lv' := [(1, .int (nI (d + 1))), (2, .int (nI 0 - 1)), (0, .ref h)]) hx hb dX3_moveByOne_51 hl (k := 1) rfl (x_inc d) (by decide) rfl (fun ls hl => ?_)
          refine lv_goto (tgt := 2) hx hb dX3_moveByOne_54 (by decide) ?_
          exact ih (d + 1) ls _ _ (by omega) (by omega) hw hS (lv_sub hl [0, 2] rfl)
        | succ j ihj =>
          intro ls H locs hdj hj hw hS hl
          by_cases hdj2 : d = j + 1
          · subst hdj2
            refine lv_iload_n hx hb dX3_moveByOne_17 rfl (lv_at hl 0 rfl) ?_
            refine lv_iload_n hx hb dX3_moveByOne_18 rfl (lv_at hl 1 rfl) ?_
            refine lv_icmp_lt (tgt := 51) hx hb dX3_moveByOne_19 (by decide) (fun _ => ?_) (fun hc => absurd ((x_gt_hi (by omega) (by omega)).mpr (by omega)) hc)
            refine lv_iinc (v := (nI (j + 1 + 1))) (lv' := [(1, .int (nI (j + 1 + 1))), (2, .int (nI (j + 1) - 1)), (0, .ref h)]) hx hb dX3_moveByOne_51 hl (k := 1) rfl (x_inc _) (by decide) rfl (fun ls hl => ?_)
            refine lv_goto (tgt := 2) hx hb dX3_moveByOne_54 (by decide) ?_
            exact ih (j + 1 + 1) ls _ _ (by omega) (by omega) hw hS (lv_sub hl [0, 2] rfl)
          · skip
            have h1 : xPoly G (xset G w h r n (xsuf (xpas L d f) L (j + 1))) h r n (xsuf (xpas L d f) L (j + 1)) := xset_s hp.ne (xsuf_sup (xpas_sup hp.2.2.1 _ _ hlen) hlen) hn
            refine lv_iload_n hx hb dX3_moveByOne_17 rfl (lv_at hl 0 rfl) ?_
            refine lv_iload_n hx hb dX3_moveByOne_18 rfl (lv_at hl 1 rfl) ?_
            refine lv_icmp_lt (tgt := 51) hx hb dX3_moveByOne_19 (by decide) (fun hc => absurd hc (fun q => absurd ((x_gt_hi (by omega) (by omega)).mp q) (by omega))) (fun _ => ?_)
            have hl : lv_has ls 3 [(2, .int (nI j)), (1, .int (nI d)), (0, .ref h)] := by rw [← (show (nI (j + 1) - 1) = (nI j) from x_m1 j)]; exact hl
            refine lv_aload_n hx hb dX3_moveByOne_22 rfl (lv_at hl 2 rfl) ?_
            refine lv_iload_n hx hb dX3_moveByOne_23 rfl (lv_at hl 0 rfl) ?_
            refine lv_aload_n hx hb dX3_moveByOne_24 rfl (lv_at hl 2 rfl) ?_
            refine lv_iload_n hx hb dX3_moveByOne_25 rfl (lv_at hl 0 rfl) ?_
            refine xw_ci (xw_V (n := 1) (rest := [.int (nI j), .ref h]) C hw (kX3_coefficient l G B _ h r n _ (nI j) h1) gX3_moveByOne_X3_coefficient rfl rfl rfl (by decide +kernel) ⟨Nat.le_of_ble_eq_true rfl, Nat.le_of_ble_eq_true rfl⟩ (h1).1 rfl rfl hl.1 rfl (Nat.le_of_ble_eq_true rfl) dX3_moveByOne_26 ⟨Nat.le_of_ble_eq_true rfl, Nat.le_of_ble_eq_true rfl⟩ hS) hS (fun ru u H locs hp hw hS => ?_)
            obtain ⟨hr, hu⟩ := hp
            rw [hu] at hw
            refine xw_ti (y := (xI (xpas L d f j))) (hr.trans (by rw [xcf_n _ (by omega), xsuf_at])) ?_
            refine lv_i2l (v := ((xI (xpas L d f j))).toInt64) hx hb dX3_moveByOne_29 rfl ?_
            refine xw_tl (y := (xJ (xpas L d f j))) (xI_l _) ?_
            refine lv_aload_n hx hb dX3_moveByOne_30 rfl (lv_at hl 2 rfl) ?_
            refine lv_iload_n hx hb dX3_moveByOne_31 rfl (lv_at hl 0 rfl) ?_
            refine lv_iconst (v := 1) hx hb dX3_moveByOne_32 (by decide) ?_
            refine lv_iadd hx hb dX3_moveByOne_33 ?_
            refine xw_ti (y := (nI (j + 1))) (nI_1 j) ?_
            refine xw_ci (xw_V (n := 1) (rest := [.long (xJ (xpas L d f j)), .int (nI j), .ref h]) C hw (kX3_coefficient l G B _ h r n _ (nI (j + 1)) h1) gX3_moveByOne_X3_coefficient rfl rfl rfl (by decide +kernel) ⟨Nat.le_of_ble_eq_true rfl, Nat.le_of_ble_eq_true rfl⟩ (h1).1 rfl rfl hl.1 rfl (Nat.le_of_ble_eq_true rfl) dX3_moveByOne_34 ⟨Nat.le_of_ble_eq_true rfl, Nat.le_of_ble_eq_true rfl⟩ hS) hS (fun ru u H locs hp hw hS => ?_)
            obtain ⟨hr, hu⟩ := hp
            rw [hu] at hw
            refine xw_ti (y := (xI (xsuf (xpas L d f) L (j + 1) (j + 1)))) (hr.trans (by rw [xcf_n _ (by omega)])) ?_
            refine lv_i2l (v := ((xI (xsuf (xpas L d f) L (j + 1) (j + 1)))).toInt64) hx hb dX3_moveByOne_37 rfl ?_
            refine xw_tl (y := (xJ (xsuf (xpas L d f) L (j + 1) (j + 1)))) (xI_l _) ?_
            refine lv_ladd hx hb dX3_moveByOne_38 ?_
            refine xw_ci (xw_S (n := 1) (rest := [.int (nI j), .ref h]) C hw (kX2_reduced l G B _ _) gX3_moveByOne_X2_reduced rfl rfl rfl (by decide +kernel) ⟨Nat.le_of_ble_eq_true rfl, Nat.le_of_ble_eq_true rfl⟩ rfl hl.1 rfl (Nat.le_of_ble_eq_true rfl) dX3_moveByOne_39 ⟨Nat.le_of_ble_eq_true rfl, Nat.le_of_ble_eq_true rfl⟩ hS) hS (fun ru u H locs hp hw hS => ?_)
            obtain ⟨hr, hu⟩ := hp
            rw [hu] at hw
            refine xw_ti (y := (xI (xpas L d f j + xsuf (xpas L d f) L (j + 1) (j + 1)))) (hr.trans (by rw [xR_add])) ?_
            refine xw_cv (xw_V (n := 2) (rest := []) C hw (kX3_put l G B _ h r n _ j _ h1 (by omega)) gX3_moveByOne_X3_put rfl rfl rfl (by decide +kernel) ⟨Nat.le_of_ble_eq_true rfl, Nat.le_of_ble_eq_true rfl⟩ (h1).1 rfl rfl hl.1 rfl (Nat.le_of_ble_eq_true rfl) dX3_moveByOne_42 ⟨Nat.le_of_ble_eq_true rfl, Nat.le_of_ble_eq_true rfl⟩ hS) hS (fun u H locs hpp hw hS => ?_)
            rw [hpp] at hw
            rw [xset_u hp.ne, xsuf_dn (by omega)] at hw
            refine lv_iinc (v := (nI j - 1)) (lv' := [(2, .int (nI j - 1)), (1, .int (nI d)), (0, .ref h)]) hx hb dX3_moveByOne_45 hl (k := 0) rfl (x_dec _) (by decide) rfl (fun ls hl => ?_)
            refine lv_goto (tgt := 17) hx hb dX3_moveByOne_48 (by decide) ?_
            exact ihj ls _ _ (by omega) (by omega) hw hS hl
      exact inner (L - 1) ls _ _ hd (Nat.le_refl _) (by rw [xsuf_top hsL (by omega)]; exact hw) hS hl
  exact loop (L - 1) 0 ls _ _ (by omega) (by omega) (by rw [show xpas L 0 f = f from rfl, xset_id hp]; exact hw) hS hl

abbrev rmX3_setProduct : Room := { frames := 2, cells := 0, slots := 0, locals := 44 }
theorem iX3_setProduct_X3 : ∀ w ∈ wsX30, w ∈ wsX3_setProduct := by decide +kernel
set_option maxHeartbeats 4000000 in
set_option maxRecDepth 100000 in
theorem kX3_setProduct (l : Launch) (G : xG) (B : Nat) (w : xM) (h r n : Nat) (z : xP) (h2 r2 n2 : Nat) (f : xP) (h3 r3 n3 : Nat) (g : xP) (hp : xPoly G w h r n z) (hf : xPoly G w h2 r2 n2 f) (hg : xPoly G w h3 r3 n3 g) (hne : h2 ≠ h) (hnr : r2 ≠ r) (hne3 : h3 ≠ h) (hnr3 : r3 ≠ r) (hfit : xlen f n2 + xlen g n3 ≤ n + 1) : Met l yX3_setProduct wsX3_setProduct rmX3_setProduct (va_Pc [.ref h, .ref h2, .ref h3] (xB G B w)) (va_Qv (fun u => u = xset G w h r n (xmul f g)) (xE G B) (xA B)) 0 0 (xA B) := by
  refine xw_start (own := RX3) (mn := "setProduct") (cc := cX3_setProduct) (nL := 8) (rt := none) (by decide) rfl rfl rfl (Nat.le_of_ble_eq_true rfl) ?_
  intro p ev s m below meth cd ls C hl hw hS
  obtain ⟨hx, hb, -, -, -, hts, -, -, -, -⟩ := id C
  have hl : lv_has ls 8 [(0, .ref h), (1, .ref h2), (2, .ref h3)] := hl
  have hn := hp.2.2.2
  have hl2 := Nat.le_trans (xlen_le f n2) hf.2.2.2
  have hl3 := Nat.le_trans (xlen_le g n3) hg.2.2.2
  have hsf := xlen_sup hf.2.2.1
  have hsg := xlen_sup hg.2.2.1
  have hsm := xmul_sup hsf hsg
  refine lv_aload_n hx hb dX3_setProduct_0 rfl (lv_at hl 0 rfl) ?_
  refine xw_cv (xw_V (n := 0) (rest := []) C hw (kX3_clear l G B w h r n z hp) gX3_setProduct_X3_clear rfl rfl rfl (by decide +kernel) ⟨Nat.le_of_ble_eq_true rfl, Nat.le_of_ble_eq_true rfl⟩ (hp).1 rfl rfl hl.1 rfl (Nat.le_of_ble_eq_true rfl) dX3_setProduct_1 ⟨Nat.le_of_ble_eq_true rfl, Nat.le_of_ble_eq_true rfl⟩ hS) hS (fun u H locs hpp hw hS => ?_)
  rw [hpp] at hw
  refine lv_iconst (v := 0) hx hb dX3_setProduct_4 (by decide) ?_
  refine lv_istore_n (lv' := [(3, .int 0), (0, .ref h), (1, .ref h2), (2, .ref h3)]) hx hb dX3_setProduct_5 rfl hl (by decide) rfl (fun ls hl => ?_)
  have loop : ∀ (d k : Nat) (ls : Array Slot) (H : Heap) (locs : List Loc), k + d = xlen f n2 + xlen g n3 - 1 → xW G B (xset G w h r n (xcut (xmul f g) k)) H → va_S (xA B) s.heap H locs → lv_has ls 8 [(3, .int (nI k)), (0, .ref h), (1, .ref h2), (2, .ref h3)] → W p l ev rmX3_setProduct s m [.ref h, .ref h2, .ref h3].toArray below meth cd H locs 0 0 (MQ below (va_Qv (fun u => u = xset G w h r n (xmul f g)) (xE G B) (xA B)) [.ref h, .ref h2, .ref h3].toArray s 0 0 (xA B)) (F0 m 6 ls []) := by
    intro d
    induction d with
    | zero =>
      intro k ls H locs hk hw hS hl
      have h0 : xPoly G (xset G w h r n (xcut (xmul f g) k)) h r n (xcut (xmul f g) k) := xset_s hp.ne (xsup_cut _ (by omega)) hn
      have h1 : xPoly G (xset G w h r n (xcut (xmul f g) k)) h2 r2 n2 f := xset_n hf hne hnr (Ne.symm (hp.ne2 hf).1) (hp.ne2 hf).2
      have h4 : xPoly G (xset G w h r n (xcut (xmul f g) k)) h3 r3 n3 g := xset_n hg hne3 hnr3 (Ne.symm (hp.ne2 hg).1) (hp.ne2 hg).2
      refine lv_iload_n hx hb dX3_setProduct_6 rfl (lv_at hl 0 rfl) ?_
      refine lv_aload_n hx hb dX3_setProduct_7 rfl (lv_at hl 2 rfl) ?_
      refine xw_get C hw (h1).1 (ci := 2) rfl iX3_setProduct_X3 1 (by decide) (by decide +kernel) rfl dX3_setProduct_8 ?_
      refine lv_aload_n hx hb dX3_setProduct_11 rfl (lv_at hl 3 rfl) ?_
      refine xw_get C hw (h4).1 (ci := 2) rfl iX3_setProduct_X3 1 (by decide) (by decide +kernel) rfl dX3_setProduct_12 ?_
      refine lv_iadd hx hb dX3_setProduct_15 ?_
      refine lv_icmp_gt (tgt := 95) hx hb dX3_setProduct_16 (by decide) (fun _ => ?_) (fun hc => absurd ((x_gt_hh (by omega) (by omega) (by omega)).mpr (by omega)) hc)
      exact xw_vret C hw hS (Nat.le_of_ble_eq_true rfl) (Nat.le_of_ble_eq_true rfl) (by rw [show k = xlen f n2 + xlen g n3 - 1 by omega, xcut_sup hsm]) dX3_setProduct_95
    | succ d ih =>
      intro k ls H locs hk hw hS hl
      have h0 : xPoly G (xset G w h r n (xcut (xmul f g) k)) h r n (xcut (xmul f g) k) := xset_s hp.ne (xsup_cut _ (by omega)) hn
      have h1 : xPoly G (xset G w h r n (xcut (xmul f g) k)) h2 r2 n2 f := xset_n hf hne hnr (Ne.symm (hp.ne2 hf).1) (hp.ne2 hf).2
      have h4 : xPoly G (xset G w h r n (xcut (xmul f g) k)) h3 r3 n3 g := xset_n hg hne3 hnr3 (Ne.symm (hp.ne2 hg).1) (hp.ne2 hg).2
      refine lv_iload_n hx hb dX3_setProduct_6 rfl (lv_at hl 0 rfl) ?_
      refine lv_aload_n hx hb dX3_setProduct_7 rfl (lv_at hl 2 rfl) ?_
      refine xw_get C hw (h1).1 (ci := 2) rfl iX3_setProduct_X3 1 (by decide) (by decide +kernel) rfl dX3_setProduct_8 ?_
      refine lv_aload_n hx hb dX3_setProduct_11 rfl (lv_at hl 3 rfl) ?_
      refine xw_get C hw (h4).1 (ci := 2) rfl iX3_setProduct_X3 1 (by decide) (by decide +kernel) rfl dX3_setProduct_12 ?_
      refine lv_iadd hx hb dX3_setProduct_15 ?_
      refine lv_icmp_gt (tgt := 95) hx hb dX3_setProduct_16 (by decide) (fun hc => absurd hc (fun q => absurd ((x_gt_hh (by omega) (by omega) (by omega)).mp q) (by omega))) (fun _ => ?_)
      refine lv_lconst (v := 0) hx hb dX3_setProduct_19 (by decide) ?_
      refine xw_tl (y := (lN 0)) (by decide) ?_
      refine lv_lstore (lv' := [(4, .long (lN 0)), (3, .int (nI k)), (0, .ref h), (1, .ref h2), (2, .ref h3)]) hx hb dX3_setProduct_20 hl (by decide) rfl (fun ls hl => ?_)
      refine lv_iload_n hx hb dX3_setProduct_22 rfl (lv_at hl 1 rfl) ?_
      refine lv_aload_n hx hb dX3_setProduct_23 rfl (lv_at hl 3 rfl) ?_
      refine xw_get C hw (h1).1 (ci := 2) rfl iX3_setProduct_X3 1 (by decide) (by decide +kernel) rfl dX3_setProduct_24 ?_
      refine xw_min C hl.1 (by decide +kernel) (by decide +kernel) (by decide +kernel) (by decide +kernel) (Nat.le_of_ble_eq_true rfl) (Nat.le_of_ble_eq_true rfl) (Nat.le_of_ble_eq_true rfl) (Nat.le_of_ble_eq_true rfl) (z := nI (min (k + 1) (xlen f n2)) - 1) (x_minhi (by omega) (by omega)) dX3_setProduct_27 ?_
      refine lv_istore (lv' := [(6, .int (nI (min (k + 1) (xlen f n2)) - 1)), (4, .long (lN 0)), (3, .int (nI k)), (0, .ref h), (1, .ref h2), (2, .ref h3)]) hx hb dX3_setProduct_30 hl (by decide) rfl (fun ls hl => ?_)
      refine lv_iload_n hx hb dX3_setProduct_32 rfl (lv_at hl 2 rfl) ?_
      refine lv_aload_n hx hb dX3_setProduct_33 rfl (lv_at hl 5 rfl) ?_
      refine xw_get C hw (h4).1 (ci := 2) rfl iX3_setProduct_X3 1 (by decide) (by decide +kernel) rfl dX3_setProduct_34 ?_
      refine lv_isub hx hb dX3_setProduct_37 ?_
      refine lv_iconst (v := 0) hx hb dX3_setProduct_38 (by decide) ?_
      refine xw_max C hl.1 (by decide +kernel) (by decide +kernel) (by decide +kernel) (by decide +kernel) (Nat.le_of_ble_eq_true rfl) (Nat.le_of_ble_eq_true rfl) (Nat.le_of_ble_eq_true rfl) (Nat.le_of_ble_eq_true rfl) (z := nI (k + 1 - xlen g n3)) (x_maxhi (by omega) (by omega)) dX3_setProduct_39 ?_
      refine lv_istore (lv' := [(7, .int (nI (k + 1 - xlen g n3))), (6, .int (nI (min (k + 1) (xlen f n2)) - 1)), (4, .long (lN 0)), (3, .int (nI k)), (0, .ref h), (1, .ref h2), (2, .ref h3)]) hx hb dX3_setProduct_42 hl (by decide) rfl (fun ls hl => ?_)
      have hexit : ∀ (T i : Nat) (ls : Array Slot) (H : Heap) (locs : List Loc), T < 2 ^ 62 → xO T = xmul f g k → xW G B (xset G w h r n (xcut (xmul f g) k)) H → va_S (xA B) s.heap H locs → lv_has ls 8 [(7, .int (nI i)), (6, .int (nI (min (k + 1) (xlen f n2)) - 1)), (4, .long (lN T)), (3, .int (nI k)), (0, .ref h), (1, .ref h2), (2, .ref h3)] → W p l ev rmX3_setProduct s m [.ref h, .ref h2, .ref h3].toArray below meth cd H locs 0 0 (MQ below (va_Qv (fun u => u = xset G w h r n (xmul f g)) (xE G B) (xA B)) [.ref h, .ref h2, .ref h3].toArray s 0 0 (xA B)) (F0 m 79 ls []) := by
        intro T i ls H locs hT hTe hw hS hl
        refine lv_aload_n hx hb dX3_setProduct_79 rfl (lv_at hl 4 rfl) ?_
        refine lv_iload_n hx hb dX3_setProduct_80 rfl (lv_at hl 3 rfl) ?_
        refine lv_lload hx hb dX3_setProduct_81 (lv_at hl 2 rfl) ?_
        refine xw_ci (xw_S (n := 1) (rest := [.int (nI k), .ref h]) C hw (kX2_reduced l G B _ _) gX3_setProduct_X2_reduced rfl rfl rfl (by decide +kernel) ⟨Nat.le_of_ble_eq_true rfl, Nat.le_of_ble_eq_true rfl⟩ rfl hl.1 rfl (Nat.le_of_ble_eq_true rfl) dX3_setProduct_83 ⟨Nat.le_of_ble_eq_true rfl, Nat.le_of_ble_eq_true rfl⟩ hS) hS (fun ru u H locs hp hw hS => ?_)
        obtain ⟨hr, hu⟩ := hp
        rw [hu] at hw
        refine xw_ti (y := (xI (xmul f g k))) (hr.trans (by rw [xR_lN (by omega), hTe])) ?_
        refine xw_cv (xw_V (n := 2) (rest := []) C hw (kX3_put l G B _ h r n _ k _ h0 (by omega)) gX3_setProduct_X3_put rfl rfl rfl (by decide +kernel) ⟨Nat.le_of_ble_eq_true rfl, Nat.le_of_ble_eq_true rfl⟩ (h0).1 rfl rfl hl.1 rfl (Nat.le_of_ble_eq_true rfl) dX3_setProduct_86 ⟨Nat.le_of_ble_eq_true rfl, Nat.le_of_ble_eq_true rfl⟩ hS) hS (fun u H locs hpp hw hS => ?_)
        rw [hpp] at hw
        rw [xset_u hp.ne, xcut_up] at hw
        refine lv_iinc (v := (nI (k + 1))) (lv' := [(3, .int (nI (k + 1))), (7, .int (nI i)), (6, .int (nI (min (k + 1) (xlen f n2)) - 1)), (4, .long (lN T)), (0, .ref h), (1, .ref h2), (2, .ref h3)]) hx hb dX3_setProduct_89 hl (k := 3) rfl (x_inc k) (by decide) rfl (fun ls hl => ?_)
        refine lv_goto (tgt := 6) hx hb dX3_setProduct_92 (by decide) ?_
        exact ih (k + 1) ls _ _ (by omega) hw hS (lv_sub hl [0, 4, 5, 6] rfl)
      have inner : ∀ (t i T : Nat) (ls : Array Slot) (H : Heap) (locs : List Loc), i + t = k + 1 → T ≤ i * 1024192009 → xO T = xS i (fun q => f q * g (k - q)) → xW G B (xset G w h r n (xcut (xmul f g) k)) H → va_S (xA B) s.heap H locs → lv_has ls 8 [(7, .int (nI i)), (6, .int (nI (min (k + 1) (xlen f n2)) - 1)), (4, .long (lN T)), (3, .int (nI k)), (0, .ref h), (1, .ref h2), (2, .ref h3)] → W p l ev rmX3_setProduct s m [.ref h, .ref h2, .ref h3].toArray below meth cd H locs 0 0 (MQ below (va_Qv (fun u => u = xset G w h r n (xmul f g)) (xE G B) (xA B)) [.ref h, .ref h2, .ref h3].toArray s 0 0 (xA B)) (F0 m 44 ls []) := by
        intro t
        induction t with
        | zero =>
          intro i T ls H locs hi hT hTe hw hS hl
          refine lv_iload hx hb dX3_setProduct_44 (lv_at hl 0 rfl) ?_
          refine lv_iload hx hb dX3_setProduct_46 (lv_at hl 1 rfl) ?_
          refine lv_icmp_gt (tgt := 79) hx hb dX3_setProduct_48 (by decide) (fun _ => ?_) (fun hc => absurd ((x_gt_hi (by omega) (by omega)).mpr (by omega)) hc)
          exact hexit T i ls _ _ (by omega) (by rw [hTe]; exact xS_to hsf (by omega) (by omega)) hw hS hl
        | succ t iht =>
          intro i T ls H locs hi hT hTe hw hS hl
          refine lv_iload hx hb dX3_setProduct_44 (lv_at hl 0 rfl) ?_
          refine lv_iload hx hb dX3_setProduct_46 (lv_at hl 1 rfl) ?_
          refine lv_icmp_gt (tgt := 79) hx hb dX3_setProduct_48 (by decide) (fun hc => ?_) (fun hc => ?_)
          · skip
            exact hexit T i ls _ _ (by omega) (by rw [hTe]; exact xS_to hsf ((x_gt_hi (by omega) (by omega)).mp hc) (by omega)) hw hS hl
          · skip
            have hc : ¬ min (k + 1) (xlen f n2) ≤ i := fun q => hc ((x_gt_hi (by omega) (by omega)).mpr q)
            refine lv_lload hx hb dX3_setProduct_51 (lv_at hl 2 rfl) ?_
            refine lv_aload_n hx hb dX3_setProduct_53 rfl (lv_at hl 5 rfl) ?_
            refine lv_iload hx hb dX3_setProduct_54 (lv_at hl 0 rfl) ?_
            refine xw_ci (xw_V (n := 1) (rest := [.long (lN T)]) C hw (kX3_coefficient l G B _ h2 r2 n2 f (nI i) h1) gX3_setProduct_X3_coefficient rfl rfl rfl (by decide +kernel) ⟨Nat.le_of_ble_eq_true rfl, Nat.le_of_ble_eq_true rfl⟩ (h1).1 rfl rfl hl.1 rfl (Nat.le_of_ble_eq_true rfl) dX3_setProduct_56 ⟨Nat.le_of_ble_eq_true rfl, Nat.le_of_ble_eq_true rfl⟩ hS) hS (fun ru u H locs hp hw hS => ?_)
            obtain ⟨hr, hu⟩ := hp
            rw [hu] at hw
            refine xw_ti (y := (xI (f i))) (hr.trans (by rw [xcf_n _ (by omega)])) ?_
            refine lv_i2l (v := ((xI (f i))).toInt64) hx hb dX3_setProduct_59 rfl ?_
            refine xw_tl (y := (xJ (f i))) (xI_l _) ?_
            refine lv_aload_n hx hb dX3_setProduct_60 rfl (lv_at hl 6 rfl) ?_
            refine lv_iload_n hx hb dX3_setProduct_61 rfl (lv_at hl 3 rfl) ?_
            refine lv_iload hx hb dX3_setProduct_62 (lv_at hl 0 rfl) ?_
            refine lv_isub hx hb dX3_setProduct_64 ?_
            refine xw_ti (y := (nI (k - i))) (pk_sub (by omega)) ?_
            refine xw_ci (xw_V (n := 1) (rest := [.long (xJ (f i)), .long (lN T)]) C hw (kX3_coefficient l G B _ h3 r3 n3 g (nI (k - i)) h4) gX3_setProduct_X3_coefficient rfl rfl rfl (by decide +kernel) ⟨Nat.le_of_ble_eq_true rfl, Nat.le_of_ble_eq_true rfl⟩ (h4).1 rfl rfl hl.1 rfl (Nat.le_of_ble_eq_true rfl) dX3_setProduct_65 ⟨Nat.le_of_ble_eq_true rfl, Nat.le_of_ble_eq_true rfl⟩ hS) hS (fun ru u H locs hp hw hS => ?_)
            obtain ⟨hr, hu⟩ := hp
            rw [hu] at hw
            refine xw_ti (y := (xI (g (k - i)))) (hr.trans (by rw [xcf_n _ (by omega)])) ?_
            refine lv_i2l (v := ((xI (g (k - i)))).toInt64) hx hb dX3_setProduct_68 rfl ?_
            refine xw_tl (y := (xJ (g (k - i)))) (xI_l _) ?_
            refine lv_lmul hx hb dX3_setProduct_69 ?_
            refine lv_ladd hx hb dX3_setProduct_70 ?_
            refine xw_tl (y := (lN (T + (f i).val * (g (k - i)).val))) (x_sumL _ _ _) ?_
            refine lv_lstore (lv' := [(4, .long (lN (T + (f i).val * (g (k - i)).val))), (7, .int (nI i)), (6, .int (nI (min (k + 1) (xlen f n2)) - 1)), (3, .int (nI k)), (0, .ref h), (1, .ref h2), (2, .ref h3)]) hx hb dX3_setProduct_71 hl (by decide) rfl (fun ls hl => ?_)
            refine lv_iinc (v := (nI (i + 1))) (lv' := [(7, .int (nI (i + 1))), (4, .long (lN (T + (f i).val * (g (k - i)).val))), (6, .int (nI (min (k + 1) (xlen f n2)) - 1)), (3, .int (nI k)), (0, .ref h), (1, .ref h2), (2, .ref h3)]) hx hb dX3_setProduct_73 hl (k := 1) rfl (x_inc i) (by decide) rfl (fun ls hl => ?_)
            refine lv_goto (tgt := 44) hx hb dX3_setProduct_76 (by decide) ?_
            have hm := x_val_mul_lt (f i) (g (k - i))
            exact iht (i + 1) _ ls _ _ (by omega) (by rw [Nat.add_mul]; omega) (by rw [xO_add, hTe, x_val_mul, xS_s]) hw hS (lv_sub hl [0, 2, 1, 3, 4, 5, 6] rfl)
      exact inner (k + 1 - (k + 1 - xlen g n3)) (k + 1 - xlen g n3) 0 ls _ _ (by omega) (Nat.zero_le _) (by rw [xS_from hsg]; decide) hw hS hl
  exact loop (xlen f n2 + xlen g n3 - 1) 0 ls _ _ (by omega) (by rw [xcut_0]; exact hw) hS hl
