/-! ===== the law's case 'letter' (laid by wip/whole/m_law.py) ===== -/
set_option maxHeartbeats 4000000 in
set_option maxRecDepth 100000 in
theorem lawC_letter {p : Program} {l : Launch} {ev : Env} {s : State} {m : MethodId} {below : List Frame} {meth : Method} {cd : Code} {b L : Nat} {xs : Nat → Int32} {G : xG} {h mo O i cells slots : Nat} {w : xM} {H : Heap} {locs : List Loc} {ls : Array Slot} (hl9 : l.stackTraces = false) (C : xC p s m #[Value.ref b] meth cd code 7 ret wsL_law RL meth.name G s.heap.size) (hz : xZ s.heap.size s) (hX : va_X b L xs s s.heap) (hbl : b < s.heap.size) (hL : L ≤ 2560) (hi : i + 5 ≤ L) (hc : cells + 12 ≤ 797606) (hs : slots + 200 ≤ 6703287) (hI : xInv G w h mo O) (hw : xW G s.heap.size w H) (hS : va_S (xA s.heap.size) s.heap H locs) (hl : lv_has ls 7 [(4, .int (nI i)), (3, .ref O), (2, .ref mo), (1, .ref h), (0, .ref b)]) (kk : ∀ (u : xM) (H : Heap) (locs : List Loc) (ls : Array Slot), xInv G u h mo O → xW G s.heap.size u H → va_S (xA s.heap.size) s.heap H locs → lv_has ls 7 [(4, .int (nI i)), (3, .ref O), (2, .ref mo), (1, .ref h), (0, .ref b)] → W p l ev room_1 s m #[Value.ref b] below meth cd H locs (cells + 12) (slots + 200) (lw_Z below #[Value.ref b] s) (F0 m 1362 ls [])) : W p l ev room_1 s m #[Value.ref b] below meth cd H locs (cells) (slots) (lw_Z below #[Value.ref b] s) (F0 m 343 ls []) := by
  obtain ⟨hx, hb, -, -, -, hts, -, -, -, -⟩ := id C
  have hbA : ¬ xA s.heap.size b := Nat.not_le.mpr hbl
  obtain ⟨pa, ra, cp, fr, ad, md, ps, la, ia, rq, im, hP, hT⟩ := hI
  obtain ⟨eo, tb, wr, fo, hC, hO, hwr⟩ := hP.c
  have hh : ad 0 = h := hP.2.2.1
  have hx9 := hC.x
  rw [hh] at hx9
  refine lv_aload_n hx hb dL_law_343 rfl (lv_at hl 3 rfl) ?_
  refine lv_aload_n hx hb dL_law_344 rfl (lv_at hl 1 rfl) ?_
  have hM9 := kX4_letter l hl9 G s.heap.size w pa ra cp fr ad md ps eo tb wr hC 
  rw [hh] at hM9
  refine xw_ci (xl_S (n := 2) (rest := []) C hw hz (kL_letter l G s.heap.size w h O fo wr _ _ _ hx9 hO (xp_letter  hC).1 (xp_letter  hC).2  hM9) gL_law_L_letter rfl rfl rfl (by decide +kernel) ⟨Nat.le_of_ble_eq_true rfl, Nat.le_of_ble_eq_true rfl⟩ rfl hl.1 rfl (Nat.le_of_ble_eq_true rfl) dL_law_345 ⟨hc, hs⟩ hS) hS (fun k9 u1 H locs hk hw hS => ?_)
  obtain ⟨hk, hsub⟩ := hk
  refine lv_istore (lv' := [(5, .int k9), (4, .int (nI i)), (3, .ref O), (2, .ref mo), (1, .ref h), (0, .ref b)]) hx hb dL_law_348 hl (by decide) rfl (fun ls hl => ?_)
  obtain ⟨co, lr, ro, me, wr2, hM, hw2⟩ := hP.x hwr hsub
  refine lv_aload_n hx hb dL_law_350 rfl (lv_at hl 3 rfl) ?_
  refine xw_ci (xw_V (n := 0) (rest := []) C hw (kX5_letter l G s.heap.size u1 mo la ia rq co md im lr ro me wr2 hM ) gL_law_X5_letter rfl rfl rfl (by decide +kernel) ⟨Nat.le_of_ble_eq_true rfl, Nat.le_of_ble_eq_true rfl⟩ hM.o rfl rfl hl.1 rfl (Nat.le_of_ble_eq_true rfl) dL_law_351 ⟨hc, hs⟩ hS) hS (fun b9 u2 H locs hm hw hS => ?_)
  have hD := xd_letter  ⟨hP, hT, hC, hO, hwr, hw2⟩ hk hm
  obtain ⟨pa2, ra2, cp2, fr2, ad2, md2, ps2, la2, ia2, rq2, im2, co2, fo2, hP2, hT2, ⟨lr2, ro2, me2, wr3, hM2⟩, hco, hO2, hv⟩ := id hD
  refine lv_istore (lv' := [(6, .int b9), (5, .int k9), (4, .int (nI i)), (3, .ref O), (2, .ref mo), (1, .ref h), (0, .ref b)]) hx hb dL_law_354 hl (by decide) rfl (fun ls hl => ?_)
  refine lv_aload_n hx hb dL_law_356 rfl (lv_at hl 4 rfl) ?_
  refine xw_ci (xw_V (n := 0) (rest := []) C hw (kX5_thrown l G s.heap.size u2 mo la2 ia2 rq2 co2 md2 im2 lr2 ro2 me2 wr3 hM2) gL_law_X5_thrown rfl rfl rfl (by decide +kernel) ⟨Nat.le_of_ble_eq_true rfl, Nat.le_of_ble_eq_true rfl⟩ hM2.o rfl rfl hl.1 rfl (Nat.le_of_ble_eq_true rfl) dL_law_357 ⟨hc, hs⟩ hS) hS (fun t9 u3 H locs hq hw hS => ?_)
  obtain ⟨ht9, hu⟩ := hq
  rw [hu] at hw
  refine lv_iload hx hb dL_law_360 (lv_at hl 1 rfl) ?_
  refine lv_icmp_eq (tgt := 367) hx hb dL_law_362 (by decide) (fun _ => ?_) (fun hc => absurd (ht9.trans hco) hc)
  refine lv_iload hx hb dL_law_367 (lv_at hl 1 rfl) ?_
  refine lv_if_ne (tgt := 384) hx hb dL_law_369 (by decide) (fun hk0 => ?_) (fun hk0 => ?_)
  · skip
    refine lv_goto (tgt := 1362) hx hb dL_law_384 (by decide) ?_
    exact kk u2 H locs ls hD.inv hw hS (lv_sub hl [2, 3, 4, 5, 6] rfl)
  · skip
    have hk0 : k9 = 0 := hk0
    refine lv_aload_n hx hb dL_law_372 rfl (lv_at hl 3 rfl) ?_
    refine lv_iconst (v := 0) hx hb dL_law_373 (by decide) ?_
    refine xw_ti (y := (nI 0)) (nI_0.symm) ?_
    refine xw_laldN C hw hO2 (show 0 < 1 by decide) (by decide) dL_law_374 ?_
    refine lv_iload hx hb dL_law_375 (lv_at hl 0 rfl) ?_
    refine lv_i2l (v := (b9).toInt64) hx hb dL_law_377 rfl ?_
    refine W.lcmp hx hb dL_law_378 ?_
    refine lv_if_eq (tgt := 384) hx hb dL_law_379 (by decide) (fun _ => ?_) (fun hc => absurd ((lg_cmp_eq _ _).mpr (hv hk0)) hc)
    refine lv_goto (tgt := 1362) hx hb dL_law_384 (by decide) ?_
    exact kk u2 H locs ls hD.inv hw hS (lv_sub hl [2, 3, 4, 5, 6] rfl)
