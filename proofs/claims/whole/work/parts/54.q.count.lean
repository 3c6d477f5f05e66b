/-! ===== the law's case 'count' ===== -/
set_option maxHeartbeats 4000000 in
set_option maxRecDepth 100000 in
theorem lawC_count {p : Program} {l : Launch} {ev : Env} {s : State} {m : MethodId} {below : List Frame} {meth : Method} {cd : Code} {b L : Nat} {xs : Nat → Int32} {G : xG} {h mo O i cells slots : Nat} {w : xM} {H : Heap} {locs : List Loc} {ls : Array Slot} (hl9 : l.stackTraces = false) (C : xC p s m #[Value.ref b] meth cd code 7 ret wsL_law RL meth.name G s.heap.size) (hz : xZ s.heap.size s) (hX : va_X b L xs s s.heap) (hbl : b < s.heap.size) (hL : L ≤ 2560) (hi : i + 5 ≤ L) (hc : cells + 12 ≤ 797606) (hs : slots + 200 ≤ 6703287) (hI : xInv G w h mo O) (hw : xW G s.heap.size w H) (hS : va_S (xA s.heap.size) s.heap H locs) (hl : lv_has ls 7 [(4, .int (nI i)), (3, .ref O), (2, .ref mo), (1, .ref h), (0, .ref b)]) (kk : ∀ (u : xM) (H : Heap) (locs : List Loc) (ls : Array Slot), xInv G u h mo O → xW G s.heap.size u H → va_S (xA s.heap.size) s.heap H locs → lv_has ls 7 [(4, .int (nI i)), (3, .ref O), (2, .ref mo), (1, .ref h), (0, .ref b)] → W p l ev room_1 s m #[Value.ref b] below meth cd H locs (cells + 12) (slots + 200) (lw_Z below #[Value.ref b] s) (F0 m 1362 ls [])) : W p l ev room_1 s m #[Value.ref b] below meth cd H locs (cells) (slots) (lw_Z below #[Value.ref b] s) (F0 m 1349 ls []) := by
  obtain ⟨hx, hb, -, -, -, hts, -, -, -, -⟩ := id C
  obtain ⟨pa, ra, cp, fr, ad, md, ps, la, ia, rq, im, hP, hT⟩ := hI
  obtain ⟨eo, tb, wr, fo, hC, hO, hwr⟩ := hP.c
  have hh : ad 0 = h := hP.2.2.1
  have hx9 := hC.x
  rw [hh] at hx9
  obtain ⟨co, lr, ro, me, wr2, hM, hw2⟩ := hP.x (u := w) hwr (fun a e he _ => hC.rest he)
  have hM9 := kX4_count l G s.heap.size w pa ra cp fr ad md ps eo tb wr hC
  rw [hh] at hM9
  refine lv_aload_n hx hb dL_law_1349 rfl (lv_at hl 3 rfl) ?_
  refine xw_ci (xw_V (n := 0) (rest := []) C hw hM9 gL_law_X4_count rfl rfl rfl (by decide +kernel) ⟨Nat.le_of_ble_eq_true rfl, Nat.le_of_ble_eq_true rfl⟩ hx9 rfl rfl hl.1 rfl (Nat.le_of_ble_eq_true rfl) dL_law_1350 ⟨Nat.le_trans (Nat.le_add_right _ _) hc, Nat.le_trans (Nat.le_add_right _ _) hs⟩ hS) hS (fun c9 u1 H locs hq hw hS => ?_)
  obtain ⟨hc9, hu⟩ := hq
  rw [hu] at hw
  refine lv_aload_n hx hb dL_law_1353 rfl (lv_at hl 2 rfl) ?_
  refine xw_ci (xw_V (n := 0) (rest := [.int c9]) C hw (kX5_count l G s.heap.size w mo la ia rq co md im lr ro me wr2 hM) gL_law_X5_count rfl rfl rfl (by decide +kernel) ⟨Nat.le_of_ble_eq_true rfl, Nat.le_of_ble_eq_true rfl⟩ hM.o rfl rfl hl.1 rfl (Nat.le_of_ble_eq_true rfl) dL_law_1354 ⟨Nat.le_trans (Nat.le_add_right _ _) hc, Nat.le_trans (Nat.le_add_right _ _) hs⟩ hS) hS (fun d9 u2 H locs hq hw hS => ?_)
  obtain ⟨hd9, hu2⟩ := hq
  rw [hu2] at hw
  have hID : xInv G (xu w mo (.inr (4, xMf la ia rq 0 md me))) h mo O := xInv.cnt hP hT hwr hO hC hM hw2
  refine lv_icmp_eq (tgt := 1362) hx hb dL_law_1357 (by decide) (fun _ => ?_) (fun hc => absurd (hc9.trans hd9.symm) hc)
  refine W.widen (k := cells + 12) (n := slots + 200) (Nat.le_add_right _ _) (Nat.le_add_right _ _) ?_
  exact kk _ H locs ls hID hw hS hl
