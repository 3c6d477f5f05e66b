/-! ===== the law's loop ===== -/
set_option maxHeartbeats 4000000 in
set_option maxRecDepth 100000 in
theorem law_loop {p : Program} {l : Launch} {ev : Env} {s : State} {m : MethodId} {below : List Frame} {meth : Method} {cd : Code} {b L : Nat} {xs : Nat → Int32} {G : xG} {h mo O : Nat} (hl9 : l.stackTraces = false) (C : xC p s m #[Value.ref b] meth cd code 7 ret wsL_law RL meth.name G s.heap.size) (hz : xZ s.heap.size s) (hX : va_X b L xs s s.heap) (hbl : b < s.heap.size) (hL : L ≤ 2560)  (hr : meth.sig.returnType = ret) (hlocks : meth.locks = false) : ∀ (d j : Nat) (w : xM) (H : Heap) (locs : List Loc) (ls : Array Slot), L < 5 * (j + d) → 5 * j ≤ L → xInv G w h mo O → xW G s.heap.size w H → va_S (xA s.heap.size) s.heap H locs → lv_has ls 7 [(4, .int (nI (5 * j))), (3, .ref O), (2, .ref mo), (1, .ref h), (0, .ref b)] → W p l ev room_1 s m #[Value.ref b] below meth cd H locs (100 + 12 * j) (6000 + 200 * j) (lw_Z below #[Value.ref b] s) (F0 m 23 ls []) := by
  obtain ⟨hx, hb, -, -, -, hts, -, -, -, -⟩ := id C
  have hbA : ¬ xA s.heap.size b := Nat.not_le.mpr hbl
  intro d
  induction d with
  | zero => intro j w H locs ls hd hj; exact absurd hd (by omega)
  | succ d ih =>
    intro j w H locs ls hd hj hI hw hS hl
    refine lv_iload hx hb dL_law_23 (lv_at hl 0 rfl) ?_
    refine lv_aload_n hx hb dL_law_25 rfl (lv_at hl 4 rfl) ?_
    refine va_slen hx hb hX hbl hbA hS dL_law_26 ?_
    show W p l ev room_1 s m #[Value.ref b] below meth cd H locs (100 + 12 * j) (6000 + 200 * j) (lw_Z below #[Value.ref b] s) (F0 m 27 ls [.int (nI L), .int (nI (5 * j))])
    refine lv_iconst (v := 5) hx hb dL_law_27 (by decide) ?_
    refine lv_isub hx hb dL_law_28 ?_
    refine lv_icmp_gt (tgt := 1368) hx hb dL_law_29 (by decide) (fun hc => ?_) (fun hc => ?_)
    · skip
      refine lv_iconst (v := 1) hx hb dL_law_1368 (by decide) ?_
      refine va_forget (fun q hq => hS.2.2 q hq) ?_
      refine W.widen (k := 797606) (n := 6703287) (by omega) (by omega) ?_
      exact lw_ret hx hb hr hlocks dL_law_1369
    · skip
      have hi : 5 * j + 5 ≤ L := Nat.not_lt.mp fun q => hc ((xl_end hL (by omega)).mpr q)
      refine lv_aload_n hx hb dL_law_32 rfl (lv_at hl 4 rfl) ?_
      refine lv_iload hx hb dL_law_33 (lv_at hl 0 rfl) ?_
      refine xl_sld hx hb hX hbl hbA hS (show 5 * j < L by omega) (by omega) dL_law_35 ?_
      refine lv_bipush (v := 31) hx hb dL_law_36 (by decide) ?_
      refine lv_iand hx hb dL_law_38 ?_
      obtain ⟨n, hn, he⟩ := xl_and (xs (5 * j))
      refine xw_ti (y := nI n) he ?_
      have kk : ∀ (u : xM) (H : Heap) (locs : List Loc) (ls : Array Slot), xInv G u h mo O → xW G s.heap.size u H → va_S (xA s.heap.size) s.heap H locs → lv_has ls 7 [(4, .int (nI (5 * j))), (3, .ref O), (2, .ref mo), (1, .ref h), (0, .ref b)] → W p l ev room_1 s m #[Value.ref b] below meth cd H locs (100 + 12 * j + 12) (6000 + 200 * j + 200) (lw_Z below #[Value.ref b] s) (F0 m 1362 ls []) := by
        intro u H locs ls hI hw hS hl
        refine lv_iinc (v := (nI (5 * (j + 1)))) (lv' := [(4, .int (nI (5 * (j + 1)))), (3, .ref O), (2, .ref mo), (1, .ref h), (0, .ref b)]) hx hb dL_law_1362 hl (k := 0) rfl ((xl_p5 (5 * j)).trans (congrArg nI (by omega))) (by decide) rfl (fun ls hl => ?_)
        refine lv_goto (tgt := 23) hx hb dL_law_1365 (by decide) ?_
        refine W.widen (k := 100 + 12 * (j + 1)) (n := 6000 + 200 * (j + 1)) (by omega) (by omega) ?_
        exact ih (j + 1) u H locs ls (by omega) (by omega) hI hw hS hl
      by_cases hn16 : 16 < n
      · refine lv_tableOut (x := nI n) (tgt := 1362) hx hb dL_law_39 (Or.inr (by rw [nI_toInt (by omega)]; omega)) (by decide) ?_
        exact W.widen (k := 100 + 12 * j + 12) (n := 6000 + 200 * j + 200) (Nat.le_add_right _ _) (Nat.le_add_right _ _) (kk w H locs ls hI hw hS hl)
      rcases (show n = 0 ∨ n = 1 ∨ n = 2 ∨ n = 3 ∨ n = 4 ∨ n = 5 ∨ n = 6 ∨ n = 7 ∨ n = 8 ∨ n = 9 ∨ n = 10 ∨ n = 11 ∨ n = 12 ∨ n = 13 ∨ n = 14 ∨ n = 15 ∨ n = 16 by omega) with rfl | rfl | rfl | rfl | rfl | rfl | rfl | rfl | rfl | rfl | rfl | rfl | rfl | rfl | rfl | rfl | rfl
      · refine lv_tableIn (x := nI 0) (off := 81) (tgt := 120) hx hb dL_law_39 (by decide) (by decide) (by decide) (by decide) ?_
        exact lawC_ratio hl9 C hz hX hbl hL hi (by omega) (by omega) hI hw hS hl kk
      · refine lv_tableIn (x := nI 1) (off := 216) (tgt := 255) hx hb dL_law_39 (by decide) (by decide) (by decide) (by decide) ?_
        exact lawC_number hl9 C hz hX hbl hL hi (by omega) (by omega) hI hw hS hl kk
      · refine lv_tableIn (x := nI 2) (off := 304) (tgt := 343) hx hb dL_law_39 (by decide) (by decide) (by decide) (by decide) ?_
        exact lawC_letter hl9 C hz hX hbl hL hi (by omega) (by omega) hI hw hS hl kk
      · refine lv_tableIn (x := nI 3) (off := 348) (tgt := 387) hx hb dL_law_39 (by decide) (by decide) (by decide) (by decide) ?_
        exact lawC_add hl9 C hz hX hbl hL hi (by omega) (by omega) hI hw hS hl kk
      · refine lv_tableIn (x := nI 4) (off := 416) (tgt := 455) hx hb dL_law_39 (by decide) (by decide) (by decide) (by decide) ?_
        exact lawC_times hl9 C hz hX hbl hL hi (by omega) (by omega) hI hw hS hl kk
      · refine lv_tableIn (x := nI 5) (off := 484) (tgt := 523) hx hb dL_law_39 (by decide) (by decide) (by decide) (by decide) ?_
        exact lawC_over hl9 C hz hX hbl hL hi (by omega) (by omega) hI hw hS hl kk
      · refine lv_tableIn (x := nI 6) (off := 552) (tgt := 591) hx hb dL_law_39 (by decide) (by decide) (by decide) (by decide) ?_
        exact lawC_moved hl9 C hz hX hbl hL hi (by omega) (by omega) hI hw hS hl kk
      · refine lv_tableIn (x := nI 7) (off := 608) (tgt := 647) hx hb dL_law_39 (by decide) (by decide) (by decide) (by decide) ?_
        exact lawC_step hl9 C hz hX hbl hL hi (by omega) (by omega) hI hw hS hl kk
      · refine lv_tableIn (x := nI 8) (off := 664) (tgt := 703) hx hb dL_law_39 (by decide) (by decide) (by decide) (by decide) ?_
        exact lawC_proves hl9 C hz hX hbl hL hi (by omega) (by omega) hI hw hS hl kk
      · refine lv_tableIn (x := nI 9) (off := 739) (tgt := 778) hx hb dL_law_39 (by decide) (by decide) (by decide) (by decide) ?_
        exact lawC_find hl9 C hz hX hbl hL hi (by omega) (by omega) hI hw hS hl kk
      · refine lv_tableIn (x := nI 10) (off := 819) (tgt := 858) hx hb dL_law_39 (by decide) (by decide) (by decide) (by decide) ?_
        exact lawC_least hl9 C hz hX hbl hL hi (by omega) (by omega) hI hw hS hl kk
      · refine lv_tableIn (x := nI 11) (off := 887) (tgt := 926) hx hb dL_law_39 (by decide) (by decide) (by decide) (by decide) ?_
        exact lawC_free hl9 C hz hX hbl hL hi (by omega) (by omega) hI hw hS hl kk
      · refine lv_tableIn (x := nI 12) (off := 955) (tgt := 994) hx hb dL_law_39 (by decide) (by decide) (by decide) (by decide) ?_
        exact lawC_degree hl9 C hz hX hbl hL hi (by omega) (by omega) hI hw hS hl kk
      · refine lv_tableIn (x := nI 13) (off := 1039) (tgt := 1078) hx hb dL_law_39 (by decide) (by decide) (by decide) (by decide) ?_
        exact lawC_at hl9 C hz hX hbl hL hi (by omega) (by omega) hI hw hS hl kk
      · refine lv_tableIn (x := nI 14) (off := 1135) (tgt := 1174) hx hb dL_law_39 (by decide) (by decide) (by decide) (by decide) ?_
        exact lawC_value hl9 C hz hX hbl hL hi (by omega) (by omega) hI hw hS hl kk
      · refine lv_tableIn (x := nI 15) (off := 1235) (tgt := 1274) hx hb dL_law_39 (by decide) (by decide) (by decide) (by decide) ?_
        exact lawC_same hl9 C hz hX hbl hL hi (by omega) (by omega) hI hw hS hl kk
      · refine lv_tableIn (x := nI 16) (off := 1310) (tgt := 1349) hx hb dL_law_39 (by decide) (by decide) (by decide) (by decide) ?_
        exact lawC_count hl9 C hz hX hbl hL hi (by omega) (by omega) hI hw hS hl kk
