/-! ===== the law's case 'ratio' (laid by wip/whole/m_law.py) ===== -/
set_option maxHeartbeats 4000000 in
set_option maxRecDepth 100000 in
theorem lawC_ratio {p : Program} {l : Launch} {ev : Env} {s : State} {m : MethodId} {below : List Frame} {meth : Method} {cd : Code} {b L : Nat} {xs : Nat → Int32} {G : xG} {h mo O i cells slots : Nat} {w : xM} {H : Heap} {locs : List Loc} {ls : Array Slot} (hl9 : l.stackTraces = false) (C : xC p s m #[Value.ref b] meth cd code 7 ret wsL_law RL meth.name G s.heap.size) (hz : xZ s.heap.size s) (hX : va_X b L xs s s.heap) (hbl : b < s.heap.size) (hL : L ≤ 2560) (hi : i + 5 ≤ L) (hc : cells + 12 ≤ 797606) (hs : slots + 200 ≤ 6703287) (hI : xInv G w h mo O) (hw : xW G s.heap.size w H) (hS : va_S (xA s.heap.size) s.heap H locs) (hl : lv_has ls 7 [(4, .int (nI i)), (3, .ref O), (2, .ref mo), (1, .ref h), (0, .ref b)]) (kk : ∀ (u : xM) (H : Heap) (locs : List Loc) (ls : Array Slot), xInv G u h mo O → xW G s.heap.size u H → va_S (xA s.heap.size) s.heap H locs → lv_has ls 7 [(4, .int (nI i)), (3, .ref O), (2, .ref mo), (1, .ref h), (0, .ref b)] → W p l ev room_1 s m #[Value.ref b] below meth cd H locs (cells + 12) (slots + 200) (lw_Z below #[Value.ref b] s) (F0 m 1362 ls [])) : W p l ev room_1 s m #[Value.ref b] below meth cd H locs (cells) (slots) (lw_Z below #[Value.ref b] s) (F0 m 120 ls []) := by
  obtain ⟨hx, hb, -, -, -, hts, -, -, -, -⟩ := id C
  have hbA : ¬ xA s.heap.size b := Nat.not_le.mpr hbl
  obtain ⟨pa, ra, cp, fr, ad, md, ps, la, ia, rq, im, hP, hT⟩ := hI
  obtain ⟨eo, tb, wr, fo, hC, hO, hwr⟩ := hP.c
  have hh : ad 0 = h := hP.2.2.1
  have hx9 := hC.x
  rw [hh] at hx9
  refine lv_aload_n hx hb dL_law_120 rfl (lv_at hl 3 rfl) ?_
  refine lv_aload_n hx hb dL_law_121 rfl (lv_at hl 4 rfl) ?_
  refine lv_iload hx hb dL_law_122 (lv_at hl 0 rfl) ?_
  refine lv_iconst (v := 1) hx hb dL_law_124 (by decide) ?_
  refine lv_iadd hx hb dL_law_125 ?_
  refine xw_ti (y := (nI (i + 1))) (xl_p1 i) ?_
  refine xl_sld hx hb hX hbl hbA hS (show i + 1 < L by omega) (by omega) dL_law_126 ?_
  refine lv_if_eq (tgt := 134) hx hb dL_law_127 (by decide) (fun hzb => ?_) (fun hzb => ?_)
  · skip
    refine lv_iconst (v := 0) hx hb dL_law_134 (by decide) ?_
    refine lv_aload_n hx hb dL_law_135 rfl (lv_at hl 4 rfl) ?_
    refine lv_iload hx hb dL_law_136 (lv_at hl 0 rfl) ?_
    refine lv_iconst (v := 2) hx hb dL_law_138 (by decide) ?_
    refine lv_iadd hx hb dL_law_139 ?_
    refine xw_ti (y := (nI (i + 2))) (xl_p2 i) ?_
    refine xl_sld hx hb hX hbl hbA hS (show i + 2 < L by omega) (by omega) dL_law_140 ?_
    refine lv_aload_n hx hb dL_law_141 rfl (lv_at hl 4 rfl) ?_
    refine lv_iload hx hb dL_law_142 (lv_at hl 0 rfl) ?_
    refine lv_iconst (v := 3) hx hb dL_law_144 (by decide) ?_
    refine lv_iadd hx hb dL_law_145 ?_
    refine xw_ti (y := (nI (i + 3))) (xl_p3 i) ?_
    refine xl_sld hx hb hX hbl hbA hS (show i + 3 < L by omega) (by omega) dL_law_146 ?_
    refine lv_i2l (v := ((xs (i + 3))).toInt64) hx hb dL_law_147 rfl ?_
    refine lv_bipush (v := 32) hx hb dL_law_148 (by decide) ?_
    refine lv_lshl hx hb dL_law_150 rfl ?_
    refine lv_aload_n hx hb dL_law_151 rfl (lv_at hl 4 rfl) ?_
    refine lv_iload hx hb dL_law_152 (lv_at hl 0 rfl) ?_
    refine lv_iconst (v := 4) hx hb dL_law_154 (by decide) ?_
    refine lv_iadd hx hb dL_law_155 ?_
    refine xw_ti (y := (nI (i + 4))) (xl_p4 i) ?_
    refine xl_sld hx hb hX hbl hbA hS (show i + 4 < L by omega) (by omega) dL_law_156 ?_
    refine lv_i2l (v := ((xs (i + 4))).toInt64) hx hb dL_law_157 rfl ?_
    refine xw_ldc2 C (v := 4294967295) wL_79 dL_law_158 ?_
    refine lv_land hx hb dL_law_161 ?_
    refine lv_lor hx hb dL_law_162 ?_
    obtain ⟨v9, hv9⟩ : ∃ v9 : Int64, v9 = (((((xs (i + 3))).toInt64) <<< ((32 : Int32).toInt64 &&& 63)) ||| ((((xs (i + 4))).toInt64) &&& 4294967295)) := ⟨_, rfl⟩
    refine xw_tl (y := v9) (hv9.symm) ?_
    refine lv_aload_n hx hb dL_law_163 rfl (lv_at hl 1 rfl) ?_
    have hM9 := kX4_ratio l hl9 G s.heap.size w pa ra cp fr ad md ps eo tb wr hC 0 (xs (i + 2)) v9
    rw [hh] at hM9
    refine xw_ci (xl_S (n := 5) (rest := []) C hw hz (kL_ratio l G s.heap.size w h O fo wr _ _ _ hx9 hO (xp_ratio 0 (xs (i + 2)) v9 hC).1 (xp_ratio 0 (xs (i + 2)) v9 hC).2 0 (xs (i + 2)) v9 hM9) gL_law_L_ratio rfl rfl rfl (by decide +kernel) ⟨Nat.le_of_ble_eq_true rfl, Nat.le_of_ble_eq_true rfl⟩ rfl hl.1 rfl (Nat.le_of_ble_eq_true rfl) dL_law_164 ⟨hc, hs⟩ hS) hS (fun k9 u1 H locs hk hw hS => ?_)
    obtain ⟨hk, hsub⟩ := hk
    refine lv_istore (lv' := [(5, .int k9), (4, .int (nI i)), (3, .ref O), (2, .ref mo), (1, .ref h), (0, .ref b)]) hx hb dL_law_167 hl (by decide) rfl (fun ls hl => ?_)
    obtain ⟨co, lr, ro, me, wr2, hM, hw2⟩ := hP.x hwr hsub
    refine lv_aload_n hx hb dL_law_169 rfl (lv_at hl 3 rfl) ?_
    refine lv_aload_n hx hb dL_law_170 rfl (lv_at hl 5 rfl) ?_
    refine lv_iload hx hb dL_law_171 (lv_at hl 1 rfl) ?_
    refine lv_iconst (v := 1) hx hb dL_law_173 (by decide) ?_
    refine lv_iadd hx hb dL_law_174 ?_
    refine xw_ti (y := (nI (i + 1))) (xl_p1 i) ?_
    refine xl_sld hx hb hX hbl hbA hS (show i + 1 < L by omega) (by omega) dL_law_175 ?_
    refine lv_if_eq (tgt := 183) hx hb dL_law_176 (by decide) (fun _ => ?_) (fun hc => absurd (hzb) hc)
    refine lv_iconst (v := 0) hx hb dL_law_183 (by decide) ?_
    refine lv_aload_n hx hb dL_law_184 rfl (lv_at hl 5 rfl) ?_
    refine lv_iload hx hb dL_law_185 (lv_at hl 1 rfl) ?_
    refine lv_iconst (v := 2) hx hb dL_law_187 (by decide) ?_
    refine lv_iadd hx hb dL_law_188 ?_
    refine xw_ti (y := (nI (i + 2))) (xl_p2 i) ?_
    refine xl_sld hx hb hX hbl hbA hS (show i + 2 < L by omega) (by omega) dL_law_189 ?_
    refine lv_aload_n hx hb dL_law_190 rfl (lv_at hl 5 rfl) ?_
    refine lv_iload hx hb dL_law_191 (lv_at hl 1 rfl) ?_
    refine lv_iconst (v := 3) hx hb dL_law_193 (by decide) ?_
    refine lv_iadd hx hb dL_law_194 ?_
    refine xw_ti (y := (nI (i + 3))) (xl_p3 i) ?_
    refine xl_sld hx hb hX hbl hbA hS (show i + 3 < L by omega) (by omega) dL_law_195 ?_
    refine lv_i2l (v := ((xs (i + 3))).toInt64) hx hb dL_law_196 rfl ?_
    refine lv_bipush (v := 32) hx hb dL_law_197 (by decide) ?_
    refine lv_lshl hx hb dL_law_199 rfl ?_
    refine lv_aload_n hx hb dL_law_200 rfl (lv_at hl 5 rfl) ?_
    refine lv_iload hx hb dL_law_201 (lv_at hl 1 rfl) ?_
    refine lv_iconst (v := 4) hx hb dL_law_203 (by decide) ?_
    refine lv_iadd hx hb dL_law_204 ?_
    refine xw_ti (y := (nI (i + 4))) (xl_p4 i) ?_
    refine xl_sld hx hb hX hbl hbA hS (show i + 4 < L by omega) (by omega) dL_law_205 ?_
    refine lv_i2l (v := ((xs (i + 4))).toInt64) hx hb dL_law_206 rfl ?_
    refine xw_ldc2 C (v := 4294967295) wL_79 dL_law_207 ?_
    refine lv_land hx hb dL_law_210 ?_
    refine lv_lor hx hb dL_law_211 ?_
    refine xw_tl (y := v9) (hv9.symm) ?_
    refine xw_ci (xw_V (n := 3) (rest := []) C hw (kX5_ratio l G s.heap.size u1 mo la ia rq co md im lr ro me wr2 hM 0 (xs (i + 2)) v9) gL_law_X5_ratio rfl rfl rfl (by decide +kernel) ⟨Nat.le_of_ble_eq_true rfl, Nat.le_of_ble_eq_true rfl⟩ hM.o rfl rfl hl.1 rfl (Nat.le_of_ble_eq_true rfl) dL_law_212 ⟨hc, hs⟩ hS) hS (fun b9 u2 H locs hm hw hS => ?_)
    have hD := xd_ratio 0 (xs (i + 2)) v9 ⟨hP, hT, hC, hO, hwr, hw2⟩ hk hm
    obtain ⟨pa2, ra2, cp2, fr2, ad2, md2, ps2, la2, ia2, rq2, im2, co2, fo2, hP2, hT2, ⟨lr2, ro2, me2, wr3, hM2⟩, hco, hO2, hv⟩ := id hD
    refine lv_istore (lv' := [(6, .int b9), (5, .int k9), (4, .int (nI i)), (3, .ref O), (2, .ref mo), (1, .ref h), (0, .ref b)]) hx hb dL_law_215 hl (by decide) rfl (fun ls hl => ?_)
    refine lv_aload_n hx hb dL_law_217 rfl (lv_at hl 4 rfl) ?_
    refine xw_ci (xw_V (n := 0) (rest := []) C hw (kX5_thrown l G s.heap.size u2 mo la2 ia2 rq2 co2 md2 im2 lr2 ro2 me2 wr3 hM2) gL_law_X5_thrown rfl rfl rfl (by decide +kernel) ⟨Nat.le_of_ble_eq_true rfl, Nat.le_of_ble_eq_true rfl⟩ hM2.o rfl rfl hl.1 rfl (Nat.le_of_ble_eq_true rfl) dL_law_218 ⟨hc, hs⟩ hS) hS (fun t9 u3 H locs hq hw hS => ?_)
    obtain ⟨ht9, hu⟩ := hq
    rw [hu] at hw
    refine lv_iload hx hb dL_law_221 (lv_at hl 1 rfl) ?_
    refine lv_icmp_eq (tgt := 228) hx hb dL_law_223 (by decide) (fun _ => ?_) (fun hc => absurd (ht9.trans hco) hc)
    refine lv_iload hx hb dL_law_228 (lv_at hl 1 rfl) ?_
    refine lv_if_ne (tgt := 252) hx hb dL_law_230 (by decide) (fun hk0 => ?_) (fun hk0 => ?_)
    · skip
      refine lv_goto (tgt := 1362) hx hb dL_law_252 (by decide) ?_
      exact kk u2 H locs ls hD.inv hw hS (lv_sub hl [2, 3, 4, 5, 6] rfl)
    · skip
      have hk0 : k9 = 0 := hk0
      refine lv_aload_n hx hb dL_law_233 rfl (lv_at hl 3 rfl) ?_
      refine lv_iconst (v := 0) hx hb dL_law_234 (by decide) ?_
      refine xw_ti (y := (nI 0)) (nI_0.symm) ?_
      refine xw_laldN C hw hO2 (show 0 < 1 by decide) (by decide) dL_law_235 ?_
      refine lv_iload hx hb dL_law_236 (lv_at hl 0 rfl) ?_
      refine lv_if_eq (tgt := 245) hx hb dL_law_238 (by decide) (fun hb0 => ?_) (fun hb0 => ?_)
      · skip
        refine lv_lconst (v := 0) hx hb dL_law_245 (by decide) ?_
        refine W.lcmp hx hb dL_law_246 ?_
        refine lv_if_eq (tgt := 252) hx hb dL_law_247 (by decide) (fun _ => ?_) (fun hc => absurd ((lg_cmp_eq _ _).mpr ((hv hk0).trans (if_pos hb0))) hc)
        refine lv_goto (tgt := 1362) hx hb dL_law_252 (by decide) ?_
        exact kk u2 H locs ls hD.inv hw hS (lv_sub hl [2, 3, 4, 5, 6] rfl)
      · skip
        refine lv_lconst (v := 1) hx hb dL_law_241 (by decide) ?_
        refine lv_goto (tgt := 246) hx hb dL_law_242 (by decide) ?_
        refine W.lcmp hx hb dL_law_246 ?_
        refine lv_if_eq (tgt := 252) hx hb dL_law_247 (by decide) (fun _ => ?_) (fun hc => absurd ((lg_cmp_eq _ _).mpr ((hv hk0).trans (if_neg hb0))) hc)
        refine lv_goto (tgt := 1362) hx hb dL_law_252 (by decide) ?_
        exact kk u2 H locs ls hD.inv hw hS (lv_sub hl [2, 3, 4, 5, 6] rfl)
  · skip
    refine lv_iconst (v := 1) hx hb dL_law_130 (by decide) ?_
    refine lv_goto (tgt := 135) hx hb dL_law_131 (by decide) ?_
    refine lv_aload_n hx hb dL_law_135 rfl (lv_at hl 4 rfl) ?_
    refine lv_iload hx hb dL_law_136 (lv_at hl 0 rfl) ?_
    refine lv_iconst (v := 2) hx hb dL_law_138 (by decide) ?_
    refine lv_iadd hx hb dL_law_139 ?_
    refine xw_ti (y := (nI (i + 2))) (xl_p2 i) ?_
    refine xl_sld hx hb hX hbl hbA hS (show i + 2 < L by omega) (by omega) dL_law_140 ?_
    refine lv_aload_n hx hb dL_law_141 rfl (lv_at hl 4 rfl) ?_
    refine lv_iload hx hb dL_law_142 (lv_at hl 0 rfl) ?_
    refine lv_iconst (v := 3) hx hb dL_law_144 (by decide) ?_
    refine lv_iadd hx hb dL_law_145 ?_
    refine xw_ti (y := (nI (i + 3))) (xl_p3 i) ?_
    refine xl_sld hx hb hX hbl hbA hS (show i + 3 < L by omega) (by omega) dL_law_146 ?_
    refine lv_i2l (v := ((xs (i + 3))).toInt64) hx hb dL_law_147 rfl ?_
    refine lv_bipush (v := 32) hx hb dL_law_148 (by decide) ?_
    refine lv_lshl hx hb dL_law_150 rfl ?_
    refine lv_aload_n hx hb dL_law_151 rfl (lv_at hl 4 rfl) ?_
    refine lv_iload hx hb dL_law_152 (lv_at hl 0 rfl) ?_
    refine lv_iconst (v := 4) hx hb dL_law_154 (by decide) ?_
    refine lv_iadd hx hb dL_law_155 ?_
    refine xw_ti (y := (nI (i + 4))) (xl_p4 i) ?_
    refine xl_sld hx hb hX hbl hbA hS (show i + 4 < L by omega) (by omega) dL_law_156 ?_
    refine lv_i2l (v := ((xs (i + 4))).toInt64) hx hb dL_law_157 rfl ?_
    refine xw_ldc2 C (v := 4294967295) wL_79 dL_law_158 ?_
    refine lv_land hx hb dL_law_161 ?_
    refine lv_lor hx hb dL_law_162 ?_
    obtain ⟨v9, hv9⟩ : ∃ v9 : Int64, v9 = (((((xs (i + 3))).toInt64) <<< ((32 : Int32).toInt64 &&& 63)) ||| ((((xs (i + 4))).toInt64) &&& 4294967295)) := ⟨_, rfl⟩
    refine xw_tl (y := v9) (hv9.symm) ?_
    refine lv_aload_n hx hb dL_law_163 rfl (lv_at hl 1 rfl) ?_
    have hM9 := kX4_ratio l hl9 G s.heap.size w pa ra cp fr ad md ps eo tb wr hC 1 (xs (i + 2)) v9
    rw [hh] at hM9
    refine xw_ci (xl_S (n := 5) (rest := []) C hw hz (kL_ratio l G s.heap.size w h O fo wr _ _ _ hx9 hO (xp_ratio 1 (xs (i + 2)) v9 hC).1 (xp_ratio 1 (xs (i + 2)) v9 hC).2 1 (xs (i + 2)) v9 hM9) gL_law_L_ratio rfl rfl rfl (by decide +kernel) ⟨Nat.le_of_ble_eq_true rfl, Nat.le_of_ble_eq_true rfl⟩ rfl hl.1 rfl (Nat.le_of_ble_eq_true rfl) dL_law_164 ⟨hc, hs⟩ hS) hS (fun k9 u1 H locs hk hw hS => ?_)
    obtain ⟨hk, hsub⟩ := hk
    refine lv_istore (lv' := [(5, .int k9), (4, .int (nI i)), (3, .ref O), (2, .ref mo), (1, .ref h), (0, .ref b)]) hx hb dL_law_167 hl (by decide) rfl (fun ls hl => ?_)
    obtain ⟨co, lr, ro, me, wr2, hM, hw2⟩ := hP.x hwr hsub
    refine lv_aload_n hx hb dL_law_169 rfl (lv_at hl 3 rfl) ?_
    refine lv_aload_n hx hb dL_law_170 rfl (lv_at hl 5 rfl) ?_
    refine lv_iload hx hb dL_law_171 (lv_at hl 1 rfl) ?_
    refine lv_iconst (v := 1) hx hb dL_law_173 (by decide) ?_
    refine lv_iadd hx hb dL_law_174 ?_
    refine xw_ti (y := (nI (i + 1))) (xl_p1 i) ?_
    refine xl_sld hx hb hX hbl hbA hS (show i + 1 < L by omega) (by omega) dL_law_175 ?_
    refine lv_if_eq (tgt := 183) hx hb dL_law_176 (by decide) (fun hc => absurd hc (hzb)) (fun _ => ?_)
    refine lv_iconst (v := 1) hx hb dL_law_179 (by decide) ?_
    refine lv_goto (tgt := 184) hx hb dL_law_180 (by decide) ?_
    refine lv_aload_n hx hb dL_law_184 rfl (lv_at hl 5 rfl) ?_
    refine lv_iload hx hb dL_law_185 (lv_at hl 1 rfl) ?_
    refine lv_iconst (v := 2) hx hb dL_law_187 (by decide) ?_
    refine lv_iadd hx hb dL_law_188 ?_
    refine xw_ti (y := (nI (i + 2))) (xl_p2 i) ?_
    refine xl_sld hx hb hX hbl hbA hS (show i + 2 < L by omega) (by omega) dL_law_189 ?_
    refine lv_aload_n hx hb dL_law_190 rfl (lv_at hl 5 rfl) ?_
    refine lv_iload hx hb dL_law_191 (lv_at hl 1 rfl) ?_
    refine lv_iconst (v := 3) hx hb dL_law_193 (by decide) ?_
    refine lv_iadd hx hb dL_law_194 ?_
    refine xw_ti (y := (nI (i + 3))) (xl_p3 i) ?_
    refine xl_sld hx hb hX hbl hbA hS (show i + 3 < L by omega) (by omega) dL_law_195 ?_
    refine lv_i2l (v := ((xs (i + 3))).toInt64) hx hb dL_law_196 rfl ?_
    refine lv_bipush (v := 32) hx hb dL_law_197 (by decide) ?_
    refine lv_lshl hx hb dL_law_199 rfl ?_
    refine lv_aload_n hx hb dL_law_200 rfl (lv_at hl 5 rfl) ?_
    refine lv_iload hx hb dL_law_201 (lv_at hl 1 rfl) ?_
    refine lv_iconst (v := 4) hx hb dL_law_203 (by decide) ?_
    refine lv_iadd hx hb dL_law_204 ?_
    refine xw_ti (y := (nI (i + 4))) (xl_p4 i) ?_
    refine xl_sld hx hb hX hbl hbA hS (show i + 4 < L by omega) (by omega) dL_law_205 ?_
    refine lv_i2l (v := ((xs (i + 4))).toInt64) hx hb dL_law_206 rfl ?_
    refine xw_ldc2 C (v := 4294967295) wL_79 dL_law_207 ?_
    refine lv_land hx hb dL_law_210 ?_
    refine lv_lor hx hb dL_law_211 ?_
    refine xw_tl (y := v9) (hv9.symm) ?_
    refine xw_ci (xw_V (n := 3) (rest := []) C hw (kX5_ratio l G s.heap.size u1 mo la ia rq co md im lr ro me wr2 hM 1 (xs (i + 2)) v9) gL_law_X5_ratio rfl rfl rfl (by decide +kernel) ⟨Nat.le_of_ble_eq_true rfl, Nat.le_of_ble_eq_true rfl⟩ hM.o rfl rfl hl.1 rfl (Nat.le_of_ble_eq_true rfl) dL_law_212 ⟨hc, hs⟩ hS) hS (fun b9 u2 H locs hm hw hS => ?_)
    have hD := xd_ratio 1 (xs (i + 2)) v9 ⟨hP, hT, hC, hO, hwr, hw2⟩ hk hm
    obtain ⟨pa2, ra2, cp2, fr2, ad2, md2, ps2, la2, ia2, rq2, im2, co2, fo2, hP2, hT2, ⟨lr2, ro2, me2, wr3, hM2⟩, hco, hO2, hv⟩ := id hD
    refine lv_istore (lv' := [(6, .int b9), (5, .int k9), (4, .int (nI i)), (3, .ref O), (2, .ref mo), (1, .ref h), (0, .ref b)]) hx hb dL_law_215 hl (by decide) rfl (fun ls hl => ?_)
    refine lv_aload_n hx hb dL_law_217 rfl (lv_at hl 4 rfl) ?_
    refine xw_ci (xw_V (n := 0) (rest := []) C hw (kX5_thrown l G s.heap.size u2 mo la2 ia2 rq2 co2 md2 im2 lr2 ro2 me2 wr3 hM2) gL_law_X5_thrown rfl rfl rfl (by decide +kernel) ⟨Nat.le_of_ble_eq_true rfl, Nat.le_of_ble_eq_true rfl⟩ hM2.o rfl rfl hl.1 rfl (Nat.le_of_ble_eq_true rfl) dL_law_218 ⟨hc, hs⟩ hS) hS (fun t9 u3 H locs hq hw hS => ?_)
    obtain ⟨ht9, hu⟩ := hq
    rw [hu] at hw
    refine lv_iload hx hb dL_law_221 (lv_at hl 1 rfl) ?_
    refine lv_icmp_eq (tgt := 228) hx hb dL_law_223 (by decide) (fun _ => ?_) (fun hc => absurd (ht9.trans hco) hc)
    refine lv_iload hx hb dL_law_228 (lv_at hl 1 rfl) ?_
    refine lv_if_ne (tgt := 252) hx hb dL_law_230 (by decide) (fun hk0 => ?_) (fun hk0 => ?_)
    · skip
      refine lv_goto (tgt := 1362) hx hb dL_law_252 (by decide) ?_
      exact kk u2 H locs ls hD.inv hw hS (lv_sub hl [2, 3, 4, 5, 6] rfl)
    · skip
      have hk0 : k9 = 0 := hk0
      refine lv_aload_n hx hb dL_law_233 rfl (lv_at hl 3 rfl) ?_
      refine lv_iconst (v := 0) hx hb dL_law_234 (by decide) ?_
      refine xw_ti (y := (nI 0)) (nI_0.symm) ?_
      refine xw_laldN C hw hO2 (show 0 < 1 by decide) (by decide) dL_law_235 ?_
      refine lv_iload hx hb dL_law_236 (lv_at hl 0 rfl) ?_
      refine lv_if_eq (tgt := 245) hx hb dL_law_238 (by decide) (fun hb0 => ?_) (fun hb0 => ?_)
      · skip
        refine lv_lconst (v := 0) hx hb dL_law_245 (by decide) ?_
        refine W.lcmp hx hb dL_law_246 ?_
        refine lv_if_eq (tgt := 252) hx hb dL_law_247 (by decide) (fun _ => ?_) (fun hc => absurd ((lg_cmp_eq _ _).mpr ((hv hk0).trans (if_pos hb0))) hc)
        refine lv_goto (tgt := 1362) hx hb dL_law_252 (by decide) ?_
        exact kk u2 H locs ls hD.inv hw hS (lv_sub hl [2, 3, 4, 5, 6] rfl)
      · skip
        refine lv_lconst (v := 1) hx hb dL_law_241 (by decide) ?_
        refine lv_goto (tgt := 246) hx hb dL_law_242 (by decide) ?_
        refine W.lcmp hx hb dL_law_246 ?_
        refine lv_if_eq (tgt := 252) hx hb dL_law_247 (by decide) (fun _ => ?_) (fun hc => absurd ((lg_cmp_eq _ _).mpr ((hv hk0).trans (if_neg hb0))) hc)
        refine lv_goto (tgt := 1362) hx hb dL_law_252 (by decide) ?_
        exact kk u2 H locs ls hD.inv hw hS (lv_sub hl [2, 3, 4, 5, 6] rfl)
