/-! ===== the reference: its static methods (laid by wip/whole/m_mods.py) ===== -/
theorem xlen_t {f : xP} {d : Nat} (h : f d ≠ 0) : xlen f (d + 1) = d + 1 := by show (if f d = 0 then xlen f d else d + 1) = d + 1; rw [if_neg h]
theorem xlen_f {f : xP} {d : Nat} (h : f d = 0) : xlen f (d + 1) = xlen f d := by show (if f d = 0 then xlen f d else d + 1) = xlen f d; rw [if_pos h]
abbrev rmX5_modulo : Room := { frames := 0, cells := 0, slots := 0, locals := 0 }
set_option maxHeartbeats 4000000 in
set_option maxRecDepth 100000 in
theorem kX5_modulo (l : Launch) (G : xG) (B : Nat) (w : xM) (v : Int64) : Met l yX5_modulo wsX5_modulo rmX5_modulo (va_Pc [.long v] (xB G B w)) (va_Ql (fun r u => r = xJ (xR v) ∧ u = w) (xE G B) (xA B)) 0 0 (xA B) := by
  refine xw_start (own := RX5) (mn := "modulo") (cc := cX5_modulo) (nL := 4) (rt := (some .long)) (by decide) rfl rfl rfl (Nat.le_of_ble_eq_true rfl) ?_
  intro p ev s m below meth cd ls C hl hw hS
  obtain ⟨hx, hb, -, -, -, hts, -, -, -, -⟩ := id C
  have hl : lv_has ls 4 [(0, .long v)] := hl
  refine lv_lload_n hx hb dX5_modulo_0 rfl (lv_at hl 0 rfl) ?_
  refine xw_ldc2 C (v := 32003) (by decide +kernel) dX5_modulo_1 ?_
  refine lv_lrem hx hb dX5_modulo_4 (by decide) ?_
  refine lv_lstore_n (lv' := [(2, .long (v - v / 32003 * 32003)), (0, .long v)]) hx hb dX5_modulo_5 rfl hl (by decide) rfl (fun ls hl => ?_)
  refine lv_lload_n hx hb dX5_modulo_6 rfl (lv_at hl 0 rfl) ?_
  refine lv_lconst (v := 0) hx hb dX5_modulo_7 (by decide) ?_
  refine W.lcmp hx hb dX5_modulo_8 ?_
  refine lv_if_ge (tgt := 20) hx hb dX5_modulo_9 (by decide) (fun hc => ?_) (fun hc => ?_)
  · skip
    refine lv_lload_n hx hb dX5_modulo_20 rfl (lv_at hl 0 rfl) ?_
    exact xw_lret C hw hS (Nat.le_of_ble_eq_true rfl) (Nat.le_of_ble_eq_true rfl) (⟨x_mod_p (Int64.not_lt.mpr ((lg_cmp_ge _ _).mp hc)), rfl⟩) dX5_modulo_21
  · skip
    refine lv_lload_n hx hb dX5_modulo_12 rfl (lv_at hl 0 rfl) ?_
    refine xw_ldc2 C (v := 32003) (by decide +kernel) dX5_modulo_13 ?_
    refine lv_ladd hx hb dX5_modulo_16 ?_
    refine lv_goto (tgt := 21) hx hb dX5_modulo_17 (by decide) ?_
    exact xw_lret C hw hS (Nat.le_of_ble_eq_true rfl) (Nat.le_of_ble_eq_true rfl) (⟨x_mod_n (Int64.not_le.mp fun q => hc ((lg_cmp_ge _ _).mpr q)), rfl⟩) dX5_modulo_21

abbrev rmX5_inverse : Room := { frames := 0, cells := 0, slots := 0, locals := 0 }
set_option maxHeartbeats 4000000 in
set_option maxRecDepth 100000 in
theorem kX5_inverse (l : Launch) (G : xG) (B : Nat) (w : xM) (x : xF) : Met l yX5_inverse wsX5_inverse rmX5_inverse (va_Pc [.long (xJ x)] (xB G B w)) (va_Ql (fun r u => r = xJ (xinv x) ∧ u = w) (xE G B) (xA B)) 0 0 (xA B) := by
  refine xw_start (own := RX5) (mn := "inverse") (cc := cX5_inverse) (nL := 7) (rt := (some .long)) (by decide) rfl rfl rfl (Nat.le_of_ble_eq_true rfl) ?_
  intro p ev s m below meth cd ls C hl hw hS
  obtain ⟨hx, hb, -, -, -, hts, -, -, -, -⟩ := id C
  have hl : lv_has ls 7 [(0, .long (xJ x))] := hl
  refine lv_lconst (v := 1) hx hb dX5_inverse_0 (by decide) ?_
  refine xw_tl (y := (xJ 1)) (xJ_1.symm) ?_
  refine lv_lstore_n (lv' := [(2, .long (xJ 1)), (0, .long (xJ x))]) hx hb dX5_inverse_1 rfl hl (by decide) rfl (fun ls hl => ?_)
  refine lv_lload_n hx hb dX5_inverse_2 rfl (lv_at hl 1 rfl) ?_
  refine lv_lstore (lv' := [(4, .long (xJ x)), (2, .long (xJ 1)), (0, .long (xJ x))]) hx hb dX5_inverse_3 hl (by decide) rfl (fun ls hl => ?_)
  refine lv_sipush (v := 32001) hx hb dX5_inverse_5 (by decide) ?_
  refine xw_ti (y := (nI 32001)) (by decide) ?_
  refine lv_istore (lv' := [(6, .int (nI 32001)), (4, .long (xJ x)), (2, .long (xJ 1)), (0, .long (xJ x))]) hx hb dX5_inverse_8 hl (by decide) rfl (fun ls hl => ?_)
  have loop : ∀ (f n : Nat) (r t : xF) (ls : Array Slot) (H : Heap) (locs : List Loc), n < 2 ^ f → n < 40000 → xW G B w H → va_S (xA B) s.heap H locs → lv_has ls 7 [(6, .int (nI n)), (4, .long (xJ t)), (2, .long (xJ r)), (0, .long (xJ x))] → xpw f n r t = xinv x → W p l ev rmX5_inverse s m [.long (xJ x)].toArray below meth cd H locs 0 0 (MQ below (va_Ql (fun r u => r = xJ (xinv x) ∧ u = w) (xE G B) (xA B)) [.long (xJ x)].toArray s 0 0 (xA B)) (F0 m 10 ls []) := by
    intro f
    induction f with
    | zero =>
      intro n r t ls H locs hn hn2 hw hS hl hv
      have hn0 : n = 0 := by simpa using hn
      subst hn0
      refine lv_iload hx hb dX5_inverse_10 (lv_at hl 0 rfl) ?_
      refine lv_if_le (tgt := 56) hx hb dX5_inverse_12 (by decide) (fun _ => ?_) (fun hc => absurd (by decide) hc)
      refine lv_lload_n hx hb dX5_inverse_56 rfl (lv_at hl 2 rfl) ?_
      exact xw_lret C hw hS (Nat.le_of_ble_eq_true rfl) (Nat.le_of_ble_eq_true rfl) (⟨by rw [← hv, xpw_0], rfl⟩) dX5_inverse_57
    | succ f ih =>
      intro n r t ls H locs hn hn2 hw hS hl hv
      by_cases hz : n = 0
      · subst hz
        refine lv_iload hx hb dX5_inverse_10 (lv_at hl 0 rfl) ?_
        refine lv_if_le (tgt := 56) hx hb dX5_inverse_12 (by decide) (fun _ => ?_) (fun hc => absurd (by decide) hc)
        refine lv_lload_n hx hb dX5_inverse_56 rfl (lv_at hl 2 rfl) ?_
        exact xw_lret C hw hS (Nat.le_of_ble_eq_true rfl) (Nat.le_of_ble_eq_true rfl) (⟨by rw [← hv, xpw_0], rfl⟩) dX5_inverse_57
      · rw [xpw_s _ _ hz] at hv
        refine lv_iload hx hb dX5_inverse_10 (lv_at hl 0 rfl) ?_
        refine lv_if_le (tgt := 56) hx hb dX5_inverse_12 (by decide) (fun hc => absurd hc (nI_nle (Nat.pos_of_ne_zero hz) (by omega))) (fun _ => ?_)
        refine lv_iload hx hb dX5_inverse_15 (lv_at hl 0 rfl) ?_
        refine lv_iconst (v := 2) hx hb dX5_inverse_17 (by decide) ?_
        refine xw_ti (y := (nI 2)) (by decide) ?_
        refine lv_irem hx hb dX5_inverse_18 (by decide) ?_
        refine xw_ti (y := (nI (n % 2))) (pk_rem (by omega) (by decide) (by decide)) ?_
        refine lv_iconst (v := 1) hx hb dX5_inverse_19 (by decide) ?_
        refine xw_ti (y := (nI 1)) (by decide) ?_
        refine lv_icmp_ne (tgt := 34) hx hb dX5_inverse_20 (by decide) (fun hc => ?_) (fun hc => ?_)
        · skip
          have hc : n % 2 ≠ 1 := fun q => hc (by rw [q])
          refine lv_lload_n hx hb dX5_inverse_34 rfl (lv_at hl 2 rfl) ?_
          refine lv_lstore_n (lv' := [(2, .long (xJ r)), (6, .int (nI n)), (4, .long (xJ t)), (0, .long (xJ x))]) hx hb dX5_inverse_35 rfl hl (by decide) rfl (fun ls hl => ?_)
          refine lv_lload hx hb dX5_inverse_36 (lv_at hl 2 rfl) ?_
          refine lv_lload hx hb dX5_inverse_38 (lv_at hl 2 rfl) ?_
          refine lv_lmul hx hb dX5_inverse_40 ?_
          refine xw_ldc2 C (v := 32003) (by decide +kernel) dX5_inverse_41 ?_
          refine lv_lrem hx hb dX5_inverse_44 (by decide) ?_
          refine xw_tl (y := (xJ (t * t))) (xl_mul t t) ?_
          refine lv_lstore (lv' := [(4, .long (xJ (t * t))), (2, .long (xJ r)), (6, .int (nI n)), (0, .long (xJ x))]) hx hb dX5_inverse_45 hl (by decide) rfl (fun ls hl => ?_)
          refine lv_iload hx hb dX5_inverse_47 (lv_at hl 2 rfl) ?_
          refine lv_iconst (v := 2) hx hb dX5_inverse_49 (by decide) ?_
          refine xw_ti (y := (nI 2)) (by decide) ?_
          refine lv_idiv hx hb dX5_inverse_50 (by decide) ?_
          refine xw_ti (y := (nI (n / 2))) (pk_div (by omega) (by decide) (by decide)) ?_
          refine lv_istore (lv' := [(6, .int (nI (n / 2))), (4, .long (xJ (t * t))), (2, .long (xJ r)), (0, .long (xJ x))]) hx hb dX5_inverse_51 hl (by decide) rfl (fun ls hl => ?_)
          refine lv_goto (tgt := 10) hx hb dX5_inverse_53 (by decide) ?_
          exact ih (n / 2) (r) (t * t) ls _ _ (by omega) (by omega) hw hS (lv_sub hl [0, 1, 2, 3] rfl) (by rw [if_neg hc] at hv; exact hv)
        · skip
          have hc : n % 2 = 1 := (nI_eq (by omega) (by decide)).mp hc
          refine lv_lload_n hx hb dX5_inverse_23 rfl (lv_at hl 2 rfl) ?_
          refine lv_lload hx hb dX5_inverse_24 (lv_at hl 1 rfl) ?_
          refine lv_lmul hx hb dX5_inverse_26 ?_
          refine xw_ldc2 C (v := 32003) (by decide +kernel) dX5_inverse_27 ?_
          refine lv_lrem hx hb dX5_inverse_30 (by decide) ?_
          refine xw_tl (y := (xJ (r * t))) (xl_mul r t) ?_
          refine lv_goto (tgt := 35) hx hb dX5_inverse_31 (by decide) ?_
          refine lv_lstore_n (lv' := [(2, .long (xJ (r * t))), (6, .int (nI n)), (4, .long (xJ t)), (0, .long (xJ x))]) hx hb dX5_inverse_35 rfl hl (by decide) rfl (fun ls hl => ?_)
          refine lv_lload hx hb dX5_inverse_36 (lv_at hl 2 rfl) ?_
          refine lv_lload hx hb dX5_inverse_38 (lv_at hl 2 rfl) ?_
          refine lv_lmul hx hb dX5_inverse_40 ?_
          refine xw_ldc2 C (v := 32003) (by decide +kernel) dX5_inverse_41 ?_
          refine lv_lrem hx hb dX5_inverse_44 (by decide) ?_
          refine xw_tl (y := (xJ (t * t))) (xl_mul t t) ?_
          refine lv_lstore (lv' := [(4, .long (xJ (t * t))), (2, .long (xJ (r * t))), (6, .int (nI n)), (0, .long (xJ x))]) hx hb dX5_inverse_45 hl (by decide) rfl (fun ls hl => ?_)
          refine lv_iload hx hb dX5_inverse_47 (lv_at hl 2 rfl) ?_
          refine lv_iconst (v := 2) hx hb dX5_inverse_49 (by decide) ?_
          refine xw_ti (y := (nI 2)) (by decide) ?_
          refine lv_idiv hx hb dX5_inverse_50 (by decide) ?_
          refine xw_ti (y := (nI (n / 2))) (pk_div (by omega) (by decide) (by decide)) ?_
          refine lv_istore (lv' := [(6, .int (nI (n / 2))), (4, .long (xJ (t * t))), (2, .long (xJ (r * t))), (0, .long (xJ x))]) hx hb dX5_inverse_51 hl (by decide) rfl (fun ls hl => ?_)
          refine lv_goto (tgt := 10) hx hb dX5_inverse_53 (by decide) ?_
          exact ih (n / 2) (r * t) (t * t) ls _ _ (by omega) (by omega) hw hS (lv_sub hl [0, 1, 2, 3] rfl) (by rw [if_pos hc] at hv; exact hv)
  exact loop 15 32001 1 x ls _ _ (by decide) (by decide) hw hS hl rfl

abbrev rmX5_in : Room := { frames := 0, cells := 0, slots := 0, locals := 0 }
set_option maxHeartbeats 4000000 in
set_option maxRecDepth 100000 in
theorem kX5_in (l : Launch) (G : xG) (B : Nat) (w : xM) (a b c : Int64) : Met l yX5_in wsX5_in rmX5_in (va_Pc [.long a, .long b, .long c] (xB G B w)) (va_Qi (fun z u => ((z = 1 ∧ b ≤ a ∧ a ≤ c) ∨ (z = 0 ∧ ¬ (b ≤ a ∧ a ≤ c))) ∧ u = w) (xE G B) (xA B)) 0 0 (xA B) := by
  refine xw_start (own := RX5) (mn := "in") (cc := cX5_in) (nL := 6) (rt := (some .boolean)) (by decide) rfl rfl rfl (Nat.le_of_ble_eq_true rfl) ?_
  intro p ev s m below meth cd ls C hl hw hS
  obtain ⟨hx, hb, -, -, -, hts, -, -, -, -⟩ := id C
  have hl : lv_has ls 6 [(0, .long a), (2, .long b), (4, .long c)] := hl
  refine lv_lload_n hx hb dX5_in_0 rfl (lv_at hl 0 rfl) ?_
  refine lv_lload_n hx hb dX5_in_1 rfl (lv_at hl 1 rfl) ?_
  refine W.lcmp hx hb dX5_in_2 ?_
  refine lv_if_lt (tgt := 17) hx hb dX5_in_3 (by decide) (fun hc => ?_) (fun hc => ?_)
  · skip
    refine lv_iconst (v := 0) hx hb dX5_in_17 (by decide) ?_
    exact xw_zret C hw hS (Nat.le_of_ble_eq_true rfl) (Nat.le_of_ble_eq_true rfl) (Or.inl rfl) (⟨Or.inr ⟨rfl, fun q => absurd ((lg_cmp_lt _ _).mp hc) (Int64.not_lt.mpr q.1)⟩, rfl⟩) dX5_in_18
  · skip
    refine lv_lload_n hx hb dX5_in_6 rfl (lv_at hl 0 rfl) ?_
    refine lv_lload hx hb dX5_in_7 (lv_at hl 2 rfl) ?_
    refine W.lcmp hx hb dX5_in_9 ?_
    refine lv_if_gt (tgt := 17) hx hb dX5_in_10 (by decide) (fun hc2 => ?_) (fun hc2 => ?_)
    · skip
      refine lv_iconst (v := 0) hx hb dX5_in_17 (by decide) ?_
      exact xw_zret C hw hS (Nat.le_of_ble_eq_true rfl) (Nat.le_of_ble_eq_true rfl) (Or.inl rfl) (⟨Or.inr ⟨rfl, fun q => absurd ((lg_cmp_gt _ _).mp hc2) (Int64.not_lt.mpr q.2)⟩, rfl⟩) dX5_in_18
    · skip
      refine lv_iconst (v := 1) hx hb dX5_in_13 (by decide) ?_
      refine lv_goto (tgt := 18) hx hb dX5_in_14 (by decide) ?_
      exact xw_zret C hw hS (Nat.le_of_ble_eq_true rfl) (Nat.le_of_ble_eq_true rfl) (Or.inr rfl) (⟨Or.inl ⟨rfl, Int64.not_lt.mp fun q => hc ((lg_cmp_lt _ _).mpr q), Int64.not_lt.mp fun q => hc2 ((lg_cmp_gt _ _).mpr q)⟩, rfl⟩) dX5_in_18

abbrev rmX5_empty : Room := { frames := 0, cells := 0, slots := 0, locals := 0 }
set_option maxHeartbeats 4000000 in
set_option maxRecDepth 100000 in
theorem kX5_empty (l : Launch) (G : xG) (B : Nat) (w : xM) (q : Nat) (f : xP) (hq : w q = some (xJr G 64 f)) (hf : xsup f 64) : Met l yX5_empty wsX5_empty rmX5_empty (va_Pc [.ref q] (xB G B w)) (va_Qv (fun u => u = xu w q (xJr G 64 (fun _ => 0))) (xE G B) (xA B)) 0 0 (xA B) := by
  refine xw_start (own := RX5) (mn := "empty") (cc := cX5_empty) (nL := 2) (rt := none) (by decide) rfl rfl rfl (Nat.le_of_ble_eq_true rfl) ?_
  intro p ev s m below meth cd ls C hl hw hS
  obtain ⟨hx, hb, -, -, -, hts, -, -, -, -⟩ := id C
  have hl : lv_has ls 2 [(0, .ref q)] := hl
  refine lv_iconst (v := 0) hx hb dX5_empty_0 (by decide) ?_
  refine xw_ti (y := (nI 0)) (nI_0.symm) ?_
  refine lv_istore_n (lv' := [(1, .int (nI 0)), (0, .ref q)]) hx hb dX5_empty_1 rfl hl (by decide) rfl (fun ls hl => ?_)
  have loop : ∀ (d : Nat) (j : Nat) (ls : Array Slot) (H : Heap) (locs : List Loc), j + d = 64 → xW G B (xu w q (xJr G 64 (xmix (fun _ => 0) f j))) H → va_S (xA B) s.heap H locs → lv_has ls 2 [(1, .int (nI j)), (0, .ref q)] → W p l ev rmX5_empty s m [.ref q].toArray below meth cd H locs 0 0 (MQ below (va_Qv (fun u => u = xu w q (xJr G 64 (fun _ => 0))) (xE G B) (xA B)) [.ref q].toArray s 0 0 (xA B)) (F0 m 2 ls []) := by
    intro d
    induction d with
    | zero =>
      intro j ls H locs hj hw hS hl
      refine lv_iload_n hx hb dX5_empty_2 rfl (lv_at hl 0 rfl) ?_
      refine lv_bipush (v := 64) hx hb dX5_empty_3 (by decide) ?_
      refine xw_ti (y := (nI 64)) (by decide) ?_
      refine lv_icmp_ge (tgt := 18) hx hb dX5_empty_5 (by decide) (fun _ => ?_) (fun hc => absurd ((nI_leI (by omega) (by omega)).mpr (by omega)) hc)
      exact xw_vret C hw hS (Nat.le_of_ble_eq_true rfl) (Nat.le_of_ble_eq_true rfl) (by rw [show j = 64 by omega, xmix_e (xsup_z _) hf]) dX5_empty_18
    | succ d ih =>
      intro j ls H locs hj hw hS hl
      refine lv_iload_n hx hb dX5_empty_2 rfl (lv_at hl 0 rfl) ?_
      refine lv_bipush (v := 64) hx hb dX5_empty_3 (by decide) ?_
      refine xw_ti (y := (nI 64)) (by decide) ?_
      refine lv_icmp_ge (tgt := 18) hx hb dX5_empty_5 (by decide) (fun hc => absurd hc (fun q => absurd ((nI_leI (by omega) (by omega)).mp q) (by omega))) (fun _ => ?_)
      refine lv_aload_n hx hb dX5_empty_8 rfl (lv_at hl 1 rfl) ?_
      refine lv_iload_n hx hb dX5_empty_9 rfl (lv_at hl 0 rfl) ?_
      refine lv_lconst (v := 0) hx hb dX5_empty_10 (by decide) ?_
      refine xw_tl (y := (xJ 0)) (xJ_0.symm) ?_
      refine xw_lastN C hw hS (xu_s _ _ _) (show j < 64 by omega) (by decide) dX5_empty_11 (fun H locs hw hS => ?_)
      have hw : xW G B (xu w q (xJr G 64 (xmix (fun _ => 0) f (j + 1)))) H := by rw [xu_u, xrowJ_up, xmix_s (fun _ => 0)] at hw; exact hw
      refine lv_iinc (v := (nI (j + 1))) (lv' := [(1, .int (nI (j + 1))), (0, .ref q)]) hx hb dX5_empty_12 hl (k := 0) rfl (x_inc j) (by decide) rfl (fun ls hl => ?_)
      refine lv_goto (tgt := 2) hx hb dX5_empty_15 (by decide) ?_
      exact ih (j + 1) ls _ _ (by omega) hw hS (lv_sub hl [0, 1] rfl)
  exact loop 64 0 ls _ _ rfl (by rw [xmix_0, xu_id w hq]; exact hw) hS hl

abbrev rmX5_copy : Room := { frames := 0, cells := 0, slots := 0, locals := 0 }
set_option maxHeartbeats 4000000 in
set_option maxRecDepth 100000 in
theorem kX5_copy (l : Launch) (G : xG) (B : Nat) (w : xM) (q q2 : Nat) (f g : xP) (hq : w q = some (xJr G 64 f)) (hq2 : w q2 = some (xJr G 64 g)) (hne : q2 ≠ q) (hf : xsup f 64) (hg : xsup g 64) : Met l yX5_copy wsX5_copy rmX5_copy (va_Pc [.ref q, .ref q2] (xB G B w)) (va_Qv (fun u => u = xu w q (xJr G 64 g)) (xE G B) (xA B)) 0 0 (xA B) := by
  refine xw_start (own := RX5) (mn := "copy") (cc := cX5_copy) (nL := 3) (rt := none) (by decide) rfl rfl rfl (Nat.le_of_ble_eq_true rfl) ?_
  intro p ev s m below meth cd ls C hl hw hS
  obtain ⟨hx, hb, -, -, -, hts, -, -, -, -⟩ := id C
  have hl : lv_has ls 3 [(0, .ref q), (1, .ref q2)] := hl
  refine lv_iconst (v := 0) hx hb dX5_copy_0 (by decide) ?_
  refine xw_ti (y := (nI 0)) (nI_0.symm) ?_
  refine lv_istore_n (lv' := [(2, .int (nI 0)), (0, .ref q), (1, .ref q2)]) hx hb dX5_copy_1 rfl hl (by decide) rfl (fun ls hl => ?_)
  have loop : ∀ (d : Nat) (j : Nat) (ls : Array Slot) (H : Heap) (locs : List Loc), j + d = 64 → xW G B (xu w q (xJr G 64 (xmix g f j))) H → va_S (xA B) s.heap H locs → lv_has ls 3 [(2, .int (nI j)), (0, .ref q), (1, .ref q2)] → W p l ev rmX5_copy s m [.ref q, .ref q2].toArray below meth cd H locs 0 0 (MQ below (va_Qv (fun u => u = xu w q (xJr G 64 g)) (xE G B) (xA B)) [.ref q, .ref q2].toArray s 0 0 (xA B)) (F0 m 2 ls []) := by
    intro d
    induction d with
    | zero =>
      intro j ls H locs hj hw hS hl
      refine lv_iload_n hx hb dX5_copy_2 rfl (lv_at hl 0 rfl) ?_
      refine lv_bipush (v := 64) hx hb dX5_copy_3 (by decide) ?_
      refine xw_ti (y := (nI 64)) (by decide) ?_
      refine lv_icmp_ge (tgt := 20) hx hb dX5_copy_5 (by decide) (fun _ => ?_) (fun hc => absurd ((nI_leI (by omega) (by omega)).mpr (by omega)) hc)
      exact xw_vret C hw hS (Nat.le_of_ble_eq_true rfl) (Nat.le_of_ble_eq_true rfl) (by rw [show j = 64 by omega, xmix_e hg hf]) dX5_copy_20
    | succ d ih =>
      intro j ls H locs hj hw hS hl
      refine lv_iload_n hx hb dX5_copy_2 rfl (lv_at hl 0 rfl) ?_
      refine lv_bipush (v := 64) hx hb dX5_copy_3 (by decide) ?_
      refine xw_ti (y := (nI 64)) (by decide) ?_
      refine lv_icmp_ge (tgt := 20) hx hb dX5_copy_5 (by decide) (fun hc => absurd hc (fun q => absurd ((nI_leI (by omega) (by omega)).mp q) (by omega))) (fun _ => ?_)
      refine lv_aload_n hx hb dX5_copy_8 rfl (lv_at hl 1 rfl) ?_
      refine lv_iload_n hx hb dX5_copy_9 rfl (lv_at hl 0 rfl) ?_
      refine lv_aload_n hx hb dX5_copy_10 rfl (lv_at hl 2 rfl) ?_
      refine lv_iload_n hx hb dX5_copy_11 rfl (lv_at hl 0 rfl) ?_
      refine xw_laldN C hw ((xu_n _ _ hne).trans hq2) (show j < 64 by omega) (by decide) dX5_copy_12 ?_
      refine xw_lastN C hw hS (xu_s _ _ _) (show j < 64 by omega) (by decide) dX5_copy_13 (fun H locs hw hS => ?_)
      have hw : xW G B (xu w q (xJr G 64 (xmix g f (j + 1)))) H := by rw [xu_u, show xrowJ g j = xJ (g j) from rfl, xrowJ_up, xmix_s] at hw; exact hw
      refine lv_iinc (v := (nI (j + 1))) (lv' := [(2, .int (nI (j + 1))), (0, .ref q), (1, .ref q2)]) hx hb dX5_copy_14 hl (k := 0) rfl (x_inc j) (by decide) rfl (fun ls hl => ?_)
      refine lv_goto (tgt := 2) hx hb dX5_copy_17 (by decide) ?_
      exact ih (j + 1) ls _ _ (by omega) hw hS (lv_sub hl [0, 1, 2] rfl)
  exact loop 64 0 ls _ _ rfl (by rw [xmix_0, xu_id w hq]; exact hw) hS hl

abbrev rmX5_high : Room := { frames := 0, cells := 0, slots := 0, locals := 0 }
set_option maxHeartbeats 4000000 in
set_option maxRecDepth 100000 in
theorem kX5_high (l : Launch) (G : xG) (B : Nat) (w : xM) (q : Nat) (f : xP) (hq : w q = some (xJr G 64 f)) : Met l yX5_high wsX5_high rmX5_high (va_Pc [.ref q] (xB G B w)) (va_Qi (fun r u => r = nI (xlen f 64) - 1 ∧ u = w) (xE G B) (xA B)) 0 0 (xA B) := by
  refine xw_start (own := RX5) (mn := "high") (cc := cX5_high) (nL := 2) (rt := (some .int)) (by decide) rfl rfl rfl (Nat.le_of_ble_eq_true rfl) ?_
  intro p ev s m below meth cd ls C hl hw hS
  obtain ⟨hx, hb, -, -, -, hts, -, -, -, -⟩ := id C
  have hl : lv_has ls 2 [(0, .ref q)] := hl
  refine lv_bipush (v := 63) hx hb dX5_high_0 (by decide) ?_
  refine xw_ti (y := (nI 64 - 1)) (by decide) ?_
  refine lv_istore_n (lv' := [(1, .int (nI 64 - 1)), (0, .ref q)]) hx hb dX5_high_2 rfl hl (by decide) rfl (fun ls hl => ?_)
  have loop : ∀ (d : Nat)  (ls : Array Slot) (H : Heap) (locs : List Loc), d ≤ 64 → xlen f d = xlen f 64 → xW G B (w) H → va_S (xA B) s.heap H locs → lv_has ls 2 [(1, .int (nI d - 1)), (0, .ref q)] → W p l ev rmX5_high s m [.ref q].toArray below meth cd H locs 0 0 (MQ below (va_Qi (fun r u => r = nI (xlen f 64) - 1 ∧ u = w) (xE G B) (xA B)) [.ref q].toArray s 0 0 (xA B)) (F0 m 3 ls []) := by
    intro d
    induction d with
    | zero =>
      intro ls H locs hd he hw hS hl
      refine lv_iload_n hx hb dX5_high_3 rfl (lv_at hl 0 rfl) ?_
      refine lv_if_lt (tgt := 21) hx hb dX5_high_4 (by decide) (fun _ => ?_) (fun hc => absurd (x_neg) hc)
      refine lv_iload_n hx hb dX5_high_21 rfl (lv_at hl 0 rfl) ?_
      exact xw_iret C hw hS (Nat.le_of_ble_eq_true rfl) (Nat.le_of_ble_eq_true rfl) (⟨by rw [← he]; rfl, rfl⟩) dX5_high_22
    | succ d ih =>
      intro ls H locs hd he hw hS hl
      rw [x_m1] at hl
      refine lv_iload_n hx hb dX5_high_3 rfl (lv_at hl 0 rfl) ?_
      refine lv_if_lt (tgt := 21) hx hb dX5_high_4 (by decide) (fun hc => absurd hc (nI_pos (by omega))) (fun _ => ?_)
      refine lv_aload_n hx hb dX5_high_7 rfl (lv_at hl 1 rfl) ?_
      refine lv_iload_n hx hb dX5_high_8 rfl (lv_at hl 0 rfl) ?_
      refine xw_laldN C hw hq (show d < 64 by omega) (by decide) dX5_high_9 ?_
      refine lv_lconst (v := 0) hx hb dX5_high_10 (by decide) ?_
      refine W.lcmp hx hb dX5_high_11 ?_
      refine lv_if_ne (tgt := 21) hx hb dX5_high_12 (by decide) (fun hc => ?_) (fun hc => ?_)
      · skip
        refine lv_iload_n hx hb dX5_high_21 rfl (lv_at hl 0 rfl) ?_
        exact xw_iret C hw hS (Nat.le_of_ble_eq_true rfl) (Nat.le_of_ble_eq_true rfl) (⟨by rw [← he, xlen_t (fun z => hc ((lg_cmp_eq _ _).mpr (xJ_z.mpr z))), x_m1], rfl⟩) dX5_high_22
      · skip
        refine lv_iinc (v := (nI d - 1)) (lv' := [(1, .int (nI d - 1)), (0, .ref q)]) hx hb dX5_high_15 hl (k := 0) rfl (x_dec _) (by decide) rfl (fun ls hl => ?_)
        refine lv_goto (tgt := 3) hx hb dX5_high_18 (by decide) ?_
        exact ih ls _ _ (by omega) (by rw [← he, xlen_f (xJ_z.mp ((lg_cmp_eq _ _).mp hc))]) hw hS (lv_sub hl [0, 1] rfl)
  exact loop 64 ls _ _ (by decide) rfl hw hS hl

abbrev rmX5_load : Room := { frames := 0, cells := 0, slots := 0, locals := 0 }
set_option maxHeartbeats 4000000 in
set_option maxRecDepth 100000 in
theorem kX5_load (l : Launch) (G : xG) (B : Nat) (w : xM) (q q2 : Nat) (f g : xP) (cap a0 nn : Nat) (hq : w q = some (xJr G 64 f)) (hq2 : w q2 = some (xIr G cap g)) (hf : xsup f 64) (hn : nn ≤ 64) (hc : a0 + nn ≤ cap) (hcap : cap < 2000) : Met l yX5_load wsX5_load rmX5_load (va_Pc [.ref q, .ref q2, .int (nI a0), .int (nI nn)] (xB G B w)) (va_Qv (fun u => u = xu w q (xJr G 64 (xld g a0 nn))) (xE G B) (xA B)) 0 0 (xA B) := by
  refine xw_start (own := RX5) (mn := "load") (cc := cX5_load) (nL := 5) (rt := none) (by decide) rfl rfl rfl (Nat.le_of_ble_eq_true rfl) ?_
  intro p ev s m below meth cd ls C hl hw hS
  obtain ⟨hx, hb, -, -, -, hts, -, -, -, -⟩ := id C
  have hl : lv_has ls 5 [(0, .ref q), (1, .ref q2), (2, .int (nI a0)), (3, .int (nI nn))] := hl
  refine lv_iconst (v := 0) hx hb dX5_load_0 (by decide) ?_
  refine xw_ti (y := (nI 0)) (nI_0.symm) ?_
  refine lv_istore (lv' := [(4, .int (nI 0)), (0, .ref q), (1, .ref q2), (2, .int (nI a0)), (3, .int (nI nn))]) hx hb dX5_load_1 hl (by decide) rfl (fun ls hl => ?_)
  have loop : ∀ (d : Nat) (j : Nat) (ls : Array Slot) (H : Heap) (locs : List Loc), j + d = 64 → xW G B (xu w q (xJr G 64 (xldk g a0 nn j f))) H → va_S (xA B) s.heap H locs → lv_has ls 5 [(4, .int (nI j)), (0, .ref q), (1, .ref q2), (2, .int (nI a0)), (3, .int (nI nn))] → W p l ev rmX5_load s m [.ref q, .ref q2, .int (nI a0), .int (nI nn)].toArray below meth cd H locs 0 0 (MQ below (va_Qv (fun u => u = xu w q (xJr G 64 (xld g a0 nn))) (xE G B) (xA B)) [.ref q, .ref q2, .int (nI a0), .int (nI nn)].toArray s 0 0 (xA B)) (F0 m 3 ls []) := by
    intro d
    induction d with
    | zero =>
      intro j ls H locs hj hw hS hl
      refine lv_iload hx hb dX5_load_3 (lv_at hl 0 rfl) ?_
      refine lv_bipush (v := 64) hx hb dX5_load_5 (by decide) ?_
      refine xw_ti (y := (nI 64)) (by decide) ?_
      refine lv_icmp_ge (tgt := 37) hx hb dX5_load_7 (by decide) (fun _ => ?_) (fun hc => absurd ((nI_leI (by omega) (by omega)).mpr (by omega)) hc)
      exact xw_vret C hw hS (Nat.le_of_ble_eq_true rfl) (Nat.le_of_ble_eq_true rfl) (by rw [show j = 64 by omega, xldk_64 hn hf]) dX5_load_37
    | succ d ih =>
      intro j ls H locs hj hw hS hl
      refine lv_iload hx hb dX5_load_3 (lv_at hl 0 rfl) ?_
      refine lv_bipush (v := 64) hx hb dX5_load_5 (by decide) ?_
      refine xw_ti (y := (nI 64)) (by decide) ?_
      refine lv_icmp_ge (tgt := 37) hx hb dX5_load_7 (by decide) (fun hc => absurd hc (fun q => absurd ((nI_leI (by omega) (by omega)).mp q) (by omega))) (fun _ => ?_)
      refine lv_aload_n hx hb dX5_load_10 rfl (lv_at hl 1 rfl) ?_
      refine lv_iload hx hb dX5_load_11 (lv_at hl 0 rfl) ?_
      refine lv_iload hx hb dX5_load_13 (lv_at hl 0 rfl) ?_
      refine lv_iload_n hx hb dX5_load_15 rfl (lv_at hl 4 rfl) ?_
      refine xw_cge (tgt := 29) hx hb dX5_load_16 (by decide) (by omega) (by omega) (fun hc2 => ?_) (fun hc2 => ?_)
      · skip
        refine lv_lconst (v := 0) hx hb dX5_load_29 (by decide) ?_
        refine xw_tl (y := (xJ (xld g a0 nn j))) (by unfold xld; rw [if_neg (by omega), xJ_0]) ?_
        refine xw_lastN C hw hS (xu_s _ _ _) (show j < 64 by omega) (by decide) dX5_load_30 (fun H locs hw hS => ?_)
        have hw : xW G B (xu w q (xJr G 64 (xldk g a0 nn (j + 1) f))) H := by rw [xu_u, xrowJ_up, xldk_s] at hw; exact hw
        refine lv_iinc (v := (nI (j + 1))) (lv' := [(4, .int (nI (j + 1))), (0, .ref q), (1, .ref q2), (2, .int (nI a0)), (3, .int (nI nn))]) hx hb dX5_load_31 hl (k := 0) rfl (x_inc j) (by decide) rfl (fun ls hl => ?_)
        refine lv_goto (tgt := 3) hx hb dX5_load_34 (by decide) ?_
        exact ih (j + 1) ls _ _ (by omega) hw hS (lv_sub hl [0, 1, 2, 3, 4] rfl)
      · skip
        refine lv_aload_n hx hb dX5_load_19 rfl (lv_at hl 2 rfl) ?_
        refine lv_iload_n hx hb dX5_load_20 rfl (lv_at hl 3 rfl) ?_
        refine lv_iload hx hb dX5_load_21 (lv_at hl 0 rfl) ?_
        refine lv_iadd hx hb dX5_load_23 ?_
        refine xw_ti (y := (nI (a0 + j))) (nI_add _ _) ?_
        refine xw_ialdN C hw ((xu_n _ _ (x_ne hq2 hq (fun z => by simp [xIr, xJr] at z))).trans hq2) (show a0 + j < cap by omega) (by omega) dX5_load_24 ?_
        refine lv_i2l (v := ((xI (g (a0 + j)))).toInt64) hx hb dX5_load_25 rfl ?_
        refine lv_goto (tgt := 30) hx hb dX5_load_26 (by decide) ?_
        refine xw_tl (y := (xJ (xld g a0 nn j))) ((xI_l _).trans (by unfold xld; rw [if_pos hc2])) ?_
        refine xw_lastN C hw hS (xu_s _ _ _) (show j < 64 by omega) (by decide) dX5_load_30 (fun H locs hw hS => ?_)
        have hw : xW G B (xu w q (xJr G 64 (xldk g a0 nn (j + 1) f))) H := by rw [xu_u, xrowJ_up, xldk_s] at hw; exact hw
        refine lv_iinc (v := (nI (j + 1))) (lv' := [(4, .int (nI (j + 1))), (0, .ref q), (1, .ref q2), (2, .int (nI a0)), (3, .int (nI nn))]) hx hb dX5_load_31 hl (k := 0) rfl (x_inc j) (by decide) rfl (fun ls hl => ?_)
        refine lv_goto (tgt := 3) hx hb dX5_load_34 (by decide) ?_
        exact ih (j + 1) ls _ _ (by omega) hw hS (lv_sub hl [0, 1, 2, 3, 4] rfl)
  exact loop 64 0 ls _ _ rfl (by rw [xldk_0, xu_id w hq]; exact hw) hS hl

abbrev rmX5_move : Room := { frames := 0, cells := 0, slots := 0, locals := 0 }
set_option maxHeartbeats 4000000 in
set_option maxRecDepth 100000 in
theorem kX5_move (l : Launch) (G : xG) (B : Nat) (w : xM) (q : Nat) (f : xP) (hq : w q = some (xJr G 64 f)) (hf : xsup f 64) : Met l yX5_move wsX5_move rmX5_move (va_Pc [.ref q] (xB G B w)) (va_Qv (fun u => u = xu w q (xJr G 64 (xmM 63 f))) (xE G B) (xA B)) 0 0 (xA B) := by
  refine xw_start (own := RX5) (mn := "move") (cc := cX5_move) (nL := 3) (rt := none) (by decide) rfl rfl rfl (Nat.le_of_ble_eq_true rfl) ?_
  intro p ev s m below meth cd ls C hl hw hS
  obtain ⟨hx, hb, -, -, -, hts, -, -, -, -⟩ := id C
  have hl : lv_has ls 3 [(0, .ref q)] := hl
  refine lv_bipush (v := 62) hx hb dX5_move_0 (by decide) ?_
  refine xw_ti (y := (nI 63 - 1)) (by decide) ?_
  refine lv_istore_n (lv' := [(1, .int (nI 63 - 1)), (0, .ref q)]) hx hb dX5_move_2 rfl hl (by decide) rfl (fun ls hl => ?_)
  have loop : ∀ (d : Nat) (g : xP) (ls : Array Slot) (H : Heap) (locs : List Loc), d ≤ 63 → xmM d g = xmM 63 f → xW G B (xu w q (xJr G 64 g)) H → va_S (xA B) s.heap H locs → lv_has ls 3 [(1, .int (nI d - 1)), (0, .ref q)] → W p l ev rmX5_move s m [.ref q].toArray below meth cd H locs 0 0 (MQ below (va_Qv (fun u => u = xu w q (xJr G 64 (xmM 63 f))) (xE G B) (xA B)) [.ref q].toArray s 0 0 (xA B)) (F0 m 3 ls []) := by
    intro d
    induction d with
    | zero =>
      intro g ls H locs hd he hw hS hl
      refine lv_iload_n hx hb dX5_move_3 rfl (lv_at hl 0 rfl) ?_
      refine lv_if_lt (tgt := 43) hx hb dX5_move_4 (by decide) (fun _ => ?_) (fun hc => absurd (x_neg) hc)
      exact xw_vret C hw hS (Nat.le_of_ble_eq_true rfl) (Nat.le_of_ble_eq_true rfl) (by rw [← he]; rfl) dX5_move_43
    | succ d ih =>
      intro g ls H locs hd he hw hS hl
      rw [x_m1] at hl
      refine lv_iload_n hx hb dX5_move_3 rfl (lv_at hl 0 rfl) ?_
      refine lv_if_lt (tgt := 43) hx hb dX5_move_4 (by decide) (fun hc => absurd hc (nI_pos (by omega))) (fun _ => ?_)
      refine lv_iload_n hx hb dX5_move_7 rfl (lv_at hl 0 rfl) ?_
      refine lv_istore_n (lv' := [(2, .int (nI d)), (1, .int (nI d)), (0, .ref q)]) hx hb dX5_move_8 rfl hl (by decide) rfl (fun ls hl => ?_)
      have inner : ∀ (t k : Nat) (ls : Array Slot) (H : Heap) (locs : List Loc), k + t = 63 → d ≤ k → xW G B (xu w q (xJr G 64 (xmstk g d k))) H → va_S (xA B) s.heap H locs → lv_has ls 3 [(2, .int (nI k)), (1, .int (nI d)), (0, .ref q)] → W p l ev rmX5_move s m [.ref q].toArray below meth cd H locs 0 0 (MQ below (va_Qv (fun u => u = xu w q (xJr G 64 (xmM 63 f))) (xE G B) (xA B)) [.ref q].toArray s 0 0 (xA B)) (F0 m 9 ls []) := by
        intro t
        induction t with
        | zero =>
          intro k ls H locs hk hdk hw hS hl
          refine lv_iload_n hx hb dX5_move_9 rfl (lv_at hl 0 rfl) ?_
          refine lv_bipush (v := 63) hx hb dX5_move_10 (by decide) ?_
          refine xw_ti (y := (nI 63)) (by decide) ?_
          refine lv_icmp_ge (tgt := 37) hx hb dX5_move_12 (by decide) (fun _ => ?_) (fun hc => absurd ((nI_leI (by omega) (by omega)).mpr (by omega)) hc)
          refine lv_iinc (v := (nI d - 1)) (lv' := [(1, .int (nI d - 1)), (2, .int (nI k)), (0, .ref q)]) hx hb dX5_move_37 hl (k := 1) rfl (x_dec _) (by decide) rfl (fun ls hl => ?_)
          refine lv_goto (tgt := 3) hx hb dX5_move_40 (by decide) ?_
          exact ih _ ls _ _ (by omega) (by rw [← he, show k = 63 by omega]; rfl) hw hS (lv_sub hl [0, 2] rfl)
        | succ t ih2 =>
          intro k ls H locs hk hdk hw hS hl
          refine lv_iload_n hx hb dX5_move_9 rfl (lv_at hl 0 rfl) ?_
          refine lv_bipush (v := 63) hx hb dX5_move_10 (by decide) ?_
          refine xw_ti (y := (nI 63)) (by decide) ?_
          refine lv_icmp_ge (tgt := 37) hx hb dX5_move_12 (by decide) (fun hc => absurd hc (fun q => absurd ((nI_leI (by omega) (by omega)).mp q) (by omega))) (fun _ => ?_)
          refine lv_aload_n hx hb dX5_move_15 rfl (lv_at hl 2 rfl) ?_
          refine lv_iload_n hx hb dX5_move_16 rfl (lv_at hl 0 rfl) ?_
          refine lv_aload_n hx hb dX5_move_17 rfl (lv_at hl 2 rfl) ?_
          refine lv_iload_n hx hb dX5_move_18 rfl (lv_at hl 0 rfl) ?_
          refine xw_laldN C hw (xu_s _ _ _) (show k < 64 by omega) (by decide) dX5_move_19 ?_
          refine lv_aload_n hx hb dX5_move_20 rfl (lv_at hl 2 rfl) ?_
          refine lv_iload_n hx hb dX5_move_21 rfl (lv_at hl 0 rfl) ?_
          refine lv_iconst (v := 1) hx hb dX5_move_22 (by decide) ?_
          refine lv_iadd hx hb dX5_move_23 ?_
          refine xw_ti (y := (nI (k + 1))) (nI_1 k) ?_
          refine xw_laldN C hw (xu_s _ _ _) (show k + 1 < 64 by omega) (by decide) dX5_move_24 ?_
          refine lv_ladd hx hb dX5_move_25 ?_
          refine xw_ldc2 C (v := 32003) (by decide +kernel) dX5_move_26 ?_
          refine lv_lrem hx hb dX5_move_29 (by decide) ?_
          refine xw_tl (y := (xJ (xmstk g d k k + xmstk g d k (k + 1)))) (xl_add _ _) ?_
          refine xw_lastN C hw hS (xu_s _ _ _) (show k < 64 by omega) (by decide) dX5_move_30 (fun H locs hw hS => ?_)
          have hw : xW G B (xu w q (xJr G 64 (xmstk g d (k + 1)))) H := by rw [xu_u, xrowJ_up, xmstk_s hdk] at hw; exact hw
          refine lv_iinc (v := (nI (k + 1))) (lv' := [(2, .int (nI (k + 1))), (1, .int (nI d)), (0, .ref q)]) hx hb dX5_move_31 hl (k := 0) rfl (x_inc k) (by decide) rfl (fun ls hl => ?_)
          refine lv_goto (tgt := 9) hx hb dX5_move_34 (by decide) ?_
          exact ih2 (k + 1) ls _ _ (by omega) (by omega) hw hS (lv_sub hl [0, 1, 2] rfl)
      exact inner (63 - d) d ls _ _ (by omega) (Nat.le_refl _) (by rw [xmstk_0]; exact hw) hS hl
  exact loop 63 f ls _ _ (by decide) rfl (by rw [xu_id w hq]; exact hw) hS hl

abbrev rmX5_valueAt : Room := { frames := 0, cells := 0, slots := 0, locals := 0 }
set_option maxHeartbeats 4000000 in
set_option maxRecDepth 100000 in
theorem kX5_valueAt (l : Launch) (G : xG) (B : Nat) (w : xM) (q : Nat) (f : xP) (v : xF) (hq : w q = some (xJr G 64 f)) : Met l yX5_valueAt wsX5_valueAt rmX5_valueAt (va_Pc [.ref q, .long (xJ v)] (xB G B w)) (va_Ql (fun r u => r = xJ (xhor f v 64 0) ∧ u = w) (xE G B) (xA B)) 0 0 (xA B) := by
  refine xw_start (own := RX5) (mn := "valueAt") (cc := cX5_valueAt) (nL := 6) (rt := (some .long)) (by decide) rfl rfl rfl (Nat.le_of_ble_eq_true rfl) ?_
  intro p ev s m below meth cd ls C hl hw hS
  obtain ⟨hx, hb, -, -, -, hts, -, -, -, -⟩ := id C
  have hl : lv_has ls 6 [(0, .ref q), (1, .long (xJ v))] := hl
  refine lv_lconst (v := 0) hx hb dX5_valueAt_0 (by decide) ?_
  refine xw_tl (y := (xJ 0)) (xJ_0.symm) ?_
  refine lv_lstore_n (lv' := [(3, .long (xJ 0)), (0, .ref q), (1, .long (xJ v))]) hx hb dX5_valueAt_1 rfl hl (by decide) rfl (fun ls hl => ?_)
  refine lv_bipush (v := 63) hx hb dX5_valueAt_2 (by decide) ?_
  refine xw_ti (y := (nI 64 - 1)) (by decide) ?_
  refine lv_istore (lv' := [(5, .int (nI 64 - 1)), (3, .long (xJ 0)), (0, .ref q), (1, .long (xJ v))]) hx hb dX5_valueAt_4 hl (by decide) rfl (fun ls hl => ?_)
  have loop : ∀ (d : Nat) (a : xF) (ls : Array Slot) (H : Heap) (locs : List Loc), d ≤ 64 → xhor f v d a = xhor f v 64 0 → xW G B (w) H → va_S (xA B) s.heap H locs → lv_has ls 6 [(5, .int (nI d - 1)), (3, .long (xJ a)), (0, .ref q), (1, .long (xJ v))] → W p l ev rmX5_valueAt s m [.ref q, .long (xJ v)].toArray below meth cd H locs 0 0 (MQ below (va_Ql (fun r u => r = xJ (xhor f v 64 0) ∧ u = w) (xE G B) (xA B)) [.ref q, .long (xJ v)].toArray s 0 0 (xA B)) (F0 m 6 ls []) := by
    intro d
    induction d with
    | zero =>
      intro a ls H locs hd he hw hS hl
      refine lv_iload hx hb dX5_valueAt_6 (lv_at hl 0 rfl) ?_
      refine lv_if_lt (tgt := 30) hx hb dX5_valueAt_8 (by decide) (fun _ => ?_) (fun hc => absurd (x_neg) hc)
      refine lv_lload_n hx hb dX5_valueAt_30 rfl (lv_at hl 1 rfl) ?_
      exact xw_lret C hw hS (Nat.le_of_ble_eq_true rfl) (Nat.le_of_ble_eq_true rfl) (⟨by rw [← he]; rfl, rfl⟩) dX5_valueAt_31
    | succ d ih =>
      intro a ls H locs hd he hw hS hl
      rw [x_m1] at hl
      refine lv_iload hx hb dX5_valueAt_6 (lv_at hl 0 rfl) ?_
      refine lv_if_lt (tgt := 30) hx hb dX5_valueAt_8 (by decide) (fun hc => absurd hc (nI_pos (by omega))) (fun _ => ?_)
      refine lv_lload_n hx hb dX5_valueAt_11 rfl (lv_at hl 1 rfl) ?_
      refine lv_lload_n hx hb dX5_valueAt_12 rfl (lv_at hl 3 rfl) ?_
      refine lv_lmul hx hb dX5_valueAt_13 ?_
      refine lv_aload_n hx hb dX5_valueAt_14 rfl (lv_at hl 2 rfl) ?_
      refine lv_iload hx hb dX5_valueAt_15 (lv_at hl 0 rfl) ?_
      refine xw_laldN C hw hq (show d < 64 by omega) (by decide) dX5_valueAt_17 ?_
      refine lv_ladd hx hb dX5_valueAt_18 ?_
      refine xw_ldc2 C (v := 32003) (by decide +kernel) dX5_valueAt_19 ?_
      refine lv_lrem hx hb dX5_valueAt_22 (by decide) ?_
      refine xw_tl (y := (xJ (a * v + f d))) (xl_hor _ _ _) ?_
      refine lv_lstore_n (lv' := [(3, .long (xJ (a * v + f d))), (5, .int (nI d)), (0, .ref q), (1, .long (xJ v))]) hx hb dX5_valueAt_23 rfl hl (by decide) rfl (fun ls hl => ?_)
      refine lv_iinc (v := (nI d - 1)) (lv' := [(5, .int (nI d - 1)), (3, .long (xJ (a * v + f d))), (0, .ref q), (1, .long (xJ v))]) hx hb dX5_valueAt_24 hl (k := 1) rfl (x_dec _) (by decide) rfl (fun ls hl => ?_)
      refine lv_goto (tgt := 6) hx hb dX5_valueAt_27 (by decide) ?_
      exact ih (a * v + f d) ls _ _ (by omega) (by rw [← he]; rfl) hw hS (lv_sub hl [0, 1, 2, 3] rfl)
  exact loop 64 0 ls _ _ (by decide) rfl hw hS hl
