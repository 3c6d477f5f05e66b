/-! ===== the law's own methods around a call (laid by wip/whole/m_help.py) ===== -/
abbrev rmL_ratio : Room := { frames := 7, cells := 12, slots := 200, locals := 109 }
set_option maxHeartbeats 4000000 in
set_option maxRecDepth 100000 in
theorem kL_ratio (l : Launch) (G : xG) (B : Nat) (w : xM) (h O : Nat) (fo : Nat → Int64) (wr : xM) (post : Int32 → xM → Prop) (pE : String → xM → Prop) (fs : List Value) (hh : w h = some (.inr (3, fs))) (hO : wr O = some (xOc G fo)) (hs : ∀ v u, post v u → xSub wr u) (hsE : ∀ E u, pE E u → (E = eG) ∧ xSub wr u) (z : Int32) (x : Int32) (v : Int64) (hM : vx_Met l yX4_ratio wsX4_ratio rmX4_ratio (va_Pc [.ref h, .int z, .int x, .long v] (xBz G B w)) (va_Qi post (xE G B) (xA B)) (xXC G B pE) 12 200 (xA B)) : Met l yL_ratio wsL_ratio rmL_ratio (va_Pc [.ref h, .int z, .int x, .long v, .ref O] (xBz G B w)) (va_Qi (fun k u => xHp G O fo post xZl pE [(1, eG)] k u ∧ ∀ (a : Nat) (e : va_E), wr a = some e → a ≠ O → u a = some e) (xE G B) (xA B)) 12 200 (xA B) := by
  refine xl_start (own := RL) (mn := "ratio") (cc := cL_ratio) (nL := 7) (rt := (some .int)) (hh := [(0, 19, 22, 13)]) (by decide) rfl rfl rfl (Nat.le_of_ble_eq_true rfl) ?_
  intro p ev s m below meth cd ls C hl hw hS hz htab
  obtain ⟨hx, hb, -, -, -, hts, -, -, -, -⟩ := id C
  have hl : lv_has ls 7 [(0, .ref h), (1, .int z), (2, .int x), (3, .long v), (5, .ref O)] := hl
  refine lv_aload hx hb dL_ratio_0 (lv_at hl 4 rfl) ?_
  refine lv_iconst (v := 0) hx hb dL_ratio_2 (by decide) ?_
  refine xw_ti (y := (nI 0)) (nI_0.symm) ?_
  refine lv_aload_n hx hb dL_ratio_3 rfl (lv_at hl 0 rfl) ?_
  refine lv_iload_n hx hb dL_ratio_4 rfl (lv_at hl 1 rfl) ?_
  refine lv_iload_n hx hb dL_ratio_5 rfl (lv_at hl 2 rfl) ?_
  refine lv_lload_n hx hb dL_ratio_6 rfl (lv_at hl 3 rfl) ?_
  refine xl_ci (xx_V (n := 3) (rest := [.int (nI 0), .ref O]) C hw hz hM gL_ratio_X4_ratio rfl rfl rfl (by decide +kernel) ⟨Nat.le_of_ble_eq_true rfl, Nat.le_of_ble_eq_true rfl⟩ hh rfl rfl hl.1 rfl (Nat.le_of_ble_eq_true rfl) dL_ratio_7 ⟨Nat.le_of_ble_eq_true rfl, Nat.le_of_ble_eq_true rfl⟩ hS) hS (fun E u H locs q9 ce hp hw hS g1 g2 g3 => ?_) (fun r9 u H locs hp hw hS => ?_)
  · skip
    obtain ⟨hE, hsub⟩ := hsE E u hp
    subst hE
    refine xl_catch C hz (E := eG) (by decide +kernel) [] (0, 19, 22, 13) [] htab (fun z hz9 => absurd hz9 List.not_mem_nil) (by decide) (by decide) (by decide +kernel) g1 g2 g3 ?_
    refine lv_astore (lv' := [(6, .ref q9), (0, .ref h), (1, .int z), (2, .int x), (3, .long v), (5, .ref O)]) hx hb dL_ratio_22 hl (by decide) rfl (fun ls hl => ?_)
    refine lv_iconst (v := 1) hx hb dL_ratio_24 (by decide) ?_
    exact xw_iret C hw hS (Nat.le_of_ble_eq_true rfl) (Nat.le_of_ble_eq_true rfl) (⟨Or.inr (Or.inl ⟨rfl, hp⟩), fun a x hx _ => hsub a x hx⟩) dL_ratio_25
  · skip
    have hsub := hs r9 u hp
    have hOu := hsub _ _ hO
    refine lv_if_eq (tgt := 17) hx hb dL_ratio_10 (by decide) (fun hc => ?_) (fun hc => ?_)
    · skip
      refine lv_lconst (v := 0) hx hb dL_ratio_17 (by decide) ?_
      refine xw_lastN C hw hS hOu (show 0 < 1 by decide) (by decide) dL_ratio_18 (fun H locs hw hS => ?_)
      refine lv_goto (tgt := 26) hx hb dL_ratio_19 (by decide) ?_
      refine lv_iconst (v := 0) hx hb dL_ratio_26 (by decide) ?_
      exact xw_iret C hw hS (Nat.le_of_ble_eq_true rfl) (Nat.le_of_ble_eq_true rfl) (⟨Or.inl ⟨rfl, r9, u, hp, by rw [show xZl r9 = 0 from if_pos hc]⟩, hsub.out⟩) dL_ratio_27
    · skip
      refine lv_lconst (v := 1) hx hb dL_ratio_13 (by decide) ?_
      refine lv_goto (tgt := 18) hx hb dL_ratio_14 (by decide) ?_
      refine xw_lastN C hw hS hOu (show 0 < 1 by decide) (by decide) dL_ratio_18 (fun H locs hw hS => ?_)
      refine lv_goto (tgt := 26) hx hb dL_ratio_19 (by decide) ?_
      refine lv_iconst (v := 0) hx hb dL_ratio_26 (by decide) ?_
      exact xw_iret C hw hS (Nat.le_of_ble_eq_true rfl) (Nat.le_of_ble_eq_true rfl) (⟨Or.inl ⟨rfl, r9, u, hp, by rw [show xZl r9 = 1 from if_neg hc]⟩, hsub.out⟩) dL_ratio_27

abbrev rmL_number : Room := { frames := 9, cells := 12, slots := 200, locals := 165 }
set_option maxHeartbeats 4000000 in
set_option maxRecDepth 100000 in
theorem kL_number (l : Launch) (G : xG) (B : Nat) (w : xM) (h O : Nat) (fo : Nat → Int64) (wr : xM) (post : Int32 → xM → Prop) (pE : String → xM → Prop) (fs : List Value) (hh : w h = some (.inr (3, fs))) (hO : wr O = some (xOc G fo)) (hs : ∀ v u, post v u → xSub wr u) (hsE : ∀ E u, pE E u → (E = eS) ∧ xSub wr u) (v : Int64) (hM : vx_Met l yX4_number wsX4_number rmX4_number (va_Pc [.ref h, .long v] (xBz G B w)) (va_Qi post (xE G B) (xA B)) (xXC G B pE) 12 200 (xA B)) : Met l yL_number wsL_number rmL_number (va_Pc [.ref h, .long v, .ref O] (xBz G B w)) (va_Qi (fun k u => xHp G O fo post Int32.toInt64 pE [(1, eS)] k u ∧ ∀ (a : Nat) (e : va_E), wr a = some e → a ≠ O → u a = some e) (xE G B) (xA B)) 12 200 (xA B) := by
  refine xl_start (own := RL) (mn := "number") (cc := cL_number) (nL := 5) (rt := (some .int)) (hh := [(0, 9, 12, 19)]) (by decide) rfl rfl rfl (Nat.le_of_ble_eq_true rfl) ?_
  intro p ev s m below meth cd ls C hl hw hS hz htab
  obtain ⟨hx, hb, -, -, -, hts, -, -, -, -⟩ := id C
  have hl : lv_has ls 5 [(0, .ref h), (1, .long v), (3, .ref O)] := hl
  refine lv_aload_n hx hb dL_number_0 rfl (lv_at hl 2 rfl) ?_
  refine lv_iconst (v := 0) hx hb dL_number_1 (by decide) ?_
  refine xw_ti (y := (nI 0)) (nI_0.symm) ?_
  refine lv_aload_n hx hb dL_number_2 rfl (lv_at hl 0 rfl) ?_
  refine lv_lload_n hx hb dL_number_3 rfl (lv_at hl 1 rfl) ?_
  refine xl_ci (xx_V (n := 1) (rest := [.int (nI 0), .ref O]) C hw hz hM gL_number_X4_number rfl rfl rfl (by decide +kernel) ⟨Nat.le_of_ble_eq_true rfl, Nat.le_of_ble_eq_true rfl⟩ hh rfl rfl hl.1 rfl (Nat.le_of_ble_eq_true rfl) dL_number_4 ⟨Nat.le_of_ble_eq_true rfl, Nat.le_of_ble_eq_true rfl⟩ hS) hS (fun E u H locs q9 ce hp hw hS g1 g2 g3 => ?_) (fun r9 u H locs hp hw hS => ?_)
  · skip
    obtain ⟨hE, hsub⟩ := hsE E u hp
    subst hE
    refine xl_catch C hz (E := eS) (by decide +kernel) [] (0, 9, 12, 19) [] htab (fun z hz9 => absurd hz9 List.not_mem_nil) (by decide) (by decide) (by decide +kernel) g1 g2 g3 ?_
    refine lv_astore (lv' := [(4, .ref q9), (0, .ref h), (1, .long v), (3, .ref O)]) hx hb dL_number_12 hl (by decide) rfl (fun ls hl => ?_)
    refine lv_iconst (v := 1) hx hb dL_number_14 (by decide) ?_
    exact xw_iret C hw hS (Nat.le_of_ble_eq_true rfl) (Nat.le_of_ble_eq_true rfl) (⟨Or.inr (Or.inl ⟨rfl, hp⟩), fun a x hx _ => hsub a x hx⟩) dL_number_15
  · skip
    have hsub := hs r9 u hp
    have hOu := hsub _ _ hO
    refine lv_i2l (v := (r9).toInt64) hx hb dL_number_7 rfl ?_
    refine xw_lastN C hw hS hOu (show 0 < 1 by decide) (by decide) dL_number_8 (fun H locs hw hS => ?_)
    refine lv_goto (tgt := 16) hx hb dL_number_9 (by decide) ?_
    refine lv_iconst (v := 0) hx hb dL_number_16 (by decide) ?_
    exact xw_iret C hw hS (Nat.le_of_ble_eq_true rfl) (Nat.le_of_ble_eq_true rfl) (⟨Or.inl ⟨rfl, r9, u, hp, rfl⟩, hsub.out⟩) dL_number_17

abbrev rmL_letter : Room := { frames := 9, cells := 12, slots := 200, locals := 163 }
set_option maxHeartbeats 4000000 in
set_option maxRecDepth 100000 in
theorem kL_letter (l : Launch) (G : xG) (B : Nat) (w : xM) (h O : Nat) (fo : Nat → Int64) (wr : xM) (post : Int32 → xM → Prop) (pE : String → xM → Prop) (fs : List Value) (hh : w h = some (.inr (3, fs))) (hO : wr O = some (xOc G fo)) (hs : ∀ v u, post v u → xSub wr u) (hsE : ∀ E u, pE E u → (E = eS) ∧ xSub wr u)  (hM : vx_Met l yX4_letter wsX4_letter rmX4_letter (va_Pc [.ref h] (xBz G B w)) (va_Qi post (xE G B) (xA B)) (xXC G B pE) 12 200 (xA B)) : Met l yL_letter wsL_letter rmL_letter (va_Pc [.ref h, .ref O] (xBz G B w)) (va_Qi (fun k u => xHp G O fo post Int32.toInt64 pE [(1, eS)] k u ∧ ∀ (a : Nat) (e : va_E), wr a = some e → a ≠ O → u a = some e) (xE G B) (xA B)) 12 200 (xA B) := by
  refine xl_start (own := RL) (mn := "letter") (cc := cL_letter) (nL := 3) (rt := (some .int)) (hh := [(0, 8, 11, 19)]) (by decide) rfl rfl rfl (Nat.le_of_ble_eq_true rfl) ?_
  intro p ev s m below meth cd ls C hl hw hS hz htab
  obtain ⟨hx, hb, -, -, -, hts, -, -, -, -⟩ := id C
  have hl : lv_has ls 3 [(0, .ref h), (1, .ref O)] := hl
  refine lv_aload_n hx hb dL_letter_0 rfl (lv_at hl 1 rfl) ?_
  refine lv_iconst (v := 0) hx hb dL_letter_1 (by decide) ?_
  refine xw_ti (y := (nI 0)) (nI_0.symm) ?_
  refine lv_aload_n hx hb dL_letter_2 rfl (lv_at hl 0 rfl) ?_
  refine xl_ci (xx_V (n := 0) (rest := [.int (nI 0), .ref O]) C hw hz hM gL_letter_X4_letter rfl rfl rfl (by decide +kernel) ⟨Nat.le_of_ble_eq_true rfl, Nat.le_of_ble_eq_true rfl⟩ hh rfl rfl hl.1 rfl (Nat.le_of_ble_eq_true rfl) dL_letter_3 ⟨Nat.le_of_ble_eq_true rfl, Nat.le_of_ble_eq_true rfl⟩ hS) hS (fun E u H locs q9 ce hp hw hS g1 g2 g3 => ?_) (fun r9 u H locs hp hw hS => ?_)
  · skip
    obtain ⟨hE, hsub⟩ := hsE E u hp
    subst hE
    refine xl_catch C hz (E := eS) (by decide +kernel) [] (0, 8, 11, 19) [] htab (fun z hz9 => absurd hz9 List.not_mem_nil) (by decide) (by decide) (by decide +kernel) g1 g2 g3 ?_
    refine lv_astore_n (lv' := [(2, .ref q9), (0, .ref h), (1, .ref O)]) hx hb dL_letter_11 rfl hl (by decide) rfl (fun ls hl => ?_)
    refine lv_iconst (v := 1) hx hb dL_letter_12 (by decide) ?_
    exact xw_iret C hw hS (Nat.le_of_ble_eq_true rfl) (Nat.le_of_ble_eq_true rfl) (⟨Or.inr (Or.inl ⟨rfl, hp⟩), fun a x hx _ => hsub a x hx⟩) dL_letter_13
  · skip
    have hsub := hs r9 u hp
    have hOu := hsub _ _ hO
    refine lv_i2l (v := (r9).toInt64) hx hb dL_letter_6 rfl ?_
    refine xw_lastN C hw hS hOu (show 0 < 1 by decide) (by decide) dL_letter_7 (fun H locs hw hS => ?_)
    refine lv_goto (tgt := 14) hx hb dL_letter_8 (by decide) ?_
    refine lv_iconst (v := 0) hx hb dL_letter_14 (by decide) ?_
    exact xw_iret C hw hS (Nat.le_of_ble_eq_true rfl) (Nat.le_of_ble_eq_true rfl) (⟨Or.inl ⟨rfl, r9, u, hp, rfl⟩, hsub.out⟩) dL_letter_15

abbrev rmL_add : Room := { frames := 9, cells := 12, slots := 200, locals := 167 }
set_option maxHeartbeats 4000000 in
set_option maxRecDepth 100000 in
theorem kL_add (l : Launch) (G : xG) (B : Nat) (w : xM) (h O : Nat) (fo : Nat → Int64) (wr : xM) (post : Int32 → xM → Prop) (pE : String → xM → Prop) (fs : List Value) (hh : w h = some (.inr (3, fs))) (hO : wr O = some (xOc G fo)) (hs : ∀ v u, post v u → xSub wr u) (hsE : ∀ E u, pE E u → (E = eI ∨ E = eS) ∧ xSub wr u) (x : Int32) (y : Int32) (hM : vx_Met l yX4_add wsX4_add rmX4_add (va_Pc [.ref h, .int x, .int y] (xBz G B w)) (va_Qi post (xE G B) (xA B)) (xXC G B pE) 12 200 (xA B)) : Met l yL_add wsL_add rmL_add (va_Pc [.ref h, .int x, .int y, .ref O] (xBz G B w)) (va_Qi (fun k u => xHp G O fo post Int32.toInt64 pE [(1, eI), (2, eS)] k u ∧ ∀ (a : Nat) (e : va_E), wr a = some e → a ≠ O → u a = some e) (xE G B) (xA B)) 12 200 (xA B) := by
  refine xl_start (own := RL) (mn := "add") (cc := cL_add) (nL := 5) (rt := (some .int)) (hh := [(0, 10, 13, 29), (0, 10, 17, 19)]) (by decide) rfl rfl rfl (Nat.le_of_ble_eq_true rfl) ?_
  intro p ev s m below meth cd ls C hl hw hS hz htab
  obtain ⟨hx, hb, -, -, -, hts, -, -, -, -⟩ := id C
  have hl : lv_has ls 5 [(0, .ref h), (1, .int x), (2, .int y), (3, .ref O)] := hl
  refine lv_aload_n hx hb dL_add_0 rfl (lv_at hl 3 rfl) ?_
  refine lv_iconst (v := 0) hx hb dL_add_1 (by decide) ?_
  refine xw_ti (y := (nI 0)) (nI_0.symm) ?_
  refine lv_aload_n hx hb dL_add_2 rfl (lv_at hl 0 rfl) ?_
  refine lv_iload_n hx hb dL_add_3 rfl (lv_at hl 1 rfl) ?_
  refine lv_iload_n hx hb dL_add_4 rfl (lv_at hl 2 rfl) ?_
  refine xl_ci (xx_V (n := 2) (rest := [.int (nI 0), .ref O]) C hw hz hM gL_add_X4_add rfl rfl rfl (by decide +kernel) ⟨Nat.le_of_ble_eq_true rfl, Nat.le_of_ble_eq_true rfl⟩ hh rfl rfl hl.1 rfl (Nat.le_of_ble_eq_true rfl) dL_add_5 ⟨Nat.le_of_ble_eq_true rfl, Nat.le_of_ble_eq_true rfl⟩ hS) hS (fun E u H locs q9 ce hp hw hS g1 g2 g3 => ?_) (fun r9 u H locs hp hw hS => ?_)
  · skip
    obtain ⟨hE, hsub⟩ := hsE E u hp
    rcases hE with rfl | rfl
    · skip
      refine xl_catch C hz (E := eI) (by decide +kernel) [] (0, 10, 13, 29) [(0, 10, 17, 19)] htab (fun z hz9 => absurd hz9 List.not_mem_nil) (by decide) (by decide) (by decide +kernel) g1 g2 g3 ?_
      refine lv_astore (lv' := [(4, .ref q9), (0, .ref h), (1, .int x), (2, .int y), (3, .ref O)]) hx hb dL_add_13 hl (by decide) rfl (fun ls hl => ?_)
      refine lv_iconst (v := 1) hx hb dL_add_15 (by decide) ?_
      exact xw_iret C hw hS (Nat.le_of_ble_eq_true rfl) (Nat.le_of_ble_eq_true rfl) (⟨Or.inr (Or.inl ⟨rfl, hp⟩), fun a x hx _ => hsub a x hx⟩) dL_add_16
    · skip
      have hpre : ∀ z ∈ ([(0, 10, 13, 29)] : List (Nat × Nat × Nat × Nat)), z.2.2.2 ≠ 0 ∧ ∃ F ∈ xEs, eS ≠ F ∧ Cond.classLink RL z.2.2.2 F ∈ wsL_add := by
        intro z hz9
        rcases List.mem_cons.mp hz9 with rfl | hz9
        · exact ⟨by decide, eI, by decide +kernel, by decide, by decide +kernel⟩
        exact absurd hz9 List.not_mem_nil
      refine xl_catch C hz (E := eS) (by decide +kernel) [(0, 10, 13, 29)] (0, 10, 17, 19) [] htab hpre (by decide) (by decide) (by decide +kernel) g1 g2 g3 ?_
      refine lv_astore (lv' := [(4, .ref q9), (0, .ref h), (1, .int x), (2, .int y), (3, .ref O)]) hx hb dL_add_17 hl (by decide) rfl (fun ls hl => ?_)
      refine lv_iconst (v := 2) hx hb dL_add_19 (by decide) ?_
      exact xw_iret C hw hS (Nat.le_of_ble_eq_true rfl) (Nat.le_of_ble_eq_true rfl) (⟨Or.inr (Or.inr (Or.inl ⟨rfl, hp⟩)), fun a x hx _ => hsub a x hx⟩) dL_add_20
  · skip
    have hsub := hs r9 u hp
    have hOu := hsub _ _ hO
    refine lv_i2l (v := (r9).toInt64) hx hb dL_add_8 rfl ?_
    refine xw_lastN C hw hS hOu (show 0 < 1 by decide) (by decide) dL_add_9 (fun H locs hw hS => ?_)
    refine lv_goto (tgt := 21) hx hb dL_add_10 (by decide) ?_
    refine lv_iconst (v := 0) hx hb dL_add_21 (by decide) ?_
    exact xw_iret C hw hS (Nat.le_of_ble_eq_true rfl) (Nat.le_of_ble_eq_true rfl) (⟨Or.inl ⟨rfl, r9, u, hp, rfl⟩, hsub.out⟩) dL_add_22

abbrev rmL_times : Room := { frames := 9, cells := 12, slots := 200, locals := 167 }
set_option maxHeartbeats 4000000 in
set_option maxRecDepth 100000 in
theorem kL_times (l : Launch) (G : xG) (B : Nat) (w : xM) (h O : Nat) (fo : Nat → Int64) (wr : xM) (post : Int32 → xM → Prop) (pE : String → xM → Prop) (fs : List Value) (hh : w h = some (.inr (3, fs))) (hO : wr O = some (xOc G fo)) (hs : ∀ v u, post v u → xSub wr u) (hsE : ∀ E u, pE E u → (E = eI ∨ E = eS) ∧ xSub wr u) (x : Int32) (y : Int32) (hM : vx_Met l yX4_times wsX4_times rmX4_times (va_Pc [.ref h, .int x, .int y] (xBz G B w)) (va_Qi post (xE G B) (xA B)) (xXC G B pE) 12 200 (xA B)) : Met l yL_times wsL_times rmL_times (va_Pc [.ref h, .int x, .int y, .ref O] (xBz G B w)) (va_Qi (fun k u => xHp G O fo post Int32.toInt64 pE [(1, eI), (2, eS)] k u ∧ ∀ (a : Nat) (e : va_E), wr a = some e → a ≠ O → u a = some e) (xE G B) (xA B)) 12 200 (xA B) := by
  refine xl_start (own := RL) (mn := "times") (cc := cL_times) (nL := 5) (rt := (some .int)) (hh := [(0, 10, 13, 29), (0, 10, 17, 19)]) (by decide) rfl rfl rfl (Nat.le_of_ble_eq_true rfl) ?_
  intro p ev s m below meth cd ls C hl hw hS hz htab
  obtain ⟨hx, hb, -, -, -, hts, -, -, -, -⟩ := id C
  have hl : lv_has ls 5 [(0, .ref h), (1, .int x), (2, .int y), (3, .ref O)] := hl
  refine lv_aload_n hx hb dL_times_0 rfl (lv_at hl 3 rfl) ?_
  refine lv_iconst (v := 0) hx hb dL_times_1 (by decide) ?_
  refine xw_ti (y := (nI 0)) (nI_0.symm) ?_
  refine lv_aload_n hx hb dL_times_2 rfl (lv_at hl 0 rfl) ?_
  refine lv_iload_n hx hb dL_times_3 rfl (lv_at hl 1 rfl) ?_
  refine lv_iload_n hx hb dL_times_4 rfl (lv_at hl 2 rfl) ?_
  refine xl_ci (xx_V (n := 2) (rest := [.int (nI 0), .ref O]) C hw hz hM gL_times_X4_times rfl rfl rfl (by decide +kernel) ⟨Nat.le_of_ble_eq_true rfl, Nat.le_of_ble_eq_true rfl⟩ hh rfl rfl hl.1 rfl (Nat.le_of_ble_eq_true rfl) dL_times_5 ⟨Nat.le_of_ble_eq_true rfl, Nat.le_of_ble_eq_true rfl⟩ hS) hS (fun E u H locs q9 ce hp hw hS g1 g2 g3 => ?_) (fun r9 u H locs hp hw hS => ?_)
  · skip
    obtain ⟨hE, hsub⟩ := hsE E u hp
    rcases hE with rfl | rfl
    · skip
      refine xl_catch C hz (E := eI) (by decide +kernel) [] (0, 10, 13, 29) [(0, 10, 17, 19)] htab (fun z hz9 => absurd hz9 List.not_mem_nil) (by decide) (by decide) (by decide +kernel) g1 g2 g3 ?_
      refine lv_astore (lv' := [(4, .ref q9), (0, .ref h), (1, .int x), (2, .int y), (3, .ref O)]) hx hb dL_times_13 hl (by decide) rfl (fun ls hl => ?_)
      refine lv_iconst (v := 1) hx hb dL_times_15 (by decide) ?_
      exact xw_iret C hw hS (Nat.le_of_ble_eq_true rfl) (Nat.le_of_ble_eq_true rfl) (⟨Or.inr (Or.inl ⟨rfl, hp⟩), fun a x hx _ => hsub a x hx⟩) dL_times_16
    · skip
      have hpre : ∀ z ∈ ([(0, 10, 13, 29)] : List (Nat × Nat × Nat × Nat)), z.2.2.2 ≠ 0 ∧ ∃ F ∈ xEs, eS ≠ F ∧ Cond.classLink RL z.2.2.2 F ∈ wsL_times := by
        intro z hz9
        rcases List.mem_cons.mp hz9 with rfl | hz9
        · exact ⟨by decide, eI, by decide +kernel, by decide, by decide +kernel⟩
        exact absurd hz9 List.not_mem_nil
      refine xl_catch C hz (E := eS) (by decide +kernel) [(0, 10, 13, 29)] (0, 10, 17, 19) [] htab hpre (by decide) (by decide) (by decide +kernel) g1 g2 g3 ?_
      refine lv_astore (lv' := [(4, .ref q9), (0, .ref h), (1, .int x), (2, .int y), (3, .ref O)]) hx hb dL_times_17 hl (by decide) rfl (fun ls hl => ?_)
      refine lv_iconst (v := 2) hx hb dL_times_19 (by decide) ?_
      exact xw_iret C hw hS (Nat.le_of_ble_eq_true rfl) (Nat.le_of_ble_eq_true rfl) (⟨Or.inr (Or.inr (Or.inl ⟨rfl, hp⟩)), fun a x hx _ => hsub a x hx⟩) dL_times_20
  · skip
    have hsub := hs r9 u hp
    have hOu := hsub _ _ hO
    refine lv_i2l (v := (r9).toInt64) hx hb dL_times_8 rfl ?_
    refine xw_lastN C hw hS hOu (show 0 < 1 by decide) (by decide) dL_times_9 (fun H locs hw hS => ?_)
    refine lv_goto (tgt := 21) hx hb dL_times_10 (by decide) ?_
    refine lv_iconst (v := 0) hx hb dL_times_21 (by decide) ?_
    exact xw_iret C hw hS (Nat.le_of_ble_eq_true rfl) (Nat.le_of_ble_eq_true rfl) (⟨Or.inl ⟨rfl, r9, u, hp, rfl⟩, hsub.out⟩) dL_times_22

abbrev rmL_over : Room := { frames := 9, cells := 12, slots := 200, locals := 167 }
set_option maxHeartbeats 4000000 in
set_option maxRecDepth 100000 in
theorem kL_over (l : Launch) (G : xG) (B : Nat) (w : xM) (h O : Nat) (fo : Nat → Int64) (wr : xM) (post : Int32 → xM → Prop) (pE : String → xM → Prop) (fs : List Value) (hh : w h = some (.inr (3, fs))) (hO : wr O = some (xOc G fo)) (hs : ∀ v u, post v u → xSub wr u) (hsE : ∀ E u, pE E u → (E = eI ∨ E = eA ∨ E = eS) ∧ xSub wr u) (x : Int32) (y : Int32) (hM : vx_Met l yX4_over wsX4_over rmX4_over (va_Pc [.ref h, .int x, .int y] (xBz G B w)) (va_Qi post (xE G B) (xA B)) (xXC G B pE) 12 200 (xA B)) : Met l yL_over wsL_over rmL_over (va_Pc [.ref h, .int x, .int y, .ref O] (xBz G B w)) (va_Qi (fun k u => xHp G O fo post Int32.toInt64 pE [(1, eI), (2, eA), (3, eS)] k u ∧ ∀ (a : Nat) (e : va_E), wr a = some e → a ≠ O → u a = some e) (xE G B) (xA B)) 12 200 (xA B) := by
  refine xl_start (own := RL) (mn := "over") (cc := cL_over) (nL := 5) (rt := (some .int)) (hh := [(0, 10, 13, 29), (0, 10, 17, 37), (0, 10, 21, 19)]) (by decide) rfl rfl rfl (Nat.le_of_ble_eq_true rfl) ?_
  intro p ev s m below meth cd ls C hl hw hS hz htab
  obtain ⟨hx, hb, -, -, -, hts, -, -, -, -⟩ := id C
  have hl : lv_has ls 5 [(0, .ref h), (1, .int x), (2, .int y), (3, .ref O)] := hl
  refine lv_aload_n hx hb dL_over_0 rfl (lv_at hl 3 rfl) ?_
  refine lv_iconst (v := 0) hx hb dL_over_1 (by decide) ?_
  refine xw_ti (y := (nI 0)) (nI_0.symm) ?_
  refine lv_aload_n hx hb dL_over_2 rfl (lv_at hl 0 rfl) ?_
  refine lv_iload_n hx hb dL_over_3 rfl (lv_at hl 1 rfl) ?_
  refine lv_iload_n hx hb dL_over_4 rfl (lv_at hl 2 rfl) ?_
  refine xl_ci (xx_V (n := 2) (rest := [.int (nI 0), .ref O]) C hw hz hM gL_over_X4_over rfl rfl rfl (by decide +kernel) ⟨Nat.le_of_ble_eq_true rfl, Nat.le_of_ble_eq_true rfl⟩ hh rfl rfl hl.1 rfl (Nat.le_of_ble_eq_true rfl) dL_over_5 ⟨Nat.le_of_ble_eq_true rfl, Nat.le_of_ble_eq_true rfl⟩ hS) hS (fun E u H locs q9 ce hp hw hS g1 g2 g3 => ?_) (fun r9 u H locs hp hw hS => ?_)
  · skip
    obtain ⟨hE, hsub⟩ := hsE E u hp
    rcases hE with rfl | rfl | rfl
    · skip
      refine xl_catch C hz (E := eI) (by decide +kernel) [] (0, 10, 13, 29) [(0, 10, 17, 37), (0, 10, 21, 19)] htab (fun z hz9 => absurd hz9 List.not_mem_nil) (by decide) (by decide) (by decide +kernel) g1 g2 g3 ?_
      refine lv_astore (lv' := [(4, .ref q9), (0, .ref h), (1, .int x), (2, .int y), (3, .ref O)]) hx hb dL_over_13 hl (by decide) rfl (fun ls hl => ?_)
      refine lv_iconst (v := 1) hx hb dL_over_15 (by decide) ?_
      exact xw_iret C hw hS (Nat.le_of_ble_eq_true rfl) (Nat.le_of_ble_eq_true rfl) (⟨Or.inr (Or.inl ⟨rfl, hp⟩), fun a x hx _ => hsub a x hx⟩) dL_over_16
    · skip
      have hpre : ∀ z ∈ ([(0, 10, 13, 29)] : List (Nat × Nat × Nat × Nat)), z.2.2.2 ≠ 0 ∧ ∃ F ∈ xEs, eA ≠ F ∧ Cond.classLink RL z.2.2.2 F ∈ wsL_over := by
        intro z hz9
        rcases List.mem_cons.mp hz9 with rfl | hz9
        · exact ⟨by decide, eI, by decide +kernel, by decide, by decide +kernel⟩
        exact absurd hz9 List.not_mem_nil
      refine xl_catch C hz (E := eA) (by decide +kernel) [(0, 10, 13, 29)] (0, 10, 17, 37) [(0, 10, 21, 19)] htab hpre (by decide) (by decide) (by decide +kernel) g1 g2 g3 ?_
      refine lv_astore (lv' := [(4, .ref q9), (0, .ref h), (1, .int x), (2, .int y), (3, .ref O)]) hx hb dL_over_17 hl (by decide) rfl (fun ls hl => ?_)
      refine lv_iconst (v := 2) hx hb dL_over_19 (by decide) ?_
      exact xw_iret C hw hS (Nat.le_of_ble_eq_true rfl) (Nat.le_of_ble_eq_true rfl) (⟨Or.inr (Or.inr (Or.inl ⟨rfl, hp⟩)), fun a x hx _ => hsub a x hx⟩) dL_over_20
    · skip
      have hpre : ∀ z ∈ ([(0, 10, 13, 29), (0, 10, 17, 37)] : List (Nat × Nat × Nat × Nat)), z.2.2.2 ≠ 0 ∧ ∃ F ∈ xEs, eS ≠ F ∧ Cond.classLink RL z.2.2.2 F ∈ wsL_over := by
        intro z hz9
        rcases List.mem_cons.mp hz9 with rfl | hz9
        · exact ⟨by decide, eI, by decide +kernel, by decide, by decide +kernel⟩
        rcases List.mem_cons.mp hz9 with rfl | hz9
        · exact ⟨by decide, eA, by decide +kernel, by decide, by decide +kernel⟩
        exact absurd hz9 List.not_mem_nil
      refine xl_catch C hz (E := eS) (by decide +kernel) [(0, 10, 13, 29), (0, 10, 17, 37)] (0, 10, 21, 19) [] htab hpre (by decide) (by decide) (by decide +kernel) g1 g2 g3 ?_
      refine lv_astore (lv' := [(4, .ref q9), (0, .ref h), (1, .int x), (2, .int y), (3, .ref O)]) hx hb dL_over_21 hl (by decide) rfl (fun ls hl => ?_)
      refine lv_iconst (v := 3) hx hb dL_over_23 (by decide) ?_
      exact xw_iret C hw hS (Nat.le_of_ble_eq_true rfl) (Nat.le_of_ble_eq_true rfl) (⟨Or.inr (Or.inr (Or.inr (Or.inl ⟨rfl, hp⟩))), fun a x hx _ => hsub a x hx⟩) dL_over_24
  · skip
    have hsub := hs r9 u hp
    have hOu := hsub _ _ hO
    refine lv_i2l (v := (r9).toInt64) hx hb dL_over_8 rfl ?_
    refine xw_lastN C hw hS hOu (show 0 < 1 by decide) (by decide) dL_over_9 (fun H locs hw hS => ?_)
    refine lv_goto (tgt := 25) hx hb dL_over_10 (by decide) ?_
    refine lv_iconst (v := 0) hx hb dL_over_25 (by decide) ?_
    exact xw_iret C hw hS (Nat.le_of_ble_eq_true rfl) (Nat.le_of_ble_eq_true rfl) (⟨Or.inl ⟨rfl, r9, u, hp, rfl⟩, hsub.out⟩) dL_over_26

abbrev rmL_moved : Room := { frames := 9, cells := 12, slots := 200, locals := 165 }
set_option maxHeartbeats 4000000 in
set_option maxRecDepth 100000 in
theorem kL_moved (l : Launch) (G : xG) (B : Nat) (w : xM) (h O : Nat) (fo : Nat → Int64) (wr : xM) (post : Int32 → xM → Prop) (pE : String → xM → Prop) (fs : List Value) (hh : w h = some (.inr (3, fs))) (hO : wr O = some (xOc G fo)) (hs : ∀ v u, post v u → xSub wr u) (hsE : ∀ E u, pE E u → (E = eI ∨ E = eS) ∧ xSub wr u) (x : Int32) (hM : vx_Met l yX4_moved wsX4_moved rmX4_moved (va_Pc [.ref h, .int x] (xBz G B w)) (va_Qi post (xE G B) (xA B)) (xXC G B pE) 12 200 (xA B)) : Met l yL_moved wsL_moved rmL_moved (va_Pc [.ref h, .int x, .ref O] (xBz G B w)) (va_Qi (fun k u => xHp G O fo post Int32.toInt64 pE [(1, eI), (2, eS)] k u ∧ ∀ (a : Nat) (e : va_E), wr a = some e → a ≠ O → u a = some e) (xE G B) (xA B)) 12 200 (xA B) := by
  refine xl_start (own := RL) (mn := "moved") (cc := cL_moved) (nL := 4) (rt := (some .int)) (hh := [(0, 9, 12, 29), (0, 9, 15, 19)]) (by decide) rfl rfl rfl (Nat.le_of_ble_eq_true rfl) ?_
  intro p ev s m below meth cd ls C hl hw hS hz htab
  obtain ⟨hx, hb, -, -, -, hts, -, -, -, -⟩ := id C
  have hl : lv_has ls 4 [(0, .ref h), (1, .int x), (2, .ref O)] := hl
  refine lv_aload_n hx hb dL_moved_0 rfl (lv_at hl 2 rfl) ?_
  refine lv_iconst (v := 0) hx hb dL_moved_1 (by decide) ?_
  refine xw_ti (y := (nI 0)) (nI_0.symm) ?_
  refine lv_aload_n hx hb dL_moved_2 rfl (lv_at hl 0 rfl) ?_
  refine lv_iload_n hx hb dL_moved_3 rfl (lv_at hl 1 rfl) ?_
  refine xl_ci (xx_V (n := 1) (rest := [.int (nI 0), .ref O]) C hw hz hM gL_moved_X4_moved rfl rfl rfl (by decide +kernel) ⟨Nat.le_of_ble_eq_true rfl, Nat.le_of_ble_eq_true rfl⟩ hh rfl rfl hl.1 rfl (Nat.le_of_ble_eq_true rfl) dL_moved_4 ⟨Nat.le_of_ble_eq_true rfl, Nat.le_of_ble_eq_true rfl⟩ hS) hS (fun E u H locs q9 ce hp hw hS g1 g2 g3 => ?_) (fun r9 u H locs hp hw hS => ?_)
  · skip
    obtain ⟨hE, hsub⟩ := hsE E u hp
    rcases hE with rfl | rfl
    · skip
      refine xl_catch C hz (E := eI) (by decide +kernel) [] (0, 9, 12, 29) [(0, 9, 15, 19)] htab (fun z hz9 => absurd hz9 List.not_mem_nil) (by decide) (by decide) (by decide +kernel) g1 g2 g3 ?_
      refine lv_astore_n (lv' := [(3, .ref q9), (0, .ref h), (1, .int x), (2, .ref O)]) hx hb dL_moved_12 rfl hl (by decide) rfl (fun ls hl => ?_)
      refine lv_iconst (v := 1) hx hb dL_moved_13 (by decide) ?_
      exact xw_iret C hw hS (Nat.le_of_ble_eq_true rfl) (Nat.le_of_ble_eq_true rfl) (⟨Or.inr (Or.inl ⟨rfl, hp⟩), fun a x hx _ => hsub a x hx⟩) dL_moved_14
    · skip
      have hpre : ∀ z ∈ ([(0, 9, 12, 29)] : List (Nat × Nat × Nat × Nat)), z.2.2.2 ≠ 0 ∧ ∃ F ∈ xEs, eS ≠ F ∧ Cond.classLink RL z.2.2.2 F ∈ wsL_moved := by
        intro z hz9
        rcases List.mem_cons.mp hz9 with rfl | hz9
        · exact ⟨by decide, eI, by decide +kernel, by decide, by decide +kernel⟩
        exact absurd hz9 List.not_mem_nil
      refine xl_catch C hz (E := eS) (by decide +kernel) [(0, 9, 12, 29)] (0, 9, 15, 19) [] htab hpre (by decide) (by decide) (by decide +kernel) g1 g2 g3 ?_
      refine lv_astore_n (lv' := [(3, .ref q9), (0, .ref h), (1, .int x), (2, .ref O)]) hx hb dL_moved_15 rfl hl (by decide) rfl (fun ls hl => ?_)
      refine lv_iconst (v := 2) hx hb dL_moved_16 (by decide) ?_
      exact xw_iret C hw hS (Nat.le_of_ble_eq_true rfl) (Nat.le_of_ble_eq_true rfl) (⟨Or.inr (Or.inr (Or.inl ⟨rfl, hp⟩)), fun a x hx _ => hsub a x hx⟩) dL_moved_17
  · skip
    have hsub := hs r9 u hp
    have hOu := hsub _ _ hO
    refine lv_i2l (v := (r9).toInt64) hx hb dL_moved_7 rfl ?_
    refine xw_lastN C hw hS hOu (show 0 < 1 by decide) (by decide) dL_moved_8 (fun H locs hw hS => ?_)
    refine lv_goto (tgt := 18) hx hb dL_moved_9 (by decide) ?_
    refine lv_iconst (v := 0) hx hb dL_moved_18 (by decide) ?_
    exact xw_iret C hw hS (Nat.le_of_ble_eq_true rfl) (Nat.le_of_ble_eq_true rfl) (⟨Or.inl ⟨rfl, r9, u, hp, rfl⟩, hsub.out⟩) dL_moved_19

abbrev rmL_step : Room := { frames := 9, cells := 12, slots := 200, locals := 165 }
set_option maxHeartbeats 4000000 in
set_option maxRecDepth 100000 in
theorem kL_step (l : Launch) (G : xG) (B : Nat) (w : xM) (h O : Nat) (fo : Nat → Int64) (wr : xM) (post : Int32 → xM → Prop) (pE : String → xM → Prop) (fs : List Value) (hh : w h = some (.inr (3, fs))) (hO : wr O = some (xOc G fo)) (hs : ∀ v u, post v u → xSub wr u) (hsE : ∀ E u, pE E u → (E = eI ∨ E = eA ∨ E = eS) ∧ xSub wr u) (x : Int32) (hM : vx_Met l yX4_step wsX4_step rmX4_step (va_Pc [.ref h, .int x] (xBz G B w)) (va_Qi post (xE G B) (xA B)) (xXC G B pE) 12 200 (xA B)) : Met l yL_step wsL_step rmL_step (va_Pc [.ref h, .int x, .ref O] (xBz G B w)) (va_Qi (fun k u => xHp G O fo post Int32.toInt64 pE [(1, eI), (2, eA), (3, eS)] k u ∧ ∀ (a : Nat) (e : va_E), wr a = some e → a ≠ O → u a = some e) (xE G B) (xA B)) 12 200 (xA B) := by
  refine xl_start (own := RL) (mn := "step") (cc := cL_step) (nL := 4) (rt := (some .int)) (hh := [(0, 9, 12, 29), (0, 9, 15, 37), (0, 9, 18, 19)]) (by decide) rfl rfl rfl (Nat.le_of_ble_eq_true rfl) ?_
  intro p ev s m below meth cd ls C hl hw hS hz htab
  obtain ⟨hx, hb, -, -, -, hts, -, -, -, -⟩ := id C
  have hl : lv_has ls 4 [(0, .ref h), (1, .int x), (2, .ref O)] := hl
  refine lv_aload_n hx hb dL_step_0 rfl (lv_at hl 2 rfl) ?_
  refine lv_iconst (v := 0) hx hb dL_step_1 (by decide) ?_
  refine xw_ti (y := (nI 0)) (nI_0.symm) ?_
  refine lv_aload_n hx hb dL_step_2 rfl (lv_at hl 0 rfl) ?_
  refine lv_iload_n hx hb dL_step_3 rfl (lv_at hl 1 rfl) ?_
  refine xl_ci (xx_V (n := 1) (rest := [.int (nI 0), .ref O]) C hw hz hM gL_step_X4_step rfl rfl rfl (by decide +kernel) ⟨Nat.le_of_ble_eq_true rfl, Nat.le_of_ble_eq_true rfl⟩ hh rfl rfl hl.1 rfl (Nat.le_of_ble_eq_true rfl) dL_step_4 ⟨Nat.le_of_ble_eq_true rfl, Nat.le_of_ble_eq_true rfl⟩ hS) hS (fun E u H locs q9 ce hp hw hS g1 g2 g3 => ?_) (fun r9 u H locs hp hw hS => ?_)
  · skip
    obtain ⟨hE, hsub⟩ := hsE E u hp
    rcases hE with rfl | rfl | rfl
    · skip
      refine xl_catch C hz (E := eI) (by decide +kernel) [] (0, 9, 12, 29) [(0, 9, 15, 37), (0, 9, 18, 19)] htab (fun z hz9 => absurd hz9 List.not_mem_nil) (by decide) (by decide) (by decide +kernel) g1 g2 g3 ?_
      refine lv_astore_n (lv' := [(3, .ref q9), (0, .ref h), (1, .int x), (2, .ref O)]) hx hb dL_step_12 rfl hl (by decide) rfl (fun ls hl => ?_)
      refine lv_iconst (v := 1) hx hb dL_step_13 (by decide) ?_
      exact xw_iret C hw hS (Nat.le_of_ble_eq_true rfl) (Nat.le_of_ble_eq_true rfl) (⟨Or.inr (Or.inl ⟨rfl, hp⟩), fun a x hx _ => hsub a x hx⟩) dL_step_14
    · skip
      have hpre : ∀ z ∈ ([(0, 9, 12, 29)] : List (Nat × Nat × Nat × Nat)), z.2.2.2 ≠ 0 ∧ ∃ F ∈ xEs, eA ≠ F ∧ Cond.classLink RL z.2.2.2 F ∈ wsL_step := by
        intro z hz9
        rcases List.mem_cons.mp hz9 with rfl | hz9
        · exact ⟨by decide, eI, by decide +kernel, by decide, by decide +kernel⟩
        exact absurd hz9 List.not_mem_nil
      refine xl_catch C hz (E := eA) (by decide +kernel) [(0, 9, 12, 29)] (0, 9, 15, 37) [(0, 9, 18, 19)] htab hpre (by decide) (by decide) (by decide +kernel) g1 g2 g3 ?_
      refine lv_astore_n (lv' := [(3, .ref q9), (0, .ref h), (1, .int x), (2, .ref O)]) hx hb dL_step_15 rfl hl (by decide) rfl (fun ls hl => ?_)
      refine lv_iconst (v := 2) hx hb dL_step_16 (by decide) ?_
      exact xw_iret C hw hS (Nat.le_of_ble_eq_true rfl) (Nat.le_of_ble_eq_true rfl) (⟨Or.inr (Or.inr (Or.inl ⟨rfl, hp⟩)), fun a x hx _ => hsub a x hx⟩) dL_step_17
    · skip
      have hpre : ∀ z ∈ ([(0, 9, 12, 29), (0, 9, 15, 37)] : List (Nat × Nat × Nat × Nat)), z.2.2.2 ≠ 0 ∧ ∃ F ∈ xEs, eS ≠ F ∧ Cond.classLink RL z.2.2.2 F ∈ wsL_step := by
        intro z hz9
        rcases List.mem_cons.mp hz9 with rfl | hz9
        · exact ⟨by decide, eI, by decide +kernel, by decide, by decide +kernel⟩
        rcases List.mem_cons.mp hz9 with rfl | hz9
        · exact ⟨by decide, eA, by decide +kernel, by decide, by decide +kernel⟩
        exact absurd hz9 List.not_mem_nil
      refine xl_catch C hz (E := eS) (by decide +kernel) [(0, 9, 12, 29), (0, 9, 15, 37)] (0, 9, 18, 19) [] htab hpre (by decide) (by decide) (by decide +kernel) g1 g2 g3 ?_
      refine lv_astore_n (lv' := [(3, .ref q9), (0, .ref h), (1, .int x), (2, .ref O)]) hx hb dL_step_18 rfl hl (by decide) rfl (fun ls hl => ?_)
      refine lv_iconst (v := 3) hx hb dL_step_19 (by decide) ?_
      exact xw_iret C hw hS (Nat.le_of_ble_eq_true rfl) (Nat.le_of_ble_eq_true rfl) (⟨Or.inr (Or.inr (Or.inr (Or.inl ⟨rfl, hp⟩))), fun a x hx _ => hsub a x hx⟩) dL_step_20
  · skip
    have hsub := hs r9 u hp
    have hOu := hsub _ _ hO
    refine lv_i2l (v := (r9).toInt64) hx hb dL_step_7 rfl ?_
    refine xw_lastN C hw hS hOu (show 0 < 1 by decide) (by decide) dL_step_8 (fun H locs hw hS => ?_)
    refine lv_goto (tgt := 21) hx hb dL_step_9 (by decide) ?_
    refine lv_iconst (v := 0) hx hb dL_step_21 (by decide) ?_
    exact xw_iret C hw hS (Nat.le_of_ble_eq_true rfl) (Nat.le_of_ble_eq_true rfl) (⟨Or.inl ⟨rfl, r9, u, hp, rfl⟩, hsub.out⟩) dL_step_22

abbrev rmL_proves : Room := { frames := 8, cells := 12, slots := 200, locals := 128 }
set_option maxHeartbeats 4000000 in
set_option maxRecDepth 100000 in
theorem kL_proves (l : Launch) (G : xG) (B : Nat) (w : xM) (h O : Nat) (fo : Nat → Int64) (wr : xM) (post : Int32 → xM → Prop) (pE : String → xM → Prop) (fs : List Value) (hh : w h = some (.inr (3, fs))) (hO : wr O = some (xOc G fo)) (hs : ∀ v u, post v u → xSub wr u) (hsE : ∀ E u, pE E u → (E = eI ∨ E = eA) ∧ xSub wr u) (x : Int32) (y : Int32) (hM : vx_Met l yX4_proves wsX4_proves rmX4_proves (va_Pc [.ref h, .int x, .int y] (xBz G B w)) (va_Qi post (xE G B) (xA B)) (xXC G B pE) 12 200 (xA B)) : Met l yL_proves wsL_proves rmL_proves (va_Pc [.ref h, .int x, .int y, .ref O] (xBz G B w)) (va_Qi (fun k u => xHp G O fo post xZl pE [(1, eI), (2, eA)] k u ∧ ∀ (a : Nat) (e : va_E), wr a = some e → a ≠ O → u a = some e) (xE G B) (xA B)) 12 200 (xA B) := by
  refine xl_start (own := RL) (mn := "proves") (cc := cL_proves) (nL := 5) (rt := (some .int)) (hh := [(0, 17, 20, 29), (0, 17, 24, 37)]) (by decide) rfl rfl rfl (Nat.le_of_ble_eq_true rfl) ?_
  intro p ev s m below meth cd ls C hl hw hS hz htab
  obtain ⟨hx, hb, -, -, -, hts, -, -, -, -⟩ := id C
  have hl : lv_has ls 5 [(0, .ref h), (1, .int x), (2, .int y), (3, .ref O)] := hl
  refine lv_aload_n hx hb dL_proves_0 rfl (lv_at hl 3 rfl) ?_
  refine lv_iconst (v := 0) hx hb dL_proves_1 (by decide) ?_
  refine xw_ti (y := (nI 0)) (nI_0.symm) ?_
  refine lv_aload_n hx hb dL_proves_2 rfl (lv_at hl 0 rfl) ?_
  refine lv_iload_n hx hb dL_proves_3 rfl (lv_at hl 1 rfl) ?_
  refine lv_iload_n hx hb dL_proves_4 rfl (lv_at hl 2 rfl) ?_
  refine xl_ci (xx_V (n := 2) (rest := [.int (nI 0), .ref O]) C hw hz hM gL_proves_X4_proves rfl rfl rfl (by decide +kernel) ⟨Nat.le_of_ble_eq_true rfl, Nat.le_of_ble_eq_true rfl⟩ hh rfl rfl hl.1 rfl (Nat.le_of_ble_eq_true rfl) dL_proves_5 ⟨Nat.le_of_ble_eq_true rfl, Nat.le_of_ble_eq_true rfl⟩ hS) hS (fun E u H locs q9 ce hp hw hS g1 g2 g3 => ?_) (fun r9 u H locs hp hw hS => ?_)
  · skip
    obtain ⟨hE, hsub⟩ := hsE E u hp
    rcases hE with rfl | rfl
    · skip
      refine xl_catch C hz (E := eI) (by decide +kernel) [] (0, 17, 20, 29) [(0, 17, 24, 37)] htab (fun z hz9 => absurd hz9 List.not_mem_nil) (by decide) (by decide) (by decide +kernel) g1 g2 g3 ?_
      refine lv_astore (lv' := [(4, .ref q9), (0, .ref h), (1, .int x), (2, .int y), (3, .ref O)]) hx hb dL_proves_20 hl (by decide) rfl (fun ls hl => ?_)
      refine lv_iconst (v := 1) hx hb dL_proves_22 (by decide) ?_
      exact xw_iret C hw hS (Nat.le_of_ble_eq_true rfl) (Nat.le_of_ble_eq_true rfl) (⟨Or.inr (Or.inl ⟨rfl, hp⟩), fun a x hx _ => hsub a x hx⟩) dL_proves_23
    · skip
      have hpre : ∀ z ∈ ([(0, 17, 20, 29)] : List (Nat × Nat × Nat × Nat)), z.2.2.2 ≠ 0 ∧ ∃ F ∈ xEs, eA ≠ F ∧ Cond.classLink RL z.2.2.2 F ∈ wsL_proves := by
        intro z hz9
        rcases List.mem_cons.mp hz9 with rfl | hz9
        · exact ⟨by decide, eI, by decide +kernel, by decide, by decide +kernel⟩
        exact absurd hz9 List.not_mem_nil
      refine xl_catch C hz (E := eA) (by decide +kernel) [(0, 17, 20, 29)] (0, 17, 24, 37) [] htab hpre (by decide) (by decide) (by decide +kernel) g1 g2 g3 ?_
      refine lv_astore (lv' := [(4, .ref q9), (0, .ref h), (1, .int x), (2, .int y), (3, .ref O)]) hx hb dL_proves_24 hl (by decide) rfl (fun ls hl => ?_)
      refine lv_iconst (v := 2) hx hb dL_proves_26 (by decide) ?_
      exact xw_iret C hw hS (Nat.le_of_ble_eq_true rfl) (Nat.le_of_ble_eq_true rfl) (⟨Or.inr (Or.inr (Or.inl ⟨rfl, hp⟩)), fun a x hx _ => hsub a x hx⟩) dL_proves_27
  · skip
    have hsub := hs r9 u hp
    have hOu := hsub _ _ hO
    refine lv_if_eq (tgt := 15) hx hb dL_proves_8 (by decide) (fun hc => ?_) (fun hc => ?_)
    · skip
      refine lv_lconst (v := 0) hx hb dL_proves_15 (by decide) ?_
      refine xw_lastN C hw hS hOu (show 0 < 1 by decide) (by decide) dL_proves_16 (fun H locs hw hS => ?_)
      refine lv_goto (tgt := 28) hx hb dL_proves_17 (by decide) ?_
      refine lv_iconst (v := 0) hx hb dL_proves_28 (by decide) ?_
      exact xw_iret C hw hS (Nat.le_of_ble_eq_true rfl) (Nat.le_of_ble_eq_true rfl) (⟨Or.inl ⟨rfl, r9, u, hp, by rw [show xZl r9 = 0 from if_pos hc]⟩, hsub.out⟩) dL_proves_29
    · skip
      refine lv_lconst (v := 1) hx hb dL_proves_11 (by decide) ?_
      refine lv_goto (tgt := 16) hx hb dL_proves_12 (by decide) ?_
      refine xw_lastN C hw hS hOu (show 0 < 1 by decide) (by decide) dL_proves_16 (fun H locs hw hS => ?_)
      refine lv_goto (tgt := 28) hx hb dL_proves_17 (by decide) ?_
      refine lv_iconst (v := 0) hx hb dL_proves_28 (by decide) ?_
      exact xw_iret C hw hS (Nat.le_of_ble_eq_true rfl) (Nat.le_of_ble_eq_true rfl) (⟨Or.inl ⟨rfl, r9, u, hp, by rw [show xZl r9 = 1 from if_neg hc]⟩, hsub.out⟩) dL_proves_29

abbrev rmL_find : Room := { frames := 9, cells := 12, slots := 200, locals := 168 }
set_option maxHeartbeats 4000000 in
set_option maxRecDepth 100000 in
theorem kL_find (l : Launch) (G : xG) (B : Nat) (w : xM) (h O : Nat) (fo : Nat → Int64) (wr : xM) (post : Int32 → xM → Prop) (pE : String → xM → Prop) (fs : List Value) (hh : w h = some (.inr (3, fs))) (hO : wr O = some (xOc G fo)) (hs : ∀ v u, post v u → xSub wr u) (hsE : ∀ E u, pE E u → (E = eI ∨ E = eA ∨ E = eG ∨ E = eS) ∧ xSub wr u) (x : Int32) (y : Int32) (t : Int32) (hM : vx_Met l yX4_find wsX4_find rmX4_find (va_Pc [.ref h, .int x, .int y, .int t] (xBz G B w)) (va_Qi post (xE G B) (xA B)) (xXC G B pE) 12 200 (xA B)) : Met l yL_find wsL_find rmL_find (va_Pc [.ref h, .int x, .int y, .int t, .ref O] (xBz G B w)) (va_Qi (fun k u => xHp G O fo post Int32.toInt64 pE [(1, eI), (2, eA), (3, eG), (4, eS)] k u ∧ ∀ (a : Nat) (e : va_E), wr a = some e → a ≠ O → u a = some e) (xE G B) (xA B)) 12 200 (xA B) := by
  refine xl_start (own := RL) (mn := "find") (cc := cL_find) (nL := 6) (rt := (some .int)) (hh := [(0, 12, 15, 29), (0, 12, 19, 37), (0, 12, 23, 13), (0, 12, 27, 19)]) (by decide) rfl rfl rfl (Nat.le_of_ble_eq_true rfl) ?_
  intro p ev s m below meth cd ls C hl hw hS hz htab
  obtain ⟨hx, hb, -, -, -, hts, -, -, -, -⟩ := id C
  have hl : lv_has ls 6 [(0, .ref h), (1, .int x), (2, .int y), (3, .int t), (4, .ref O)] := hl
  refine lv_aload hx hb dL_find_0 (lv_at hl 4 rfl) ?_
  refine lv_iconst (v := 0) hx hb dL_find_2 (by decide) ?_
  refine xw_ti (y := (nI 0)) (nI_0.symm) ?_
  refine lv_aload_n hx hb dL_find_3 rfl (lv_at hl 0 rfl) ?_
  refine lv_iload_n hx hb dL_find_4 rfl (lv_at hl 1 rfl) ?_
  refine lv_iload_n hx hb dL_find_5 rfl (lv_at hl 2 rfl) ?_
  refine lv_iload_n hx hb dL_find_6 rfl (lv_at hl 3 rfl) ?_
  refine xl_ci (xx_V (n := 3) (rest := [.int (nI 0), .ref O]) C hw hz hM gL_find_X4_find rfl rfl rfl (by decide +kernel) ⟨Nat.le_of_ble_eq_true rfl, Nat.le_of_ble_eq_true rfl⟩ hh rfl rfl hl.1 rfl (Nat.le_of_ble_eq_true rfl) dL_find_7 ⟨Nat.le_of_ble_eq_true rfl, Nat.le_of_ble_eq_true rfl⟩ hS) hS (fun E u H locs q9 ce hp hw hS g1 g2 g3 => ?_) (fun r9 u H locs hp hw hS => ?_)
  · skip
    obtain ⟨hE, hsub⟩ := hsE E u hp
    rcases hE with rfl | rfl | rfl | rfl
    · skip
      refine xl_catch C hz (E := eI) (by decide +kernel) [] (0, 12, 15, 29) [(0, 12, 19, 37), (0, 12, 23, 13), (0, 12, 27, 19)] htab (fun z hz9 => absurd hz9 List.not_mem_nil) (by decide) (by decide) (by decide +kernel) g1 g2 g3 ?_
      refine lv_astore (lv' := [(5, .ref q9), (0, .ref h), (1, .int x), (2, .int y), (3, .int t), (4, .ref O)]) hx hb dL_find_15 hl (by decide) rfl (fun ls hl => ?_)
      refine lv_iconst (v := 1) hx hb dL_find_17 (by decide) ?_
      exact xw_iret C hw hS (Nat.le_of_ble_eq_true rfl) (Nat.le_of_ble_eq_true rfl) (⟨Or.inr (Or.inl ⟨rfl, hp⟩), fun a x hx _ => hsub a x hx⟩) dL_find_18
    · skip
      have hpre : ∀ z ∈ ([(0, 12, 15, 29)] : List (Nat × Nat × Nat × Nat)), z.2.2.2 ≠ 0 ∧ ∃ F ∈ xEs, eA ≠ F ∧ Cond.classLink RL z.2.2.2 F ∈ wsL_find := by
        intro z hz9
        rcases List.mem_cons.mp hz9 with rfl | hz9
        · exact ⟨by decide, eI, by decide +kernel, by decide, by decide +kernel⟩
        exact absurd hz9 List.not_mem_nil
      refine xl_catch C hz (E := eA) (by decide +kernel) [(0, 12, 15, 29)] (0, 12, 19, 37) [(0, 12, 23, 13), (0, 12, 27, 19)] htab hpre (by decide) (by decide) (by decide +kernel) g1 g2 g3 ?_
      refine lv_astore (lv' := [(5, .ref q9), (0, .ref h), (1, .int x), (2, .int y), (3, .int t), (4, .ref O)]) hx hb dL_find_19 hl (by decide) rfl (fun ls hl => ?_)
      refine lv_iconst (v := 2) hx hb dL_find_21 (by decide) ?_
      exact xw_iret C hw hS (Nat.le_of_ble_eq_true rfl) (Nat.le_of_ble_eq_true rfl) (⟨Or.inr (Or.inr (Or.inl ⟨rfl, hp⟩)), fun a x hx _ => hsub a x hx⟩) dL_find_22
    · skip
      have hpre : ∀ z ∈ ([(0, 12, 15, 29), (0, 12, 19, 37)] : List (Nat × Nat × Nat × Nat)), z.2.2.2 ≠ 0 ∧ ∃ F ∈ xEs, eG ≠ F ∧ Cond.classLink RL z.2.2.2 F ∈ wsL_find := by
        intro z hz9
        rcases List.mem_cons.mp hz9 with rfl | hz9
        · exact ⟨by decide, eI, by decide +kernel, by decide, by decide +kernel⟩
        rcases List.mem_cons.mp hz9 with rfl | hz9
        · exact ⟨by decide, eA, by decide +kernel, by decide, by decide +kernel⟩
        exact absurd hz9 List.not_mem_nil
      refine xl_catch C hz (E := eG) (by decide +kernel) [(0, 12, 15, 29), (0, 12, 19, 37)] (0, 12, 23, 13) [(0, 12, 27, 19)] htab hpre (by decide) (by decide) (by decide +kernel) g1 g2 g3 ?_
      refine lv_astore (lv' := [(5, .ref q9), (0, .ref h), (1, .int x), (2, .int y), (3, .int t), (4, .ref O)]) hx hb dL_find_23 hl (by decide) rfl (fun ls hl => ?_)
      refine lv_iconst (v := 3) hx hb dL_find_25 (by decide) ?_
      exact xw_iret C hw hS (Nat.le_of_ble_eq_true rfl) (Nat.le_of_ble_eq_true rfl) (⟨Or.inr (Or.inr (Or.inr (Or.inl ⟨rfl, hp⟩))), fun a x hx _ => hsub a x hx⟩) dL_find_26
    · skip
      have hpre : ∀ z ∈ ([(0, 12, 15, 29), (0, 12, 19, 37), (0, 12, 23, 13)] : List (Nat × Nat × Nat × Nat)), z.2.2.2 ≠ 0 ∧ ∃ F ∈ xEs, eS ≠ F ∧ Cond.classLink RL z.2.2.2 F ∈ wsL_find := by
        intro z hz9
        rcases List.mem_cons.mp hz9 with rfl | hz9
        · exact ⟨by decide, eI, by decide +kernel, by decide, by decide +kernel⟩
        rcases List.mem_cons.mp hz9 with rfl | hz9
        · exact ⟨by decide, eA, by decide +kernel, by decide, by decide +kernel⟩
        rcases List.mem_cons.mp hz9 with rfl | hz9
        · exact ⟨by decide, eG, by decide +kernel, by decide, by decide +kernel⟩
        exact absurd hz9 List.not_mem_nil
      refine xl_catch C hz (E := eS) (by decide +kernel) [(0, 12, 15, 29), (0, 12, 19, 37), (0, 12, 23, 13)] (0, 12, 27, 19) [] htab hpre (by decide) (by decide) (by decide +kernel) g1 g2 g3 ?_
      refine lv_astore (lv' := [(5, .ref q9), (0, .ref h), (1, .int x), (2, .int y), (3, .int t), (4, .ref O)]) hx hb dL_find_27 hl (by decide) rfl (fun ls hl => ?_)
      refine lv_iconst (v := 4) hx hb dL_find_29 (by decide) ?_
      exact xw_iret C hw hS (Nat.le_of_ble_eq_true rfl) (Nat.le_of_ble_eq_true rfl) (⟨Or.inr (Or.inr (Or.inr (Or.inr (Or.inl ⟨rfl, hp⟩)))), fun a x hx _ => hsub a x hx⟩) dL_find_30
  · skip
    have hsub := hs r9 u hp
    have hOu := hsub _ _ hO
    refine lv_i2l (v := (r9).toInt64) hx hb dL_find_10 rfl ?_
    refine xw_lastN C hw hS hOu (show 0 < 1 by decide) (by decide) dL_find_11 (fun H locs hw hS => ?_)
    refine lv_goto (tgt := 31) hx hb dL_find_12 (by decide) ?_
    refine lv_iconst (v := 0) hx hb dL_find_31 (by decide) ?_
    exact xw_iret C hw hS (Nat.le_of_ble_eq_true rfl) (Nat.le_of_ble_eq_true rfl) (⟨Or.inl ⟨rfl, r9, u, hp, rfl⟩, hsub.out⟩) dL_find_32

abbrev rmL_least : Room := { frames := 9, cells := 12, slots := 200, locals := 165 }
set_option maxHeartbeats 4000000 in
set_option maxRecDepth 100000 in
theorem kL_least (l : Launch) (G : xG) (B : Nat) (w : xM) (h O : Nat) (fo : Nat → Int64) (wr : xM) (post : Int32 → xM → Prop) (pE : String → xM → Prop) (fs : List Value) (hh : w h = some (.inr (3, fs))) (hO : wr O = some (xOc G fo)) (hs : ∀ v u, post v u → xSub wr u) (hsE : ∀ E u, pE E u → (E = eI ∨ E = eA) ∧ xSub wr u) (x : Int32) (y : Int32) (hM : vx_Met l yX4_least wsX4_least rmX4_least (va_Pc [.ref h, .int x, .int y] (xBz G B w)) (va_Qi post (xE G B) (xA B)) (xXC G B pE) 12 200 (xA B)) : Met l yL_least wsL_least rmL_least (va_Pc [.ref h, .int x, .int y, .ref O] (xBz G B w)) (va_Qi (fun k u => xHp G O fo post Int32.toInt64 pE [(1, eI), (2, eA)] k u ∧ ∀ (a : Nat) (e : va_E), wr a = some e → a ≠ O → u a = some e) (xE G B) (xA B)) 12 200 (xA B) := by
  refine xl_start (own := RL) (mn := "least") (cc := cL_least) (nL := 5) (rt := (some .int)) (hh := [(0, 10, 13, 29), (0, 10, 17, 37)]) (by decide) rfl rfl rfl (Nat.le_of_ble_eq_true rfl) ?_
  intro p ev s m below meth cd ls C hl hw hS hz htab
  obtain ⟨hx, hb, -, -, -, hts, -, -, -, -⟩ := id C
  have hl : lv_has ls 5 [(0, .ref h), (1, .int x), (2, .int y), (3, .ref O)] := hl
  refine lv_aload_n hx hb dL_least_0 rfl (lv_at hl 3 rfl) ?_
  refine lv_iconst (v := 0) hx hb dL_least_1 (by decide) ?_
  refine xw_ti (y := (nI 0)) (nI_0.symm) ?_
  refine lv_aload_n hx hb dL_least_2 rfl (lv_at hl 0 rfl) ?_
  refine lv_iload_n hx hb dL_least_3 rfl (lv_at hl 1 rfl) ?_
  refine lv_iload_n hx hb dL_least_4 rfl (lv_at hl 2 rfl) ?_
  refine xl_ci (xx_V (n := 2) (rest := [.int (nI 0), .ref O]) C hw hz hM gL_least_X4_least rfl rfl rfl (by decide +kernel) ⟨Nat.le_of_ble_eq_true rfl, Nat.le_of_ble_eq_true rfl⟩ hh rfl rfl hl.1 rfl (Nat.le_of_ble_eq_true rfl) dL_least_5 ⟨Nat.le_of_ble_eq_true rfl, Nat.le_of_ble_eq_true rfl⟩ hS) hS (fun E u H locs q9 ce hp hw hS g1 g2 g3 => ?_) (fun r9 u H locs hp hw hS => ?_)
  · skip
    obtain ⟨hE, hsub⟩ := hsE E u hp
    rcases hE with rfl | rfl
    · skip
      refine xl_catch C hz (E := eI) (by decide +kernel) [] (0, 10, 13, 29) [(0, 10, 17, 37)] htab (fun z hz9 => absurd hz9 List.not_mem_nil) (by decide) (by decide) (by decide +kernel) g1 g2 g3 ?_
      refine lv_astore (lv' := [(4, .ref q9), (0, .ref h), (1, .int x), (2, .int y), (3, .ref O)]) hx hb dL_least_13 hl (by decide) rfl (fun ls hl => ?_)
      refine lv_iconst (v := 1) hx hb dL_least_15 (by decide) ?_
      exact xw_iret C hw hS (Nat.le_of_ble_eq_true rfl) (Nat.le_of_ble_eq_true rfl) (⟨Or.inr (Or.inl ⟨rfl, hp⟩), fun a x hx _ => hsub a x hx⟩) dL_least_16
    · skip
      have hpre : ∀ z ∈ ([(0, 10, 13, 29)] : List (Nat × Nat × Nat × Nat)), z.2.2.2 ≠ 0 ∧ ∃ F ∈ xEs, eA ≠ F ∧ Cond.classLink RL z.2.2.2 F ∈ wsL_least := by
        intro z hz9
        rcases List.mem_cons.mp hz9 with rfl | hz9
        · exact ⟨by decide, eI, by decide +kernel, by decide, by decide +kernel⟩
        exact absurd hz9 List.not_mem_nil
      refine xl_catch C hz (E := eA) (by decide +kernel) [(0, 10, 13, 29)] (0, 10, 17, 37) [] htab hpre (by decide) (by decide) (by decide +kernel) g1 g2 g3 ?_
      refine lv_astore (lv' := [(4, .ref q9), (0, .ref h), (1, .int x), (2, .int y), (3, .ref O)]) hx hb dL_least_17 hl (by decide) rfl (fun ls hl => ?_)
      refine lv_iconst (v := 2) hx hb dL_least_19 (by decide) ?_
      exact xw_iret C hw hS (Nat.le_of_ble_eq_true rfl) (Nat.le_of_ble_eq_true rfl) (⟨Or.inr (Or.inr (Or.inl ⟨rfl, hp⟩)), fun a x hx _ => hsub a x hx⟩) dL_least_20
  · skip
    have hsub := hs r9 u hp
    have hOu := hsub _ _ hO
    refine lv_i2l (v := (r9).toInt64) hx hb dL_least_8 rfl ?_
    refine xw_lastN C hw hS hOu (show 0 < 1 by decide) (by decide) dL_least_9 (fun H locs hw hS => ?_)
    refine lv_goto (tgt := 21) hx hb dL_least_10 (by decide) ?_
    refine lv_iconst (v := 0) hx hb dL_least_21 (by decide) ?_
    exact xw_iret C hw hS (Nat.le_of_ble_eq_true rfl) (Nat.le_of_ble_eq_true rfl) (⟨Or.inl ⟨rfl, r9, u, hp, rfl⟩, hsub.out⟩) dL_least_22

abbrev rmL_free : Room := { frames := 9, cells := 12, slots := 200, locals := 146 }
set_option maxHeartbeats 4000000 in
set_option maxRecDepth 100000 in
theorem kL_free (l : Launch) (G : xG) (B : Nat) (w : xM) (h O : Nat) (fo : Nat → Int64) (wr : xM) (post : Int32 → xM → Prop) (pE : String → xM → Prop) (fs : List Value) (hh : w h = some (.inr (3, fs))) (hO : wr O = some (xOc G fo)) (hs : ∀ v u, post v u → xSub wr u) (hsE : ∀ E u, pE E u → (E = eI ∨ E = eA ∨ E = eG) ∧ xSub wr u) (x : Int32) (y : Int32) (hM : vx_Met l yX4_free wsX4_free rmX4_free (va_Pc [.ref h, .int x, .int y] (xBz G B w)) (va_Qi post (xE G B) (xA B)) (xXC G B pE) 12 200 (xA B)) : Met l yL_free wsL_free rmL_free (va_Pc [.ref h, .int x, .int y, .ref O] (xBz G B w)) (va_Qi (fun k u => xHp G O fo post Int32.toInt64 pE [(1, eI), (2, eA), (3, eG)] k u ∧ ∀ (a : Nat) (e : va_E), wr a = some e → a ≠ O → u a = some e) (xE G B) (xA B)) 12 200 (xA B) := by
  refine xl_start (own := RL) (mn := "free") (cc := cL_free) (nL := 5) (rt := (some .int)) (hh := [(0, 10, 13, 29), (0, 10, 17, 37), (0, 10, 21, 13)]) (by decide) rfl rfl rfl (Nat.le_of_ble_eq_true rfl) ?_
  intro p ev s m below meth cd ls C hl hw hS hz htab
  obtain ⟨hx, hb, -, -, -, hts, -, -, -, -⟩ := id C
  have hl : lv_has ls 5 [(0, .ref h), (1, .int x), (2, .int y), (3, .ref O)] := hl
  refine lv_aload_n hx hb dL_free_0 rfl (lv_at hl 3 rfl) ?_
  refine lv_iconst (v := 0) hx hb dL_free_1 (by decide) ?_
  refine xw_ti (y := (nI 0)) (nI_0.symm) ?_
  refine lv_aload_n hx hb dL_free_2 rfl (lv_at hl 0 rfl) ?_
  refine lv_iload_n hx hb dL_free_3 rfl (lv_at hl 1 rfl) ?_
  refine lv_iload_n hx hb dL_free_4 rfl (lv_at hl 2 rfl) ?_
  refine xl_ci (xx_V (n := 2) (rest := [.int (nI 0), .ref O]) C hw hz hM gL_free_X4_free rfl rfl rfl (by decide +kernel) ⟨Nat.le_of_ble_eq_true rfl, Nat.le_of_ble_eq_true rfl⟩ hh rfl rfl hl.1 rfl (Nat.le_of_ble_eq_true rfl) dL_free_5 ⟨Nat.le_of_ble_eq_true rfl, Nat.le_of_ble_eq_true rfl⟩ hS) hS (fun E u H locs q9 ce hp hw hS g1 g2 g3 => ?_) (fun r9 u H locs hp hw hS => ?_)
  · skip
    obtain ⟨hE, hsub⟩ := hsE E u hp
    rcases hE with rfl | rfl | rfl
    · skip
      refine xl_catch C hz (E := eI) (by decide +kernel) [] (0, 10, 13, 29) [(0, 10, 17, 37), (0, 10, 21, 13)] htab (fun z hz9 => absurd hz9 List.not_mem_nil) (by decide) (by decide) (by decide +kernel) g1 g2 g3 ?_
      refine lv_astore (lv' := [(4, .ref q9), (0, .ref h), (1, .int x), (2, .int y), (3, .ref O)]) hx hb dL_free_13 hl (by decide) rfl (fun ls hl => ?_)
      refine lv_iconst (v := 1) hx hb dL_free_15 (by decide) ?_
      exact xw_iret C hw hS (Nat.le_of_ble_eq_true rfl) (Nat.le_of_ble_eq_true rfl) (⟨Or.inr (Or.inl ⟨rfl, hp⟩), fun a x hx _ => hsub a x hx⟩) dL_free_16
    · skip
      have hpre : ∀ z ∈ ([(0, 10, 13, 29)] : List (Nat × Nat × Nat × Nat)), z.2.2.2 ≠ 0 ∧ ∃ F ∈ xEs, eA ≠ F ∧ Cond.classLink RL z.2.2.2 F ∈ wsL_free := by
        intro z hz9
        rcases List.mem_cons.mp hz9 with rfl | hz9
        · exact ⟨by decide, eI, by decide +kernel, by decide, by decide +kernel⟩
        exact absurd hz9 List.not_mem_nil
      refine xl_catch C hz (E := eA) (by decide +kernel) [(0, 10, 13, 29)] (0, 10, 17, 37) [(0, 10, 21, 13)] htab hpre (by decide) (by decide) (by decide +kernel) g1 g2 g3 ?_
      refine lv_astore (lv' := [(4, .ref q9), (0, .ref h), (1, .int x), (2, .int y), (3, .ref O)]) hx hb dL_free_17 hl (by decide) rfl (fun ls hl => ?_)
      refine lv_iconst (v := 2) hx hb dL_free_19 (by decide) ?_
      exact xw_iret C hw hS (Nat.le_of_ble_eq_true rfl) (Nat.le_of_ble_eq_true rfl) (⟨Or.inr (Or.inr (Or.inl ⟨rfl, hp⟩)), fun a x hx _ => hsub a x hx⟩) dL_free_20
    · skip
      have hpre : ∀ z ∈ ([(0, 10, 13, 29), (0, 10, 17, 37)] : List (Nat × Nat × Nat × Nat)), z.2.2.2 ≠ 0 ∧ ∃ F ∈ xEs, eG ≠ F ∧ Cond.classLink RL z.2.2.2 F ∈ wsL_free := by
        intro z hz9
        rcases List.mem_cons.mp hz9 with rfl | hz9
        · exact ⟨by decide, eI, by decide +kernel, by decide, by decide +kernel⟩
        rcases List.mem_cons.mp hz9 with rfl | hz9
        · exact ⟨by decide, eA, by decide +kernel, by decide, by decide +kernel⟩
        exact absurd hz9 List.not_mem_nil
      refine xl_catch C hz (E := eG) (by decide +kernel) [(0, 10, 13, 29), (0, 10, 17, 37)] (0, 10, 21, 13) [] htab hpre (by decide) (by decide) (by decide +kernel) g1 g2 g3 ?_
      refine lv_astore (lv' := [(4, .ref q9), (0, .ref h), (1, .int x), (2, .int y), (3, .ref O)]) hx hb dL_free_21 hl (by decide) rfl (fun ls hl => ?_)
      refine lv_iconst (v := 3) hx hb dL_free_23 (by decide) ?_
      exact xw_iret C hw hS (Nat.le_of_ble_eq_true rfl) (Nat.le_of_ble_eq_true rfl) (⟨Or.inr (Or.inr (Or.inr (Or.inl ⟨rfl, hp⟩))), fun a x hx _ => hsub a x hx⟩) dL_free_24
  · skip
    have hsub := hs r9 u hp
    have hOu := hsub _ _ hO
    refine lv_i2l (v := (r9).toInt64) hx hb dL_free_8 rfl ?_
    refine xw_lastN C hw hS hOu (show 0 < 1 by decide) (by decide) dL_free_9 (fun H locs hw hS => ?_)
    refine lv_goto (tgt := 25) hx hb dL_free_10 (by decide) ?_
    refine lv_iconst (v := 0) hx hb dL_free_25 (by decide) ?_
    exact xw_iret C hw hS (Nat.le_of_ble_eq_true rfl) (Nat.le_of_ble_eq_true rfl) (⟨Or.inl ⟨rfl, r9, u, hp, rfl⟩, hsub.out⟩) dL_free_26

abbrev rmL_degree : Room := { frames := 8, cells := 12, slots := 200, locals := 126 }
set_option maxHeartbeats 4000000 in
set_option maxRecDepth 100000 in
theorem kL_degree (l : Launch) (G : xG) (B : Nat) (w : xM) (h O : Nat) (fo : Nat → Int64) (wr : xM) (post : Int32 → xM → Prop) (pE : String → xM → Prop) (fs : List Value) (hh : w h = some (.inr (3, fs))) (hO : wr O = some (xOc G fo)) (hs : ∀ v u, post v u → xSub wr u) (hsE : ∀ E u, pE E u → (E = eI) ∧ xSub wr u) (x : Int32) (z : Int32) (hM : vx_Met l yX4_degree wsX4_degree rmX4_degree (va_Pc [.ref h, .int x, .int z] (xBz G B w)) (va_Qi post (xE G B) (xA B)) (xXC G B pE) 12 200 (xA B)) : Met l yL_degree wsL_degree rmL_degree (va_Pc [.ref h, .int x, .int z, .ref O] (xBz G B w)) (va_Qi (fun k u => xHp G O fo post Int32.toInt64 pE [(1, eI)] k u ∧ ∀ (a : Nat) (e : va_E), wr a = some e → a ≠ O → u a = some e) (xE G B) (xA B)) 12 200 (xA B) := by
  refine xl_start (own := RL) (mn := "degree") (cc := cL_degree) (nL := 5) (rt := (some .int)) (hh := [(0, 10, 13, 29)]) (by decide) rfl rfl rfl (Nat.le_of_ble_eq_true rfl) ?_
  intro p ev s m below meth cd ls C hl hw hS hz htab
  obtain ⟨hx, hb, -, -, -, hts, -, -, -, -⟩ := id C
  have hl : lv_has ls 5 [(0, .ref h), (1, .int x), (2, .int z), (3, .ref O)] := hl
  refine lv_aload_n hx hb dL_degree_0 rfl (lv_at hl 3 rfl) ?_
  refine lv_iconst (v := 0) hx hb dL_degree_1 (by decide) ?_
  refine xw_ti (y := (nI 0)) (nI_0.symm) ?_
  refine lv_aload_n hx hb dL_degree_2 rfl (lv_at hl 0 rfl) ?_
  refine lv_iload_n hx hb dL_degree_3 rfl (lv_at hl 1 rfl) ?_
  refine lv_iload_n hx hb dL_degree_4 rfl (lv_at hl 2 rfl) ?_
  refine xl_ci (xx_V (n := 2) (rest := [.int (nI 0), .ref O]) C hw hz hM gL_degree_X4_degree rfl rfl rfl (by decide +kernel) ⟨Nat.le_of_ble_eq_true rfl, Nat.le_of_ble_eq_true rfl⟩ hh rfl rfl hl.1 rfl (Nat.le_of_ble_eq_true rfl) dL_degree_5 ⟨Nat.le_of_ble_eq_true rfl, Nat.le_of_ble_eq_true rfl⟩ hS) hS (fun E u H locs q9 ce hp hw hS g1 g2 g3 => ?_) (fun r9 u H locs hp hw hS => ?_)
  · skip
    obtain ⟨hE, hsub⟩ := hsE E u hp
    subst hE
    refine xl_catch C hz (E := eI) (by decide +kernel) [] (0, 10, 13, 29) [] htab (fun z hz9 => absurd hz9 List.not_mem_nil) (by decide) (by decide) (by decide +kernel) g1 g2 g3 ?_
    refine lv_astore (lv' := [(4, .ref q9), (0, .ref h), (1, .int x), (2, .int z), (3, .ref O)]) hx hb dL_degree_13 hl (by decide) rfl (fun ls hl => ?_)
    refine lv_iconst (v := 1) hx hb dL_degree_15 (by decide) ?_
    exact xw_iret C hw hS (Nat.le_of_ble_eq_true rfl) (Nat.le_of_ble_eq_true rfl) (⟨Or.inr (Or.inl ⟨rfl, hp⟩), fun a x hx _ => hsub a x hx⟩) dL_degree_16
  · skip
    have hsub := hs r9 u hp
    have hOu := hsub _ _ hO
    refine lv_i2l (v := (r9).toInt64) hx hb dL_degree_8 rfl ?_
    refine xw_lastN C hw hS hOu (show 0 < 1 by decide) (by decide) dL_degree_9 (fun H locs hw hS => ?_)
    refine lv_goto (tgt := 17) hx hb dL_degree_10 (by decide) ?_
    refine lv_iconst (v := 0) hx hb dL_degree_17 (by decide) ?_
    exact xw_iret C hw hS (Nat.le_of_ble_eq_true rfl) (Nat.le_of_ble_eq_true rfl) (⟨Or.inl ⟨rfl, r9, u, hp, rfl⟩, hsub.out⟩) dL_degree_18

abbrev rmL_at : Room := { frames := 8, cells := 12, slots := 200, locals := 127 }
set_option maxHeartbeats 4000000 in
set_option maxRecDepth 100000 in
theorem kL_at (l : Launch) (G : xG) (B : Nat) (w : xM) (h O : Nat) (fo : Nat → Int64) (wr : xM) (post : Int32 → xM → Prop) (pE : String → xM → Prop) (fs : List Value) (hh : w h = some (.inr (3, fs))) (hO : wr O = some (xOc G fo)) (hs : ∀ v u, post v u → xSub wr u) (hsE : ∀ E u, pE E u → (E = eI) ∧ xSub wr u) (x : Int32) (z : Int32) (y : Int32) (hM : vx_Met l yX4_at wsX4_at rmX4_at (va_Pc [.ref h, .int x, .int z, .int y] (xBz G B w)) (va_Qi post (xE G B) (xA B)) (xXC G B pE) 12 200 (xA B)) : Met l yL_at wsL_at rmL_at (va_Pc [.ref h, .int x, .int z, .int y, .ref O] (xBz G B w)) (va_Qi (fun k u => xHp G O fo post Int32.toInt64 pE [(1, eI)] k u ∧ ∀ (a : Nat) (e : va_E), wr a = some e → a ≠ O → u a = some e) (xE G B) (xA B)) 12 200 (xA B) := by
  refine xl_start (own := RL) (mn := "at") (cc := cL_at) (nL := 6) (rt := (some .int)) (hh := [(0, 12, 15, 29)]) (by decide) rfl rfl rfl (Nat.le_of_ble_eq_true rfl) ?_
  intro p ev s m below meth cd ls C hl hw hS hz htab
  obtain ⟨hx, hb, -, -, -, hts, -, -, -, -⟩ := id C
  have hl : lv_has ls 6 [(0, .ref h), (1, .int x), (2, .int z), (3, .int y), (4, .ref O)] := hl
  refine lv_aload hx hb dL_at_0 (lv_at hl 4 rfl) ?_
  refine lv_iconst (v := 0) hx hb dL_at_2 (by decide) ?_
  refine xw_ti (y := (nI 0)) (nI_0.symm) ?_
  refine lv_aload_n hx hb dL_at_3 rfl (lv_at hl 0 rfl) ?_
  refine lv_iload_n hx hb dL_at_4 rfl (lv_at hl 1 rfl) ?_
  refine lv_iload_n hx hb dL_at_5 rfl (lv_at hl 2 rfl) ?_
  refine lv_iload_n hx hb dL_at_6 rfl (lv_at hl 3 rfl) ?_
  refine xl_ci (xx_V (n := 3) (rest := [.int (nI 0), .ref O]) C hw hz hM gL_at_X4_at rfl rfl rfl (by decide +kernel) ⟨Nat.le_of_ble_eq_true rfl, Nat.le_of_ble_eq_true rfl⟩ hh rfl rfl hl.1 rfl (Nat.le_of_ble_eq_true rfl) dL_at_7 ⟨Nat.le_of_ble_eq_true rfl, Nat.le_of_ble_eq_true rfl⟩ hS) hS (fun E u H locs q9 ce hp hw hS g1 g2 g3 => ?_) (fun r9 u H locs hp hw hS => ?_)
  · skip
    obtain ⟨hE, hsub⟩ := hsE E u hp
    subst hE
    refine xl_catch C hz (E := eI) (by decide +kernel) [] (0, 12, 15, 29) [] htab (fun z hz9 => absurd hz9 List.not_mem_nil) (by decide) (by decide) (by decide +kernel) g1 g2 g3 ?_
    refine lv_astore (lv' := [(5, .ref q9), (0, .ref h), (1, .int x), (2, .int z), (3, .int y), (4, .ref O)]) hx hb dL_at_15 hl (by decide) rfl (fun ls hl => ?_)
    refine lv_iconst (v := 1) hx hb dL_at_17 (by decide) ?_
    exact xw_iret C hw hS (Nat.le_of_ble_eq_true rfl) (Nat.le_of_ble_eq_true rfl) (⟨Or.inr (Or.inl ⟨rfl, hp⟩), fun a x hx _ => hsub a x hx⟩) dL_at_18
  · skip
    have hsub := hs r9 u hp
    have hOu := hsub _ _ hO
    refine lv_i2l (v := (r9).toInt64) hx hb dL_at_10 rfl ?_
    refine xw_lastN C hw hS hOu (show 0 < 1 by decide) (by decide) dL_at_11 (fun H locs hw hS => ?_)
    refine lv_goto (tgt := 19) hx hb dL_at_12 (by decide) ?_
    refine lv_iconst (v := 0) hx hb dL_at_19 (by decide) ?_
    exact xw_iret C hw hS (Nat.le_of_ble_eq_true rfl) (Nat.le_of_ble_eq_true rfl) (⟨Or.inl ⟨rfl, r9, u, hp, rfl⟩, hsub.out⟩) dL_at_20

abbrev rmL_value : Room := { frames := 8, cells := 12, slots := 200, locals := 130 }
set_option maxHeartbeats 4000000 in
set_option maxRecDepth 100000 in
theorem kL_value (l : Launch) (G : xG) (B : Nat) (w : xM) (h O : Nat) (fo : Nat → Int64) (wr : xM) (post : Int32 → xM → Prop) (pE : String → xM → Prop) (fs : List Value) (hh : w h = some (.inr (3, fs))) (hO : wr O = some (xOc G fo)) (hs : ∀ v u, post v u → xSub wr u) (hsE : ∀ E u, pE E u → (E = eI) ∧ xSub wr u) (x : Int32) (v : Int64) (hM : vx_Met l yX4_value wsX4_value rmX4_value (va_Pc [.ref h, .int x, .long v] (xBz G B w)) (va_Qi post (xE G B) (xA B)) (xXC G B pE) 12 200 (xA B)) : Met l yL_value wsL_value rmL_value (va_Pc [.ref h, .int x, .long v, .ref O] (xBz G B w)) (va_Qi (fun k u => xHp G O fo post Int32.toInt64 pE [(1, eI)] k u ∧ ∀ (a : Nat) (e : va_E), wr a = some e → a ≠ O → u a = some e) (xE G B) (xA B)) 12 200 (xA B) := by
  refine xl_start (own := RL) (mn := "value") (cc := cL_value) (nL := 6) (rt := (some .int)) (hh := [(0, 11, 14, 29)]) (by decide) rfl rfl rfl (Nat.le_of_ble_eq_true rfl) ?_
  intro p ev s m below meth cd ls C hl hw hS hz htab
  obtain ⟨hx, hb, -, -, -, hts, -, -, -, -⟩ := id C
  have hl : lv_has ls 6 [(0, .ref h), (1, .int x), (2, .long v), (4, .ref O)] := hl
  refine lv_aload hx hb dL_value_0 (lv_at hl 3 rfl) ?_
  refine lv_iconst (v := 0) hx hb dL_value_2 (by decide) ?_
  refine xw_ti (y := (nI 0)) (nI_0.symm) ?_
  refine lv_aload_n hx hb dL_value_3 rfl (lv_at hl 0 rfl) ?_
  refine lv_iload_n hx hb dL_value_4 rfl (lv_at hl 1 rfl) ?_
  refine lv_lload_n hx hb dL_value_5 rfl (lv_at hl 2 rfl) ?_
  refine xl_ci (xx_V (n := 2) (rest := [.int (nI 0), .ref O]) C hw hz hM gL_value_X4_value rfl rfl rfl (by decide +kernel) ⟨Nat.le_of_ble_eq_true rfl, Nat.le_of_ble_eq_true rfl⟩ hh rfl rfl hl.1 rfl (Nat.le_of_ble_eq_true rfl) dL_value_6 ⟨Nat.le_of_ble_eq_true rfl, Nat.le_of_ble_eq_true rfl⟩ hS) hS (fun E u H locs q9 ce hp hw hS g1 g2 g3 => ?_) (fun r9 u H locs hp hw hS => ?_)
  · skip
    obtain ⟨hE, hsub⟩ := hsE E u hp
    subst hE
    refine xl_catch C hz (E := eI) (by decide +kernel) [] (0, 11, 14, 29) [] htab (fun z hz9 => absurd hz9 List.not_mem_nil) (by decide) (by decide) (by decide +kernel) g1 g2 g3 ?_
    refine lv_astore (lv' := [(5, .ref q9), (0, .ref h), (1, .int x), (2, .long v), (4, .ref O)]) hx hb dL_value_14 hl (by decide) rfl (fun ls hl => ?_)
    refine lv_iconst (v := 1) hx hb dL_value_16 (by decide) ?_
    exact xw_iret C hw hS (Nat.le_of_ble_eq_true rfl) (Nat.le_of_ble_eq_true rfl) (⟨Or.inr (Or.inl ⟨rfl, hp⟩), fun a x hx _ => hsub a x hx⟩) dL_value_17
  · skip
    have hsub := hs r9 u hp
    have hOu := hsub _ _ hO
    refine lv_i2l (v := (r9).toInt64) hx hb dL_value_9 rfl ?_
    refine xw_lastN C hw hS hOu (show 0 < 1 by decide) (by decide) dL_value_10 (fun H locs hw hS => ?_)
    refine lv_goto (tgt := 18) hx hb dL_value_11 (by decide) ?_
    refine lv_iconst (v := 0) hx hb dL_value_18 (by decide) ?_
    exact xw_iret C hw hS (Nat.le_of_ble_eq_true rfl) (Nat.le_of_ble_eq_true rfl) (⟨Or.inl ⟨rfl, r9, u, hp, rfl⟩, hsub.out⟩) dL_value_19

abbrev rmL_same : Room := { frames := 8, cells := 12, slots := 200, locals := 128 }
set_option maxHeartbeats 4000000 in
set_option maxRecDepth 100000 in
theorem kL_same (l : Launch) (G : xG) (B : Nat) (w : xM) (h O : Nat) (fo : Nat → Int64) (wr : xM) (post : Int32 → xM → Prop) (pE : String → xM → Prop) (fs : List Value) (hh : w h = some (.inr (3, fs))) (hO : wr O = some (xOc G fo)) (hs : ∀ v u, post v u → xSub wr u) (hsE : ∀ E u, pE E u → (E = eI) ∧ xSub wr u) (x : Int32) (y : Int32) (hM : vx_Met l yX4_same wsX4_same rmX4_same (va_Pc [.ref h, .int x, .int y] (xBz G B w)) (va_Qi post (xE G B) (xA B)) (xXC G B pE) 12 200 (xA B)) : Met l yL_same wsL_same rmL_same (va_Pc [.ref h, .int x, .int y, .ref O] (xBz G B w)) (va_Qi (fun k u => xHp G O fo post xZl pE [(1, eI)] k u ∧ ∀ (a : Nat) (e : va_E), wr a = some e → a ≠ O → u a = some e) (xE G B) (xA B)) 12 200 (xA B) := by
  refine xl_start (own := RL) (mn := "same") (cc := cL_same) (nL := 5) (rt := (some .int)) (hh := [(0, 17, 20, 29)]) (by decide) rfl rfl rfl (Nat.le_of_ble_eq_true rfl) ?_
  intro p ev s m below meth cd ls C hl hw hS hz htab
  obtain ⟨hx, hb, -, -, -, hts, -, -, -, -⟩ := id C
  have hl : lv_has ls 5 [(0, .ref h), (1, .int x), (2, .int y), (3, .ref O)] := hl
  refine lv_aload_n hx hb dL_same_0 rfl (lv_at hl 3 rfl) ?_
  refine lv_iconst (v := 0) hx hb dL_same_1 (by decide) ?_
  refine xw_ti (y := (nI 0)) (nI_0.symm) ?_
  refine lv_aload_n hx hb dL_same_2 rfl (lv_at hl 0 rfl) ?_
  refine lv_iload_n hx hb dL_same_3 rfl (lv_at hl 1 rfl) ?_
  refine lv_iload_n hx hb dL_same_4 rfl (lv_at hl 2 rfl) ?_
  refine xl_ci (xx_V (n := 2) (rest := [.int (nI 0), .ref O]) C hw hz hM gL_same_X4_same rfl rfl rfl (by decide +kernel) ⟨Nat.le_of_ble_eq_true rfl, Nat.le_of_ble_eq_true rfl⟩ hh rfl rfl hl.1 rfl (Nat.le_of_ble_eq_true rfl) dL_same_5 ⟨Nat.le_of_ble_eq_true rfl, Nat.le_of_ble_eq_true rfl⟩ hS) hS (fun E u H locs q9 ce hp hw hS g1 g2 g3 => ?_) (fun r9 u H locs hp hw hS => ?_)
  · skip
    obtain ⟨hE, hsub⟩ := hsE E u hp
    subst hE
    refine xl_catch C hz (E := eI) (by decide +kernel) [] (0, 17, 20, 29) [] htab (fun z hz9 => absurd hz9 List.not_mem_nil) (by decide) (by decide) (by decide +kernel) g1 g2 g3 ?_
    refine lv_astore (lv' := [(4, .ref q9), (0, .ref h), (1, .int x), (2, .int y), (3, .ref O)]) hx hb dL_same_20 hl (by decide) rfl (fun ls hl => ?_)
    refine lv_iconst (v := 1) hx hb dL_same_22 (by decide) ?_
    exact xw_iret C hw hS (Nat.le_of_ble_eq_true rfl) (Nat.le_of_ble_eq_true rfl) (⟨Or.inr (Or.inl ⟨rfl, hp⟩), fun a x hx _ => hsub a x hx⟩) dL_same_23
  · skip
    have hsub := hs r9 u hp
    have hOu := hsub _ _ hO
    refine lv_if_eq (tgt := 15) hx hb dL_same_8 (by decide) (fun hc => ?_) (fun hc => ?_)
    · skip
      refine lv_lconst (v := 0) hx hb dL_same_15 (by decide) ?_
      refine xw_lastN C hw hS hOu (show 0 < 1 by decide) (by decide) dL_same_16 (fun H locs hw hS => ?_)
      refine lv_goto (tgt := 24) hx hb dL_same_17 (by decide) ?_
      refine lv_iconst (v := 0) hx hb dL_same_24 (by decide) ?_
      exact xw_iret C hw hS (Nat.le_of_ble_eq_true rfl) (Nat.le_of_ble_eq_true rfl) (⟨Or.inl ⟨rfl, r9, u, hp, by rw [show xZl r9 = 0 from if_pos hc]⟩, hsub.out⟩) dL_same_25
    · skip
      refine lv_lconst (v := 1) hx hb dL_same_11 (by decide) ?_
      refine lv_goto (tgt := 16) hx hb dL_same_12 (by decide) ?_
      refine xw_lastN C hw hS hOu (show 0 < 1 by decide) (by decide) dL_same_16 (fun H locs hw hS => ?_)
      refine lv_goto (tgt := 24) hx hb dL_same_17 (by decide) ?_
      refine lv_iconst (v := 0) hx hb dL_same_24 (by decide) ?_
      exact xw_iret C hw hS (Nat.le_of_ble_eq_true rfl) (Nat.le_of_ble_eq_true rfl) (⟨Or.inl ⟨rfl, r9, u, hp, by rw [show xZl r9 = 1 from if_neg hc]⟩, hsub.out⟩) dL_same_25
