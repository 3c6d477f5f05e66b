/-! ===== the constructors (laid by wip/whole/m_init.py) ===== -/
theorem xnoadd {w : xM} {pa ra : Nat → Nat} {N p1 r1 : Nat} (h : ∀ j, j < N → w (pa j) = none ∧ w (ra j) = none) (h1 : w p1 = none) (h2 : w r1 = none) : ∀ j, j < N + 1 → w (va_up pa N p1 j) = none ∧ w (va_up ra N r1 j) = none := fun j hj => by
  by_cases hN : j = N
  · subst hN; rw [va_up_self, va_up_self]; exact ⟨h1, h2⟩
  · rw [va_up_ne _ _ hN, va_up_ne _ _ hN]; exact h j (by omega)
theorem xcpadd {cp : Nat → Nat} {ps : Nat → xP} {N : Nat} (h : ∀ j, j < N → cp j = 64 ∧ ps j = fun _ => 0) : ∀ j, j < N + 1 → va_up cp N 64 j = 64 ∧ va_up ps N (fun _ => 0) j = fun _ => 0 := fun j hj => by
  by_cases hN : j = N
  · subst hN; rw [va_up_self, va_up_self]; exact ⟨rfl, rfl⟩
  · rw [va_up_ne _ _ hN, va_up_ne _ _ hN]; exact h j (by omega)
abbrev rmX0_init : Room := { frames := 2, cells := 31, slots := 1006, locals := 42 }
theorem iX0_init_X0 : ∀ w ∈ wsX00, w ∈ wsX0_init := by decide +kernel
theorem iX0_init_X3 : ∀ w ∈ wsX30, w ∈ wsX0_init := by decide +kernel
set_option maxHeartbeats 4000000 in
set_option maxRecDepth 100000 in
theorem kX0_init (l : Launch) (G : xG) (B : Nat) (w : xM) (h : Nat) (wr : xM) (hh : w h = some (.inr (0, [.null, .null, .null, .null, .null, .null, .null, .null]))) (hr : ∀ (a : Nat) (e : va_E), wr a = some e → w a = some e ∧ a ≠ h) (hr2 : ∀ (a : Nat) (e : va_E), w a = some e → a ≠ h → wr a = some e) : Met l yX0_init wsX0_init rmX0_init (va_Pc [.ref h] (xBq G B w)) (va_Qv (fun u => ∃ (qa ea ta : Nat) (pa ra cp : Nat → Nat) (cf : Nat → Option Nat) (ps : Nat → xP), xBd G h u (xu (xu (xu wr qa (.inl (G.2 3, 9, xq cf))) ea (.inl (G.2 0, 9, .inl (fun _ => 0)))) ta (.inl (G.2 2, 64, .inl (fun _ => 0)))) pa ra cp ps 14 ∧ (∀ k, k < 9 → cf k = some (pa k)) ∧ (∀ k, k < 14 → cp k = 64 ∧ ps k = fun _ => 0) ∧ w qa = none ∧ w ea = none ∧ w ta = none ∧ qa ≠ ea ∧ qa ≠ ta ∧ ea ≠ ta ∧ (∀ k, k < 14 → w (pa k) = none ∧ w (ra k) = none) ∧ u h = some (.inr (0, [.ref qa, .ref (pa 9), .ref (pa 10), .ref (pa 11), .ref (pa 12), .ref (pa 13), .ref ea, .ref ta]))) (xE G B) (xA B)) 31 1006 (xA B) := by
  refine xq_start (own := RX0) (mn := "<init>") (cc := cX0_init) (nL := 2) (rt := none) (by decide) rfl rfl rfl (Nat.le_of_ble_eq_true rfl) ?_
  intro p ev s m below meth cd ls C hl hw hS hao
  obtain ⟨hx, hb, -, -, -, hts, -, -, -, -⟩ := id C
  have hl : lv_has ls 2 [(0, .ref h)] := hl
  have hB : xBd G h w wr (fun _ => 0) (fun _ => 0) (fun _ => 64) (fun _ => fun _ => 0) 0 := xBd.start hr
  refine lv_aload_n hx hb dX0_init_0 rfl (lv_at hl 0 rfl) ?_
  refine xw_obj C hl.1 (by decide +kernel) (by decide +kernel) (by decide +kernel) (Nat.le_of_ble_eq_true rfl) (Nat.le_of_ble_eq_true rfl) dX0_init_1 ?_
  refine lv_aload_n hx hb dX0_init_4 rfl (lv_at hl 0 rfl) ?_
  refine lv_bipush (v := 9) hx hb dX0_init_5 (by decide) ?_
  refine xw_ti (y := (nI 9)) (by decide) ?_
  refine xq_newq C hw hS 3 (by decide +kernel) hao.2 rfl (N' := 9) (nI_pos (by decide)) (nI_clamp (by decide)) (by decide) (Nat.le_of_ble_eq_true rfl) (Nat.le_of_ble_eq_true rfl) dX0_init_7 (fun qa H hqa hw hS => ?_)
  have q1 : qa ≠ h := Ne.symm (x_nn hh hqa)
  have hB := hB.arr hqa q1 (.inl (G.2 3, 9, xq (fun _ => none)))
  have hh := (xu_n w (.inl (G.2 3, 9, xq (fun _ => none))) (Ne.symm q1)).trans hh
  refine xw_putF C hw hS hh (ci := 0) rfl iX0_init_X0 tyX0 tyX0_ok nmX0 0 (by decide) (by decide +kernel) rfl rfl rfl (ty := (.array (.object "CertificateSums$Polynomial"))) (by decide +kernel) rfl rfl (Nat.le_of_ble_eq_true rfl) dX0_init_10 (fun H locs hw hS => ?_)
  have hw : xW G B (xu _ h (.inr (0, [.ref qa, .null, .null, .null, .null, .null, .null, .null]))) H := hw
  obtain ⟨hB, hh⟩ := hB.put2 (.inr (0, [.ref qa, .null, .null, .null, .null, .null, .null, .null]))
  refine lv_iconst (v := 0) hx hb dX0_init_13 (by decide) ?_
  refine xw_ti (y := (nI 0)) (nI_0.symm) ?_
  refine lv_istore_n (lv' := [(1, .int (nI 0)), (0, .ref h)]) hx hb dX0_init_14 rfl hl (by decide) rfl (fun ls hl => ?_)
  have loop : ∀ (d k : Nat) (w1 : xM) (pa ra cp : Nat → Nat) (ps : Nat → xP) (cf : Nat → Option Nat) (cl sl : Nat) (ls : Array Slot) (H : Heap) (locs : List Loc), k + d = 9 → cl = 1 + 2 * k → sl = 9 + 66 * k → xBd G h w1 (xu wr qa (.inl (G.2 3, 9, xq cf))) pa ra cp ps k → (∀ j, j < k → cf j = some (pa j)) → (∀ j, j < k → cp j = 64 ∧ ps j = fun _ => 0) → (∀ j, j < k → w (pa j) = none ∧ w (ra j) = none) → w1 h = some (.inr (0, [.ref qa, .null, .null, .null, .null, .null, .null, .null])) → xW G B w1 H → va_S (xA B) s.heap H locs → lv_has ls 2 [(1, .int (nI k)), (0, .ref h)] → W p l ev rmX0_init s m [.ref h].toArray below meth cd H locs cl sl (MQ below (va_Qv (fun u => ∃ (qa ea ta : Nat) (pa ra cp : Nat → Nat) (cf : Nat → Option Nat) (ps : Nat → xP), xBd G h u (xu (xu (xu wr qa (.inl (G.2 3, 9, xq cf))) ea (.inl (G.2 0, 9, .inl (fun _ => 0)))) ta (.inl (G.2 2, 64, .inl (fun _ => 0)))) pa ra cp ps 14 ∧ (∀ k, k < 9 → cf k = some (pa k)) ∧ (∀ k, k < 14 → cp k = 64 ∧ ps k = fun _ => 0) ∧ w qa = none ∧ w ea = none ∧ w ta = none ∧ qa ≠ ea ∧ qa ≠ ta ∧ ea ≠ ta ∧ (∀ k, k < 14 → w (pa k) = none ∧ w (ra k) = none) ∧ u h = some (.inr (0, [.ref qa, .ref (pa 9), .ref (pa 10), .ref (pa 11), .ref (pa 12), .ref (pa 13), .ref ea, .ref ta]))) (xE G B) (xA B)) [.ref h].toArray s 31 1006 (xA B)) (F0 m 15 ls []) := by
    intro d
    induction d with
    | zero =>
      intro k w1 pa ra cp ps cf cl sl ls H locs hk hcl hsl hB hcf hcp hno hh hw hS hl
      obtain rfl : k = 9 := by omega
      obtain rfl : cl = 19 := hcl
      obtain rfl : sl = 603 := hsl
      have hqw := hB.r (xu_s _ _ _)
      refine lv_iload_n hx hb dX0_init_15 rfl (lv_at hl 0 rfl) ?_
      refine lv_aload_n hx hb dX0_init_16 rfl (lv_at hl 1 rfl) ?_
      refine xw_get C hw hh (ci := 0) rfl iX0_init_X0 0 (by decide) (by decide +kernel) rfl dX0_init_17 ?_
      refine xw_alen C hw 3 rfl hqw (N := 9) rfl dX0_init_20 ?_
      refine lv_icmp_ge (tgt := 45) hx hb dX0_init_21 (by decide) (fun _ => ?_) (fun hc => absurd (by decide) hc)
      refine lv_aload_n hx hb dX0_init_45 rfl (lv_at hl 1 rfl) ?_
      have fresh : ∀ (w2 : xM) (wr2 : xM) (pa ra cp : Nat → Nat) (ps : Nat → xP) (N : Nat), xBd G h w2 wr2 pa ra cp ps N → (∀ a e, wr a = some e → wr2 a = some e) → (∃ e, w2 h = some e) → ∀ a, w2 a = none → w a = none := by
        intro w2 wr2 pa ra cp ps N b h2 h3 a ha
        cases hwa : w a with
        | none => rfl
        | some e =>
          by_cases hah : a = h
          · obtain ⟨e3, h3⟩ := h3; rw [hah, h3] at ha; cases ha
          · have := b.r (h2 a e (hr2 a e hwa hah)); rw [this] at ha; cases ha
      have hq9 : ∀ a e, wr a = some e → (xu wr qa (.inl (G.2 3, 9, xq cf))) a = some e := fun a e he => (xu_n _ _ (x_nn (hr a e he).1 hqa)).trans he
      have hB0 := hB
      have hh0 := hh
      refine xw_new C hw hS (ci := 2) rfl iX0_init_X3 tyX3 tyX3_ok (by decide +kernel) (by decide +kernel) (by decide +kernel) (fs := [.null, .int 0]) (fun j hj => by rcases (show j = 0 ∨ j = 1 by omega) with rfl | rfl <;> rfl) (Nat.le_of_ble_eq_true rfl) (Nat.le_of_ble_eq_true rfl) dX0_init_46 (fun p1 H hp1 hw hS => ?_)
      refine lv_dup hx hb dX0_init_49 rfl ?_
      refine lv_bipush (v := 64) hx hb dX0_init_50 (by decide) ?_
      refine xw_ti (y := (nI 64)) (by decide) ?_
      refine xw_cv (xw_I (n := 1) (rest := [.ref p1, .ref h]) C hw (kX3_init l G B _ p1 64 (xu_s _ _ _) (by decide)) gX0_init_X3_init rfl rfl rfl (by decide +kernel) (by decide +kernel) (by decide +kernel) rfl (by decide +kernel) ⟨Nat.le_of_ble_eq_true rfl, Nat.le_of_ble_eq_true rfl⟩ rfl hl.1 rfl (Nat.le_of_ble_eq_true rfl) dX0_init_52 ⟨Nat.le_of_ble_eq_true rfl, Nat.le_of_ble_eq_true rfl⟩ hS) hS (fun u1 H locs hq hw hS => ?_)
      obtain ⟨r1, hr1, d1, hu⟩ := hq
      rw [hu, xset_x d1] at hw
      rw [xu_n _ _ d1] at hr1
      have hB := hB.add (n := 64) (f := fun _ => 0) hp1 hr1 d1 hh (xsup_z _) (by decide)
      have hh := (xset_o (G := G) (n := 64) (f := fun _ => 0) (x_nn hh hp1) (x_nn hh hr1)).trans hh
      have f1 := fresh _ _ _ _ _ _ _ hB0 hq9 ⟨_, hh0⟩ _ hp1
      have f2 := fresh _ _ _ _ _ _ _ hB0 hq9 ⟨_, hh0⟩ _ hr1
      have hno := hno |> fun (hno : ∀ j, j < 9 → _) => xnoadd hno f1 f2
      have hcp := hcp |> fun (hcp : ∀ j, j < 9 → _) => xcpadd hcp
      obtain ⟨pp0, hpp0⟩ : ∃ z, z = p1 := ⟨_, rfl⟩
      subst hpp0
      refine xw_putF C hw hS hh (ci := 0) rfl iX0_init_X0 tyX0 tyX0_ok nmX0 1 (by decide) (by decide +kernel) rfl rfl rfl (ty := (.object "CertificateSums$Polynomial")) (by decide +kernel) rfl rfl (Nat.le_of_ble_eq_true rfl) dX0_init_55 (fun H locs hw hS => ?_)
      have hw : xW G B (xu _ h (.inr (0, [.ref qa, .ref pp0, .null, .null, .null, .null, .null, .null]))) H := hw
      obtain ⟨hB, hh⟩ := hB.put2 (.inr (0, [.ref qa, .ref pp0, .null, .null, .null, .null, .null, .null]))
      refine lv_aload_n hx hb dX0_init_58 rfl (lv_at hl 1 rfl) ?_
      have hB0 := hB
      have hh0 := hh
      refine xw_new C hw hS (ci := 2) rfl iX0_init_X3 tyX3 tyX3_ok (by decide +kernel) (by decide +kernel) (by decide +kernel) (fs := [.null, .int 0]) (fun j hj => by rcases (show j = 0 ∨ j = 1 by omega) with rfl | rfl <;> rfl) (Nat.le_of_ble_eq_true rfl) (Nat.le_of_ble_eq_true rfl) dX0_init_59 (fun p1 H hp1 hw hS => ?_)
      refine lv_dup hx hb dX0_init_62 rfl ?_
      refine lv_bipush (v := 64) hx hb dX0_init_63 (by decide) ?_
      refine xw_ti (y := (nI 64)) (by decide) ?_
      refine xw_cv (xw_I (n := 1) (rest := [.ref p1, .ref h]) C hw (kX3_init l G B _ p1 64 (xu_s _ _ _) (by decide)) gX0_init_X3_init rfl rfl rfl (by decide +kernel) (by decide +kernel) (by decide +kernel) rfl (by decide +kernel) ⟨Nat.le_of_ble_eq_true rfl, Nat.le_of_ble_eq_true rfl⟩ rfl hl.1 rfl (Nat.le_of_ble_eq_true rfl) dX0_init_65 ⟨Nat.le_of_ble_eq_true rfl, Nat.le_of_ble_eq_true rfl⟩ hS) hS (fun u1 H locs hq hw hS => ?_)
      obtain ⟨r1, hr1, d1, hu⟩ := hq
      rw [hu, xset_x d1] at hw
      rw [xu_n _ _ d1] at hr1
      have hB := hB.add (n := 64) (f := fun _ => 0) hp1 hr1 d1 hh (xsup_z _) (by decide)
      have hh := (xset_o (G := G) (n := 64) (f := fun _ => 0) (x_nn hh hp1) (x_nn hh hr1)).trans hh
      have f1 := fresh _ _ _ _ _ _ _ hB0 hq9 ⟨_, hh0⟩ _ hp1
      have f2 := fresh _ _ _ _ _ _ _ hB0 hq9 ⟨_, hh0⟩ _ hr1
      have hno := hno |> fun (hno : ∀ j, j < 10 → _) => xnoadd hno f1 f2
      have hcp := hcp |> fun (hcp : ∀ j, j < 10 → _) => xcpadd hcp
      obtain ⟨pp1, hpp1⟩ : ∃ z, z = p1 := ⟨_, rfl⟩
      subst hpp1
      refine xw_putF C hw hS hh (ci := 0) rfl iX0_init_X0 tyX0 tyX0_ok nmX0 2 (by decide) (by decide +kernel) rfl rfl rfl (ty := (.object "CertificateSums$Polynomial")) (by decide +kernel) rfl rfl (Nat.le_of_ble_eq_true rfl) dX0_init_68 (fun H locs hw hS => ?_)
      have hw : xW G B (xu _ h (.inr (0, [.ref qa, .ref pp0, .ref pp1, .null, .null, .null, .null, .null]))) H := hw
      obtain ⟨hB, hh⟩ := hB.put2 (.inr (0, [.ref qa, .ref pp0, .ref pp1, .null, .null, .null, .null, .null]))
      refine lv_aload_n hx hb dX0_init_71 rfl (lv_at hl 1 rfl) ?_
      have hB0 := hB
      have hh0 := hh
      refine xw_new C hw hS (ci := 2) rfl iX0_init_X3 tyX3 tyX3_ok (by decide +kernel) (by decide +kernel) (by decide +kernel) (fs := [.null, .int 0]) (fun j hj => by rcases (show j = 0 ∨ j = 1 by omega) with rfl | rfl <;> rfl) (Nat.le_of_ble_eq_true rfl) (Nat.le_of_ble_eq_true rfl) dX0_init_72 (fun p1 H hp1 hw hS => ?_)
      refine lv_dup hx hb dX0_init_75 rfl ?_
      refine lv_bipush (v := 64) hx hb dX0_init_76 (by decide) ?_
      refine xw_ti (y := (nI 64)) (by decide) ?_
      refine xw_cv (xw_I (n := 1) (rest := [.ref p1, .ref h]) C hw (kX3_init l G B _ p1 64 (xu_s _ _ _) (by decide)) gX0_init_X3_init rfl rfl rfl (by decide +kernel) (by decide +kernel) (by decide +kernel) rfl (by decide +kernel) ⟨Nat.le_of_ble_eq_true rfl, Nat.le_of_ble_eq_true rfl⟩ rfl hl.1 rfl (Nat.le_of_ble_eq_true rfl) dX0_init_78 ⟨Nat.le_of_ble_eq_true rfl, Nat.le_of_ble_eq_true rfl⟩ hS) hS (fun u1 H locs hq hw hS => ?_)
      obtain ⟨r1, hr1, d1, hu⟩ := hq
      rw [hu, xset_x d1] at hw
      rw [xu_n _ _ d1] at hr1
      have hB := hB.add (n := 64) (f := fun _ => 0) hp1 hr1 d1 hh (xsup_z _) (by decide)
      have hh := (xset_o (G := G) (n := 64) (f := fun _ => 0) (x_nn hh hp1) (x_nn hh hr1)).trans hh
      have f1 := fresh _ _ _ _ _ _ _ hB0 hq9 ⟨_, hh0⟩ _ hp1
      have f2 := fresh _ _ _ _ _ _ _ hB0 hq9 ⟨_, hh0⟩ _ hr1
      have hno := hno |> fun (hno : ∀ j, j < 11 → _) => xnoadd hno f1 f2
      have hcp := hcp |> fun (hcp : ∀ j, j < 11 → _) => xcpadd hcp
      obtain ⟨pp2, hpp2⟩ : ∃ z, z = p1 := ⟨_, rfl⟩
      subst hpp2
      refine xw_putF C hw hS hh (ci := 0) rfl iX0_init_X0 tyX0 tyX0_ok nmX0 3 (by decide) (by decide +kernel) rfl rfl rfl (ty := (.object "CertificateSums$Polynomial")) (by decide +kernel) rfl rfl (Nat.le_of_ble_eq_true rfl) dX0_init_81 (fun H locs hw hS => ?_)
      have hw : xW G B (xu _ h (.inr (0, [.ref qa, .ref pp0, .ref pp1, .ref pp2, .null, .null, .null, .null]))) H := hw
      obtain ⟨hB, hh⟩ := hB.put2 (.inr (0, [.ref qa, .ref pp0, .ref pp1, .ref pp2, .null, .null, .null, .null]))
      refine lv_aload_n hx hb dX0_init_84 rfl (lv_at hl 1 rfl) ?_
      have hB0 := hB
      have hh0 := hh
      refine xw_new C hw hS (ci := 2) rfl iX0_init_X3 tyX3 tyX3_ok (by decide +kernel) (by decide +kernel) (by decide +kernel) (fs := [.null, .int 0]) (fun j hj => by rcases (show j = 0 ∨ j = 1 by omega) with rfl | rfl <;> rfl) (Nat.le_of_ble_eq_true rfl) (Nat.le_of_ble_eq_true rfl) dX0_init_85 (fun p1 H hp1 hw hS => ?_)
      refine lv_dup hx hb dX0_init_88 rfl ?_
      refine lv_bipush (v := 64) hx hb dX0_init_89 (by decide) ?_
      refine xw_ti (y := (nI 64)) (by decide) ?_
      refine xw_cv (xw_I (n := 1) (rest := [.ref p1, .ref h]) C hw (kX3_init l G B _ p1 64 (xu_s _ _ _) (by decide)) gX0_init_X3_init rfl rfl rfl (by decide +kernel) (by decide +kernel) (by decide +kernel) rfl (by decide +kernel) ⟨Nat.le_of_ble_eq_true rfl, Nat.le_of_ble_eq_true rfl⟩ rfl hl.1 rfl (Nat.le_of_ble_eq_true rfl) dX0_init_91 ⟨Nat.le_of_ble_eq_true rfl, Nat.le_of_ble_eq_true rfl⟩ hS) hS (fun u1 H locs hq hw hS => ?_)
      obtain ⟨r1, hr1, d1, hu⟩ := hq
      rw [hu, xset_x d1] at hw
      rw [xu_n _ _ d1] at hr1
      have hB := hB.add (n := 64) (f := fun _ => 0) hp1 hr1 d1 hh (xsup_z _) (by decide)
      have hh := (xset_o (G := G) (n := 64) (f := fun _ => 0) (x_nn hh hp1) (x_nn hh hr1)).trans hh
      have f1 := fresh _ _ _ _ _ _ _ hB0 hq9 ⟨_, hh0⟩ _ hp1
      have f2 := fresh _ _ _ _ _ _ _ hB0 hq9 ⟨_, hh0⟩ _ hr1
      have hno := hno |> fun (hno : ∀ j, j < 12 → _) => xnoadd hno f1 f2
      have hcp := hcp |> fun (hcp : ∀ j, j < 12 → _) => xcpadd hcp
      obtain ⟨pp3, hpp3⟩ : ∃ z, z = p1 := ⟨_, rfl⟩
      subst hpp3
      refine xw_putF C hw hS hh (ci := 0) rfl iX0_init_X0 tyX0 tyX0_ok nmX0 4 (by decide) (by decide +kernel) rfl rfl rfl (ty := (.object "CertificateSums$Polynomial")) (by decide +kernel) rfl rfl (Nat.le_of_ble_eq_true rfl) dX0_init_94 (fun H locs hw hS => ?_)
      have hw : xW G B (xu _ h (.inr (0, [.ref qa, .ref pp0, .ref pp1, .ref pp2, .ref pp3, .null, .null, .null]))) H := hw
      obtain ⟨hB, hh⟩ := hB.put2 (.inr (0, [.ref qa, .ref pp0, .ref pp1, .ref pp2, .ref pp3, .null, .null, .null]))
      refine lv_aload_n hx hb dX0_init_97 rfl (lv_at hl 1 rfl) ?_
      have hB0 := hB
      have hh0 := hh
      refine xw_new C hw hS (ci := 2) rfl iX0_init_X3 tyX3 tyX3_ok (by decide +kernel) (by decide +kernel) (by decide +kernel) (fs := [.null, .int 0]) (fun j hj => by rcases (show j = 0 ∨ j = 1 by omega) with rfl | rfl <;> rfl) (Nat.le_of_ble_eq_true rfl) (Nat.le_of_ble_eq_true rfl) dX0_init_98 (fun p1 H hp1 hw hS => ?_)
      refine lv_dup hx hb dX0_init_101 rfl ?_
      refine lv_bipush (v := 64) hx hb dX0_init_102 (by decide) ?_
      refine xw_ti (y := (nI 64)) (by decide) ?_
      refine xw_cv (xw_I (n := 1) (rest := [.ref p1, .ref h]) C hw (kX3_init l G B _ p1 64 (xu_s _ _ _) (by decide)) gX0_init_X3_init rfl rfl rfl (by decide +kernel) (by decide +kernel) (by decide +kernel) rfl (by decide +kernel) ⟨Nat.le_of_ble_eq_true rfl, Nat.le_of_ble_eq_true rfl⟩ rfl hl.1 rfl (Nat.le_of_ble_eq_true rfl) dX0_init_104 ⟨Nat.le_of_ble_eq_true rfl, Nat.le_of_ble_eq_true rfl⟩ hS) hS (fun u1 H locs hq hw hS => ?_)
      obtain ⟨r1, hr1, d1, hu⟩ := hq
      rw [hu, xset_x d1] at hw
      rw [xu_n _ _ d1] at hr1
      have hB := hB.add (n := 64) (f := fun _ => 0) hp1 hr1 d1 hh (xsup_z _) (by decide)
      have hh := (xset_o (G := G) (n := 64) (f := fun _ => 0) (x_nn hh hp1) (x_nn hh hr1)).trans hh
      have f1 := fresh _ _ _ _ _ _ _ hB0 hq9 ⟨_, hh0⟩ _ hp1
      have f2 := fresh _ _ _ _ _ _ _ hB0 hq9 ⟨_, hh0⟩ _ hr1
      have hno := hno |> fun (hno : ∀ j, j < 13 → _) => xnoadd hno f1 f2
      have hcp := hcp |> fun (hcp : ∀ j, j < 13 → _) => xcpadd hcp
      obtain ⟨pp4, hpp4⟩ : ∃ z, z = p1 := ⟨_, rfl⟩
      subst hpp4
      refine xw_putF C hw hS hh (ci := 0) rfl iX0_init_X0 tyX0 tyX0_ok nmX0 5 (by decide) (by decide +kernel) rfl rfl rfl (ty := (.object "CertificateSums$Polynomial")) (by decide +kernel) rfl rfl (Nat.le_of_ble_eq_true rfl) dX0_init_107 (fun H locs hw hS => ?_)
      have hw : xW G B (xu _ h (.inr (0, [.ref qa, .ref pp0, .ref pp1, .ref pp2, .ref pp3, .ref pp4, .null, .null]))) H := hw
      obtain ⟨hB, hh⟩ := hB.put2 (.inr (0, [.ref qa, .ref pp0, .ref pp1, .ref pp2, .ref pp3, .ref pp4, .null, .null]))
      refine lv_aload_n hx hb dX0_init_110 rfl (lv_at hl 1 rfl) ?_
      refine lv_bipush (v := 9) hx hb dX0_init_111 (by decide) ?_
      refine xw_ti (y := (nI 9)) (by decide) ?_
      refine xw_newa C hw hS 0 (by decide +kernel) rfl (N' := 9) (a0 := (9, .inl (fun _ => 0))) (xz_i 9) (nI_pos (by decide)) (nI_clamp (by decide)) (by decide) (Nat.le_of_ble_eq_true rfl) (Nat.le_of_ble_eq_true rfl) dX0_init_113 (fun ea H hea hw hS => ?_)
      have q2 : ea ≠ h := Ne.symm (x_nn hh hea)
      have g1 := fresh _ _ _ _ _ _ _ hB hq9 ⟨_, hh⟩ _ hea
      have d91 : qa ≠ ea := x_nn (hB.r (xu_s _ _ _)) hea
      have hB := hB.arr hea q2 (.inl (G.2 0, 9, .inl (fun _ => 0)))
      have hh := (xu_n _ (.inl (G.2 0, 9, .inl (fun _ => 0))) (Ne.symm q2)).trans hh
      refine xw_putF C hw hS hh (ci := 0) rfl iX0_init_X0 tyX0 tyX0_ok nmX0 6 (by decide) (by decide +kernel) rfl rfl rfl (ty := (.array .int)) (by decide +kernel) rfl rfl (Nat.le_of_ble_eq_true rfl) dX0_init_115 (fun H locs hw hS => ?_)
      have hw : xW G B (xu _ h (.inr (0, [.ref qa, .ref pp0, .ref pp1, .ref pp2, .ref pp3, .ref pp4, .ref ea, .null]))) H := hw
      obtain ⟨hB, hh⟩ := hB.put2 (.inr (0, [.ref qa, .ref pp0, .ref pp1, .ref pp2, .ref pp3, .ref pp4, .ref ea, .null]))
      refine lv_aload_n hx hb dX0_init_118 rfl (lv_at hl 1 rfl) ?_
      refine lv_bipush (v := 64) hx hb dX0_init_119 (by decide) ?_
      refine xw_ti (y := (nI 64)) (by decide) ?_
      have hq9 : ∀ a e, wr a = some e → (xu (xu wr qa (.inl (G.2 3, 9, xq cf))) ea (.inl (G.2 0, 9, .inl (fun _ => 0)))) a = some e := fun a e he => (xu_n _ _ (x_nn (hr a e he).1 g1)).trans (hq9 a e he)
      refine xw_newa C hw hS 2 (by decide +kernel) rfl (N' := 64) (a0 := (64, .inl (fun _ => 0))) (xz_z 64) (nI_pos (by decide)) (nI_clamp (by decide)) (by decide) (Nat.le_of_ble_eq_true rfl) (Nat.le_of_ble_eq_true rfl) dX0_init_121 (fun ta H hta hw hS => ?_)
      have q2 : ta ≠ h := Ne.symm (x_nn hh hta)
      have g2 := fresh _ _ _ _ _ _ _ hB hq9 ⟨_, hh⟩ _ hta
      have d93 : ea ≠ ta := x_nn (hB.r (xu_s _ _ _)) hta
      have d92 : qa ≠ ta := x_nn (hB.r ((xu_n _ _ d91).trans (xu_s _ _ _))) hta
      have hB := hB.arr hta q2 (.inl (G.2 2, 64, .inl (fun _ => 0)))
      have hh := (xu_n _ (.inl (G.2 2, 64, .inl (fun _ => 0))) (Ne.symm q2)).trans hh
      refine xw_putF C hw hS hh (ci := 0) rfl iX0_init_X0 tyX0 tyX0_ok nmX0 7 (by decide) (by decide +kernel) rfl rfl rfl (ty := (.array .boolean)) (by decide +kernel) rfl rfl (Nat.le_of_ble_eq_true rfl) dX0_init_123 (fun H locs hw hS => ?_)
      have hw : xW G B (xu _ h (.inr (0, [.ref qa, .ref pp0, .ref pp1, .ref pp2, .ref pp3, .ref pp4, .ref ea, .ref ta]))) H := hw
      obtain ⟨hB, hh⟩ := hB.put2 (.inr (0, [.ref qa, .ref pp0, .ref pp1, .ref pp2, .ref pp3, .ref pp4, .ref ea, .ref ta]))
      exact xw_vret C hw hS (Nat.le_of_ble_eq_true rfl) (Nat.le_of_ble_eq_true rfl) (⟨qa, ea, ta, _, _, _, cf, _, hB, fun k hk => by rw [hcf k hk, va_up_ne _ _ (by omega), va_up_ne _ _ (by omega), va_up_ne _ _ (by omega), va_up_ne _ _ (by omega), va_up_ne _ _ (by omega)], hcp, hqa, g1, g2, d91, d92, d93, hno, hh⟩) dX0_init_126
    | succ d ih =>
      intro k w1 pa ra cp ps cf cl sl ls H locs hk hcl hsl hB hcf hcp hno hh hw hS hl
      have hqw := hB.r (xu_s _ _ _)
      have fr1 : ∀ a, w1 a = none → w a = none := by
        intro a ha
        cases hwa : w a with
        | none => rfl
        | some e =>
          by_cases hah : a = h
          · rw [hah, hh] at ha; cases ha
          · have := hB.r ((xu_n _ _ (x_nn hwa hqa)).trans (hr2 a e hwa hah)); rw [this] at ha; cases ha
      refine lv_iload_n hx hb dX0_init_15 rfl (lv_at hl 0 rfl) ?_
      refine lv_aload_n hx hb dX0_init_16 rfl (lv_at hl 1 rfl) ?_
      refine xw_get C hw hh (ci := 0) rfl iX0_init_X0 0 (by decide) (by decide +kernel) rfl dX0_init_17 ?_
      refine xw_alen C hw 3 rfl hqw (N := 9) rfl dX0_init_20 ?_
      refine lv_icmp_ge (tgt := 45) hx hb dX0_init_21 (by decide) (fun hc => absurd hc (fun q => absurd ((nI_leI (by omega) (by omega)).mp q) (by omega))) (fun _ => ?_)
      refine lv_aload_n hx hb dX0_init_24 rfl (lv_at hl 1 rfl) ?_
      refine xw_get C hw hh (ci := 0) rfl iX0_init_X0 0 (by decide) (by decide +kernel) rfl dX0_init_25 ?_
      refine lv_iload_n hx hb dX0_init_28 rfl (lv_at hl 0 rfl) ?_
      refine xw_new C hw hS (ci := 2) rfl iX0_init_X3 tyX3 tyX3_ok (by decide +kernel) (by decide +kernel) (by decide +kernel) (fs := [.null, .int 0]) (fun j hj => by rcases (show j = 0 ∨ j = 1 by omega) with rfl | rfl <;> rfl) (show cl + 1 ≤ 31 by omega) (show sl + 2 ≤ 1006 by omega) dX0_init_29 (fun p1 H hp1 hw hS => ?_)
      refine lv_dup hx hb dX0_init_32 rfl ?_
      refine lv_bipush (v := 64) hx hb dX0_init_33 (by decide) ?_
      refine xw_ti (y := (nI 64)) (by decide) ?_
      refine xw_cv (xw_I (n := 1) (rest := [.ref p1, .int (nI k), .ref qa]) C hw (kX3_init l G B _ p1 64 (xu_s _ _ _) (by decide)) gX0_init_X3_init rfl rfl rfl (by decide +kernel) (by decide +kernel) (by decide +kernel) rfl (by decide +kernel) ⟨Nat.le_of_ble_eq_true rfl, Nat.le_of_ble_eq_true rfl⟩ rfl hl.1 rfl (Nat.le_of_ble_eq_true rfl) dX0_init_35 ⟨(show cl + 1 + 1 ≤ 31 by omega), (show sl + 2 + 64 ≤ 1006 by omega)⟩ hS) hS (fun u1 H locs hq hw hS => ?_)
      obtain ⟨r1, hr1, d1, hu⟩ := hq
      rw [hu, xset_x d1] at hw
      rw [xu_n _ _ d1] at hr1
      have hB := hB.add (n := 64) (f := fun _ => 0) hp1 hr1 d1 hh (xsup_z _) (by decide)
      have hh := (xset_o (G := G) (n := 64) (f := fun _ => 0) (x_nn hh hp1) (x_nn hh hr1)).trans hh
      have hqw := hB.r (xu_s _ _ _)
      refine xw_aastN C hw hS 3 2 (r := (RX3, TX3, 2)) rfl hqw ((hB.1 k (by omega)).1 |> fun q => by rw [va_up_self] at q; exact q) rfl (show k < 9 by omega) (by decide) dX0_init_38 (fun H locs hw hS => ?_)
      have hB := hB.set (xu_s _ _ _) (.inl (G.2 3, 9, xq (va_up cf k (some p1))))
      rw [xu_u] at hB
      have hh := (xu_n _ (.inl (G.2 3, 9, xq (va_up cf k (some p1)))) (Ne.symm q1)).trans hh
      refine lv_iinc (v := (nI (k + 1))) (lv' := [(1, .int (nI (k + 1))), (0, .ref h)]) hx hb dX0_init_39 hl (k := 0) rfl (x_inc k) (by decide) rfl (fun ls hl => ?_)
      refine lv_goto (tgt := 15) hx hb dX0_init_42 (by decide) ?_
      refine ih (k + 1) _ _ _ _ _ _ _ _ ls _ _ (by omega) (by omega) (by omega) hB (fun j hj => ?_) (xcpadd hcp) (xnoadd hno (fr1 _ hp1) (fr1 _ hr1)) hh hw hS (lv_sub hl [0, 1] rfl)
      by_cases hjk : j = k
      · subst hjk; rw [va_up_self, va_up_self]
      · rw [va_up_ne _ _ hjk, va_up_ne _ _ hjk]; exact hcf j (by omega)
  exact loop 9 0 _ _ _ _ _ _ _ _ ls _ _ rfl rfl rfl hB (fun j hj => absurd hj (by omega)) (fun j hj => absurd hj (by omega)) (fun j hj => absurd hj (by omega)) hh hw hS hl

abbrev rmX4_init : Room := { frames := 3, cells := 47, slots := 1526, locals := 63 }
theorem iX4_init_X0 : ∀ w ∈ wsX00, w ∈ wsX4_init := by decide +kernel
theorem iX4_init_X3 : ∀ w ∈ wsX30, w ∈ wsX4_init := by decide +kernel
theorem iX4_init_X4 : ∀ w ∈ wsX40, w ∈ wsX4_init := by decide +kernel
set_option maxHeartbeats 4000000 in
set_option maxRecDepth 100000 in
theorem kX4_init (l : Launch) (G : xG) (B : Nat) (w : xM) (h : Nat) (wr : xM) (hh : w h = some (.inr (3, [.null, .null, .null, .int 0, .null, .null, .null, .null, .null, .null]))) (hr : ∀ (a : Nat) (e : va_E), wr a = some e → w a = some e ∧ a ≠ h) : Met l yX4_init wsX4_init rmX4_init (va_Pc [.ref h] (xBq G B w)) (va_Qv (fun u => ∃ (pa ra cp fr ad : Nat → Nat) (ps : Nat → xP) (eo : Nat → Option Nat) (tb : Nat → Bool), ad 0 = h ∧ ps 0 = x1 ∧ ps 1 = x1 ∧ xCL G u pa ra cp fr ad 0 ps eo tb wr) (xE G B) (xA B)) 47 1526 (xA B) := by
  refine xq_start (own := RX4) (mn := "<init>") (cc := cX4_init) (nL := 1) (rt := none) (by decide) rfl rfl rfl (Nat.le_of_ble_eq_true rfl) ?_
  intro p ev s m below meth cd ls C hl hw hS hao
  obtain ⟨hx, hb, -, -, -, hts, -, -, -, -⟩ := id C
  have hl : lv_has ls 1 [(0, .ref h)] := hl
  have hB : xBd G h w wr (fun _ => 0) (fun _ => 0) (fun _ => 64) (fun _ => fun _ => 0) 0 := xBd.start hr
  refine lv_aload_n hx hb dX4_init_0 rfl (lv_at hl 0 rfl) ?_
  refine xw_obj C hl.1 (by decide +kernel) (by decide +kernel) (by decide +kernel) (Nat.le_of_ble_eq_true rfl) (Nat.le_of_ble_eq_true rfl) dX4_init_1 ?_
  refine lv_aload_n hx hb dX4_init_4 rfl (lv_at hl 0 rfl) ?_
  refine xw_new C hw hS (ci := 2) rfl iX4_init_X3 tyX3 tyX3_ok (by decide +kernel) (by decide +kernel) (by decide +kernel) (fs := [.null, .int 0]) (fun j hj => by rcases (show j = 0 ∨ j = 1 by omega) with rfl | rfl <;> rfl) (Nat.le_of_ble_eq_true rfl) (Nat.le_of_ble_eq_true rfl) dX4_init_5 (fun p1 H hp1 hw hS => ?_)
  refine lv_dup hx hb dX4_init_8 rfl ?_
  refine lv_iconst (v := 4) hx hb dX4_init_9 (by decide) ?_
  refine xw_ti (y := (nI 4)) (by decide) ?_
  refine xw_cv (xw_I (n := 1) (rest := [.ref p1, .ref h]) C hw (kX3_init l G B _ p1 4 (xu_s _ _ _) (by decide)) gX4_init_X3_init rfl rfl rfl (by decide +kernel) (by decide +kernel) (by decide +kernel) rfl (by decide +kernel) ⟨Nat.le_of_ble_eq_true rfl, Nat.le_of_ble_eq_true rfl⟩ rfl hl.1 rfl (Nat.le_of_ble_eq_true rfl) dX4_init_10 ⟨Nat.le_of_ble_eq_true rfl, Nat.le_of_ble_eq_true rfl⟩ hS) hS (fun u1 H locs hq hw hS => ?_)
  obtain ⟨r1, hr1, d1, hu⟩ := hq
  rw [hu, xset_x d1] at hw
  rw [xu_n _ _ d1] at hr1
  have hB := hB.add (n := 4) (f := fun _ => 0) hp1 hr1 d1 hh (xsup_z _) (by decide)
  have hh := (xset_o (G := G) (n := 4) (f := fun _ => 0) (x_nn hh hp1) (x_nn hh hr1)).trans hh
  obtain ⟨pp0, hpp0⟩ : ∃ z, z = p1 := ⟨_, rfl⟩
  subst hpp0
  obtain ⟨rr0, hrr0⟩ : ∃ z, z = r1 := ⟨_, rfl⟩
  subst hrr0
  refine xw_putF C hw hS hh (ci := 3) rfl iX4_init_X4 tyX4 tyX4_ok nmX4 0 (by decide) (by decide +kernel) rfl rfl rfl (ty := (.object "CertificateSums$Polynomial")) (by decide +kernel) rfl rfl (Nat.le_of_ble_eq_true rfl) dX4_init_13 (fun H locs hw hS => ?_)
  have hw : xW G B (xu _ h (.inr (3, [.ref pp0, .null, .null, .int 0, .null, .null, .null, .null, .null, .null]))) H := hw
  obtain ⟨hB, hh⟩ := hB.put2 (.inr (3, [.ref pp0, .null, .null, .int 0, .null, .null, .null, .null, .null, .null]))
  obtain ⟨w0, hB, hh, hw⟩ := xBd.abs hB hh hw
  have hpo : xPoly G _ pp0 rr0 4 (fun _ => 0) := hB.1 0 (by decide)
  refine lv_aload_n hx hb dX4_init_16 rfl (lv_at hl 0 rfl) ?_
  refine xw_get C hw hh (ci := 3) rfl iX4_init_X4 0 (by decide) (by decide +kernel) rfl dX4_init_17 ?_
  refine lv_iconst (v := 0) hx hb dX4_init_20 (by decide) ?_
  refine xw_ti (y := (nI 0)) (nI_0.symm) ?_
  refine lv_iconst (v := 1) hx hb dX4_init_21 (by decide) ?_
  refine xw_ti (y := (xI 1)) (xI_1.symm) ?_
  have hyn := hB.2.2.2.1 0 (by decide)
  refine xw_cv (xw_V (n := 2) (rest := []) C hw (kX3_put l G B _ pp0 rr0 4 (fun _ => 0) 0 1 hpo (by decide)) gX4_init_X3_put rfl rfl rfl (by decide +kernel) ⟨Nat.le_of_ble_eq_true rfl, Nat.le_of_ble_eq_true rfl⟩ hpo.1 rfl rfl hl.1 rfl (Nat.le_of_ble_eq_true rfl) dX4_init_22 ⟨Nat.le_of_ble_eq_true rfl, Nat.le_of_ble_eq_true rfl⟩ hS) hS (fun u H locs hpp hw hS => ?_)
  rw [hpp] at hw
  have hB := hB.poly (i := 0) (by decide) rfl (xsup_up (v := 1) (xsup_z 4) (show 0 < 4 by decide))
  have hh := (xset_o (G := G) (n := 4) (f := va_up (fun _ => 0) 0 1) hyn.1 hyn.2).trans hh
  refine lv_aload_n hx hb dX4_init_25 rfl (lv_at hl 0 rfl) ?_
  refine xw_new C hw hS (ci := 2) rfl iX4_init_X3 tyX3 tyX3_ok (by decide +kernel) (by decide +kernel) (by decide +kernel) (fs := [.null, .int 0]) (fun j hj => by rcases (show j = 0 ∨ j = 1 by omega) with rfl | rfl <;> rfl) (Nat.le_of_ble_eq_true rfl) (Nat.le_of_ble_eq_true rfl) dX4_init_26 (fun p1 H hp1 hw hS => ?_)
  refine lv_dup hx hb dX4_init_29 rfl ?_
  refine lv_iconst (v := 4) hx hb dX4_init_30 (by decide) ?_
  refine xw_ti (y := (nI 4)) (by decide) ?_
  refine xw_cv (xw_I (n := 1) (rest := [.ref p1, .ref h]) C hw (kX3_init l G B _ p1 4 (xu_s _ _ _) (by decide)) gX4_init_X3_init rfl rfl rfl (by decide +kernel) (by decide +kernel) (by decide +kernel) rfl (by decide +kernel) ⟨Nat.le_of_ble_eq_true rfl, Nat.le_of_ble_eq_true rfl⟩ rfl hl.1 rfl (Nat.le_of_ble_eq_true rfl) dX4_init_31 ⟨Nat.le_of_ble_eq_true rfl, Nat.le_of_ble_eq_true rfl⟩ hS) hS (fun u1 H locs hq hw hS => ?_)
  obtain ⟨r1, hr1, d1, hu⟩ := hq
  rw [hu, xset_x d1] at hw
  rw [xu_n _ _ d1] at hr1
  have hB := hB.add (n := 4) (f := fun _ => 0) hp1 hr1 d1 hh (xsup_z _) (by decide)
  have hh := (xset_o (G := G) (n := 4) (f := fun _ => 0) (x_nn hh hp1) (x_nn hh hr1)).trans hh
  obtain ⟨pp1, hpp1⟩ : ∃ z, z = p1 := ⟨_, rfl⟩
  subst hpp1
  obtain ⟨rr1, hrr1⟩ : ∃ z, z = r1 := ⟨_, rfl⟩
  subst hrr1
  refine xw_putF C hw hS hh (ci := 3) rfl iX4_init_X4 tyX4 tyX4_ok nmX4 1 (by decide) (by decide +kernel) rfl rfl rfl (ty := (.object "CertificateSums$Polynomial")) (by decide +kernel) rfl rfl (Nat.le_of_ble_eq_true rfl) dX4_init_34 (fun H locs hw hS => ?_)
  have hw : xW G B (xu _ h (.inr (3, [.ref pp0, .ref pp1, .null, .int 0, .null, .null, .null, .null, .null, .null]))) H := hw
  obtain ⟨hB, hh⟩ := hB.put2 (.inr (3, [.ref pp0, .ref pp1, .null, .int 0, .null, .null, .null, .null, .null, .null]))
  obtain ⟨w1, hB, hh, hw⟩ := xBd.abs hB hh hw
  have hpo : xPoly G _ pp1 rr1 4 (fun _ => 0) := hB.1 1 (by decide)
  refine lv_aload_n hx hb dX4_init_37 rfl (lv_at hl 0 rfl) ?_
  refine xw_get C hw hh (ci := 3) rfl iX4_init_X4 1 (by decide) (by decide +kernel) rfl dX4_init_38 ?_
  refine lv_iconst (v := 0) hx hb dX4_init_41 (by decide) ?_
  refine xw_ti (y := (nI 0)) (nI_0.symm) ?_
  refine lv_iconst (v := 1) hx hb dX4_init_42 (by decide) ?_
  refine xw_ti (y := (xI 1)) (xI_1.symm) ?_
  have hyn := hB.2.2.2.1 1 (by decide)
  refine xw_cv (xw_V (n := 2) (rest := []) C hw (kX3_put l G B _ pp1 rr1 4 (fun _ => 0) 0 1 hpo (by decide)) gX4_init_X3_put rfl rfl rfl (by decide +kernel) ⟨Nat.le_of_ble_eq_true rfl, Nat.le_of_ble_eq_true rfl⟩ hpo.1 rfl rfl hl.1 rfl (Nat.le_of_ble_eq_true rfl) dX4_init_43 ⟨Nat.le_of_ble_eq_true rfl, Nat.le_of_ble_eq_true rfl⟩ hS) hS (fun u H locs hpp hw hS => ?_)
  rw [hpp] at hw
  have hB := hB.poly (i := 1) (by decide) rfl (xsup_up (v := 1) (xsup_z 4) (show 0 < 4 by decide))
  have hh := (xset_o (G := G) (n := 4) (f := va_up (fun _ => 0) 0 1) hyn.1 hyn.2).trans hh
  refine lv_aload_n hx hb dX4_init_46 rfl (lv_at hl 0 rfl) ?_
  refine lv_bipush (v := 50) hx hb dX4_init_47 (by decide) ?_
  refine xw_ti (y := (nI 50)) (by decide) ?_
  refine xq_newq C hw hS 4 (by decide +kernel) hao.1 rfl (N' := 50) (nI_pos (by decide)) (nI_clamp (by decide)) (by decide) (Nat.le_of_ble_eq_true rfl) (Nat.le_of_ble_eq_true rfl) dX4_init_49 (fun fa H hfa hw hS => ?_)
  have q1 : fa ≠ h := Ne.symm (x_nn hh hfa)
  have frw : ∀ (w2 wr2 : xM) (pa ra cp : Nat → Nat) (ps : Nat → xP) (N : Nat), xBd G h w2 wr2 pa ra cp ps N → (∀ a e, wr a = some e → wr2 a = some e) → ∀ x, w2 x = none → ∀ a e, wr a = some e → a ≠ x := fun w2 wr2 _ _ _ _ _ b hs x hx a e he => x_nn (b.r (hs a e he)) hx
  have hf1 := frw _ _ _ _ _ _ _ hB (fun _ _ he => he) _ hfa
  have hB := hB.arr hfa q1 (.inl (G.2 4, 50, xq (fun _ => none)))
  have hh := (xu_n _ (.inl (G.2 4, 50, xq (fun _ => none))) (Ne.symm q1)).trans hh
  refine xw_putF C hw hS hh (ci := 3) rfl iX4_init_X4 tyX4 tyX4_ok nmX4 2 (by decide) (by decide +kernel) rfl rfl rfl (ty := (.array (.object "CertificateSums$Fraction"))) (by decide +kernel) rfl rfl (Nat.le_of_ble_eq_true rfl) dX4_init_52 (fun H locs hw hS => ?_)
  have hw : xW G B (xu _ h (.inr (3, [.ref pp0, .ref pp1, .ref fa, .int 0, .null, .null, .null, .null, .null, .null]))) H := hw
  obtain ⟨hB, hh⟩ := hB.put2 (.inr (3, [.ref pp0, .ref pp1, .ref fa, .int 0, .null, .null, .null, .null, .null, .null]))
  refine lv_aload_n hx hb dX4_init_55 rfl (lv_at hl 0 rfl) ?_
  refine lv_iconst (v := 0) hx hb dX4_init_56 (by decide) ?_
  refine xw_put C hw hS hh (ci := 3) rfl iX4_init_X4 tyX4 tyX4_ok nmX4 3 (by decide) (by decide +kernel) rfl (ty := .int) (by decide +kernel) rfl rfl (Nat.le_of_ble_eq_true rfl) dX4_init_57 (fun H locs hw hS => ?_)
  have hw : xW G B (xu _ h (.inr (3, [.ref pp0, .ref pp1, .ref fa, .int 0, .null, .null, .null, .null, .null, .null]))) H := hw
  obtain ⟨hB, hh⟩ := hB.put2 (.inr (3, [.ref pp0, .ref pp1, .ref fa, .int 0, .null, .null, .null, .null, .null, .null]))
  refine lv_aload_n hx hb dX4_init_60 rfl (lv_at hl 0 rfl) ?_
  refine xw_new C hw hS (ci := 2) rfl iX4_init_X3 tyX3 tyX3_ok (by decide +kernel) (by decide +kernel) (by decide +kernel) (fs := [.null, .int 0]) (fun j hj => by rcases (show j = 0 ∨ j = 1 by omega) with rfl | rfl <;> rfl) (Nat.le_of_ble_eq_true rfl) (Nat.le_of_ble_eq_true rfl) dX4_init_61 (fun p1 H hp1 hw hS => ?_)
  refine lv_dup hx hb dX4_init_64 rfl ?_
  refine lv_bipush (v := 64) hx hb dX4_init_65 (by decide) ?_
  refine xw_ti (y := (nI 64)) (by decide) ?_
  refine xw_cv (xw_I (n := 1) (rest := [.ref p1, .ref h]) C hw (kX3_init l G B _ p1 64 (xu_s _ _ _) (by decide)) gX4_init_X3_init rfl rfl rfl (by decide +kernel) (by decide +kernel) (by decide +kernel) rfl (by decide +kernel) ⟨Nat.le_of_ble_eq_true rfl, Nat.le_of_ble_eq_true rfl⟩ rfl hl.1 rfl (Nat.le_of_ble_eq_true rfl) dX4_init_67 ⟨Nat.le_of_ble_eq_true rfl, Nat.le_of_ble_eq_true rfl⟩ hS) hS (fun u1 H locs hq hw hS => ?_)
  obtain ⟨r1, hr1, d1, hu⟩ := hq
  rw [hu, xset_x d1] at hw
  rw [xu_n _ _ d1] at hr1
  have hB := hB.add (n := 64) (f := fun _ => 0) hp1 hr1 d1 hh (xsup_z _) (by decide)
  have hh := (xset_o (G := G) (n := 64) (f := fun _ => 0) (x_nn hh hp1) (x_nn hh hr1)).trans hh
  obtain ⟨pp2, hpp2⟩ : ∃ z, z = p1 := ⟨_, rfl⟩
  subst hpp2
  refine xw_putF C hw hS hh (ci := 3) rfl iX4_init_X4 tyX4 tyX4_ok nmX4 4 (by decide) (by decide +kernel) rfl rfl rfl (ty := (.object "CertificateSums$Polynomial")) (by decide +kernel) rfl rfl (Nat.le_of_ble_eq_true rfl) dX4_init_70 (fun H locs hw hS => ?_)
  have hw : xW G B (xu _ h (.inr (3, [.ref pp0, .ref pp1, .ref fa, .int 0, .ref pp2, .null, .null, .null, .null, .null]))) H := hw
  obtain ⟨hB, hh⟩ := hB.put2 (.inr (3, [.ref pp0, .ref pp1, .ref fa, .int 0, .ref pp2, .null, .null, .null, .null, .null]))
  obtain ⟨w2, hB, hh, hw⟩ := xBd.abs hB hh hw
  refine lv_aload_n hx hb dX4_init_73 rfl (lv_at hl 0 rfl) ?_
  refine xw_new C hw hS (ci := 2) rfl iX4_init_X3 tyX3 tyX3_ok (by decide +kernel) (by decide +kernel) (by decide +kernel) (fs := [.null, .int 0]) (fun j hj => by rcases (show j = 0 ∨ j = 1 by omega) with rfl | rfl <;> rfl) (Nat.le_of_ble_eq_true rfl) (Nat.le_of_ble_eq_true rfl) dX4_init_74 (fun p1 H hp1 hw hS => ?_)
  refine lv_dup hx hb dX4_init_77 rfl ?_
  refine lv_bipush (v := 64) hx hb dX4_init_78 (by decide) ?_
  refine xw_ti (y := (nI 64)) (by decide) ?_
  refine xw_cv (xw_I (n := 1) (rest := [.ref p1, .ref h]) C hw (kX3_init l G B _ p1 64 (xu_s _ _ _) (by decide)) gX4_init_X3_init rfl rfl rfl (by decide +kernel) (by decide +kernel) (by decide +kernel) rfl (by decide +kernel) ⟨Nat.le_of_ble_eq_true rfl, Nat.le_of_ble_eq_true rfl⟩ rfl hl.1 rfl (Nat.le_of_ble_eq_true rfl) dX4_init_80 ⟨Nat.le_of_ble_eq_true rfl, Nat.le_of_ble_eq_true rfl⟩ hS) hS (fun u1 H locs hq hw hS => ?_)
  obtain ⟨r1, hr1, d1, hu⟩ := hq
  rw [hu, xset_x d1] at hw
  rw [xu_n _ _ d1] at hr1
  have hB := hB.add (n := 64) (f := fun _ => 0) hp1 hr1 d1 hh (xsup_z _) (by decide)
  have hh := (xset_o (G := G) (n := 64) (f := fun _ => 0) (x_nn hh hp1) (x_nn hh hr1)).trans hh
  obtain ⟨pp3, hpp3⟩ : ∃ z, z = p1 := ⟨_, rfl⟩
  subst hpp3
  refine xw_putF C hw hS hh (ci := 3) rfl iX4_init_X4 tyX4 tyX4_ok nmX4 5 (by decide) (by decide +kernel) rfl rfl rfl (ty := (.object "CertificateSums$Polynomial")) (by decide +kernel) rfl rfl (Nat.le_of_ble_eq_true rfl) dX4_init_83 (fun H locs hw hS => ?_)
  have hw : xW G B (xu _ h (.inr (3, [.ref pp0, .ref pp1, .ref fa, .int 0, .ref pp2, .ref pp3, .null, .null, .null, .null]))) H := hw
  obtain ⟨hB, hh⟩ := hB.put2 (.inr (3, [.ref pp0, .ref pp1, .ref fa, .int 0, .ref pp2, .ref pp3, .null, .null, .null, .null]))
  obtain ⟨w3, hB, hh, hw⟩ := xBd.abs hB hh hw
  refine lv_aload_n hx hb dX4_init_86 rfl (lv_at hl 0 rfl) ?_
  refine xw_new C hw hS (ci := 2) rfl iX4_init_X3 tyX3 tyX3_ok (by decide +kernel) (by decide +kernel) (by decide +kernel) (fs := [.null, .int 0]) (fun j hj => by rcases (show j = 0 ∨ j = 1 by omega) with rfl | rfl <;> rfl) (Nat.le_of_ble_eq_true rfl) (Nat.le_of_ble_eq_true rfl) dX4_init_87 (fun p1 H hp1 hw hS => ?_)
  refine lv_dup hx hb dX4_init_90 rfl ?_
  refine lv_bipush (v := 64) hx hb dX4_init_91 (by decide) ?_
  refine xw_ti (y := (nI 64)) (by decide) ?_
  refine xw_cv (xw_I (n := 1) (rest := [.ref p1, .ref h]) C hw (kX3_init l G B _ p1 64 (xu_s _ _ _) (by decide)) gX4_init_X3_init rfl rfl rfl (by decide +kernel) (by decide +kernel) (by decide +kernel) rfl (by decide +kernel) ⟨Nat.le_of_ble_eq_true rfl, Nat.le_of_ble_eq_true rfl⟩ rfl hl.1 rfl (Nat.le_of_ble_eq_true rfl) dX4_init_93 ⟨Nat.le_of_ble_eq_true rfl, Nat.le_of_ble_eq_true rfl⟩ hS) hS (fun u1 H locs hq hw hS => ?_)
  obtain ⟨r1, hr1, d1, hu⟩ := hq
  rw [hu, xset_x d1] at hw
  rw [xu_n _ _ d1] at hr1
  have hB := hB.add (n := 64) (f := fun _ => 0) hp1 hr1 d1 hh (xsup_z _) (by decide)
  have hh := (xset_o (G := G) (n := 64) (f := fun _ => 0) (x_nn hh hp1) (x_nn hh hr1)).trans hh
  obtain ⟨pp4, hpp4⟩ : ∃ z, z = p1 := ⟨_, rfl⟩
  subst hpp4
  refine xw_putF C hw hS hh (ci := 3) rfl iX4_init_X4 tyX4 tyX4_ok nmX4 6 (by decide) (by decide +kernel) rfl rfl rfl (ty := (.object "CertificateSums$Polynomial")) (by decide +kernel) rfl rfl (Nat.le_of_ble_eq_true rfl) dX4_init_96 (fun H locs hw hS => ?_)
  have hw : xW G B (xu _ h (.inr (3, [.ref pp0, .ref pp1, .ref fa, .int 0, .ref pp2, .ref pp3, .ref pp4, .null, .null, .null]))) H := hw
  obtain ⟨hB, hh⟩ := hB.put2 (.inr (3, [.ref pp0, .ref pp1, .ref fa, .int 0, .ref pp2, .ref pp3, .ref pp4, .null, .null, .null]))
  obtain ⟨w4, hB, hh, hw⟩ := xBd.abs hB hh hw
  refine lv_aload_n hx hb dX4_init_99 rfl (lv_at hl 0 rfl) ?_
  refine xw_new C hw hS (ci := 2) rfl iX4_init_X3 tyX3 tyX3_ok (by decide +kernel) (by decide +kernel) (by decide +kernel) (fs := [.null, .int 0]) (fun j hj => by rcases (show j = 0 ∨ j = 1 by omega) with rfl | rfl <;> rfl) (Nat.le_of_ble_eq_true rfl) (Nat.le_of_ble_eq_true rfl) dX4_init_100 (fun p1 H hp1 hw hS => ?_)
  refine lv_dup hx hb dX4_init_103 rfl ?_
  refine lv_bipush (v := 64) hx hb dX4_init_104 (by decide) ?_
  refine xw_ti (y := (nI 64)) (by decide) ?_
  refine xw_cv (xw_I (n := 1) (rest := [.ref p1, .ref h]) C hw (kX3_init l G B _ p1 64 (xu_s _ _ _) (by decide)) gX4_init_X3_init rfl rfl rfl (by decide +kernel) (by decide +kernel) (by decide +kernel) rfl (by decide +kernel) ⟨Nat.le_of_ble_eq_true rfl, Nat.le_of_ble_eq_true rfl⟩ rfl hl.1 rfl (Nat.le_of_ble_eq_true rfl) dX4_init_106 ⟨Nat.le_of_ble_eq_true rfl, Nat.le_of_ble_eq_true rfl⟩ hS) hS (fun u1 H locs hq hw hS => ?_)
  obtain ⟨r1, hr1, d1, hu⟩ := hq
  rw [hu, xset_x d1] at hw
  rw [xu_n _ _ d1] at hr1
  have hB := hB.add (n := 64) (f := fun _ => 0) hp1 hr1 d1 hh (xsup_z _) (by decide)
  have hh := (xset_o (G := G) (n := 64) (f := fun _ => 0) (x_nn hh hp1) (x_nn hh hr1)).trans hh
  obtain ⟨pp5, hpp5⟩ : ∃ z, z = p1 := ⟨_, rfl⟩
  subst hpp5
  refine xw_putF C hw hS hh (ci := 3) rfl iX4_init_X4 tyX4 tyX4_ok nmX4 7 (by decide) (by decide +kernel) rfl rfl rfl (ty := (.object "CertificateSums$Polynomial")) (by decide +kernel) rfl rfl (Nat.le_of_ble_eq_true rfl) dX4_init_109 (fun H locs hw hS => ?_)
  have hw : xW G B (xu _ h (.inr (3, [.ref pp0, .ref pp1, .ref fa, .int 0, .ref pp2, .ref pp3, .ref pp4, .ref pp5, .null, .null]))) H := hw
  obtain ⟨hB, hh⟩ := hB.put2 (.inr (3, [.ref pp0, .ref pp1, .ref fa, .int 0, .ref pp2, .ref pp3, .ref pp4, .ref pp5, .null, .null]))
  obtain ⟨w5, hB, hh, hw⟩ := xBd.abs hB hh hw
  refine lv_aload_n hx hb dX4_init_112 rfl (lv_at hl 0 rfl) ?_
  refine xw_new C hw hS (ci := 2) rfl iX4_init_X3 tyX3 tyX3_ok (by decide +kernel) (by decide +kernel) (by decide +kernel) (fs := [.null, .int 0]) (fun j hj => by rcases (show j = 0 ∨ j = 1 by omega) with rfl | rfl <;> rfl) (Nat.le_of_ble_eq_true rfl) (Nat.le_of_ble_eq_true rfl) dX4_init_113 (fun p1 H hp1 hw hS => ?_)
  refine lv_dup hx hb dX4_init_116 rfl ?_
  refine lv_bipush (v := 64) hx hb dX4_init_117 (by decide) ?_
  refine xw_ti (y := (nI 64)) (by decide) ?_
  refine xw_cv (xw_I (n := 1) (rest := [.ref p1, .ref h]) C hw (kX3_init l G B _ p1 64 (xu_s _ _ _) (by decide)) gX4_init_X3_init rfl rfl rfl (by decide +kernel) (by decide +kernel) (by decide +kernel) rfl (by decide +kernel) ⟨Nat.le_of_ble_eq_true rfl, Nat.le_of_ble_eq_true rfl⟩ rfl hl.1 rfl (Nat.le_of_ble_eq_true rfl) dX4_init_119 ⟨Nat.le_of_ble_eq_true rfl, Nat.le_of_ble_eq_true rfl⟩ hS) hS (fun u1 H locs hq hw hS => ?_)
  obtain ⟨r1, hr1, d1, hu⟩ := hq
  rw [hu, xset_x d1] at hw
  rw [xu_n _ _ d1] at hr1
  have hB := hB.add (n := 64) (f := fun _ => 0) hp1 hr1 d1 hh (xsup_z _) (by decide)
  have hh := (xset_o (G := G) (n := 64) (f := fun _ => 0) (x_nn hh hp1) (x_nn hh hr1)).trans hh
  obtain ⟨pp6, hpp6⟩ : ∃ z, z = p1 := ⟨_, rfl⟩
  subst hpp6
  refine xw_putF C hw hS hh (ci := 3) rfl iX4_init_X4 tyX4 tyX4_ok nmX4 8 (by decide) (by decide +kernel) rfl rfl rfl (ty := (.object "CertificateSums$Polynomial")) (by decide +kernel) rfl rfl (Nat.le_of_ble_eq_true rfl) dX4_init_122 (fun H locs hw hS => ?_)
  have hw : xW G B (xu _ h (.inr (3, [.ref pp0, .ref pp1, .ref fa, .int 0, .ref pp2, .ref pp3, .ref pp4, .ref pp5, .ref pp6, .null]))) H := hw
  obtain ⟨hB, hh⟩ := hB.put2 (.inr (3, [.ref pp0, .ref pp1, .ref fa, .int 0, .ref pp2, .ref pp3, .ref pp4, .ref pp5, .ref pp6, .null]))
  obtain ⟨w6, hB, hh, hw⟩ := xBd.abs hB hh hw
  refine lv_aload_n hx hb dX4_init_125 rfl (lv_at hl 0 rfl) ?_
  refine xw_new C hw hS (ci := 0) rfl iX4_init_X0 tyX0 tyX0_ok (by decide +kernel) (by decide +kernel) (by decide +kernel) (fs := [.null, .null, .null, .null, .null, .null, .null, .null]) (fun j hj => by rcases (show j = 0 ∨ j = 1 ∨ j = 2 ∨ j = 3 ∨ j = 4 ∨ j = 5 ∨ j = 6 ∨ j = 7 by omega) with rfl | rfl | rfl | rfl | rfl | rfl | rfl | rfl <;> rfl) (Nat.le_of_ble_eq_true rfl) (Nat.le_of_ble_eq_true rfl) dX4_init_126 (fun he H hhe hw hS => ?_)
  have q2 : he ≠ h := Ne.symm (x_nn hh hhe)
  have hs1 : ∀ a e, wr a = some e → (xu wr fa (.inl (G.2 4, 50, xq (fun _ => none)))) a = some e := fun a e hae => (xu_n _ _ (hf1 a e hae)).trans hae
  have hfa9 := hB.r (xu_s _ _ _)
  have hf2 := frw _ _ _ _ _ _ _ hB hs1 _ hhe
  have hB := hB.arr hhe q2 (.inr (0, [.null, .null, .null, .null, .null, .null, .null, .null]))
  have hh := (xu_n _ (.inr (0, [.null, .null, .null, .null, .null, .null, .null, .null])) (Ne.symm q2)).trans hh
  refine lv_dup hx hb dX4_init_129 rfl ?_
  obtain ⟨w9, hB, hh, hw⟩ := xBd.abs hB hh hw
  have hhe9 := hB.r (xu_s _ _ _)
  refine xw_cv (xq_I (n := 0) (rest := [.ref he, .ref h]) C hw hao (kX0_init l G B w9 he (xwo w9 he) hhe9 xwo_1 xwo_2) gX4_init_X0_init rfl rfl rfl (by decide +kernel) (by decide +kernel) (by decide +kernel) rfl (by decide +kernel) ⟨Nat.le_of_ble_eq_true rfl, Nat.le_of_ble_eq_true rfl⟩ rfl hl.1 rfl (Nat.le_of_ble_eq_true rfl) dX4_init_130 ⟨Nat.le_of_ble_eq_true rfl, Nat.le_of_ble_eq_true rfl⟩ hS) hS (fun u H locs hq hw hS => ?_)
  obtain ⟨qa, ea, ta, pa2, ra2, cp2, cf, ps2, b2, hcf, hcp, hqa, hea, hta, d1, d2, d3, hno, hu⟩ := hq
  have q3 : he ≠ fa := fun z => by rw [z] at hhe; cases hhe.symm.trans hfa9
  have hh9 : u h = some (.inr (3, [.ref pp0, .ref pp1, .ref fa, .int 0, .ref pp2, .ref pp3, .ref pp4, .ref pp5, .ref pp6, .null])) := b2.r (by rw [xu_n _ _ (x_nn hh hta), xu_n _ _ (x_nn hh hea), xu_n _ _ (x_nn hh hqa)]; exact xwo_2 _ _ hh (Ne.symm q2))
  refine xw_putF C hw hS hh9 (ci := 3) rfl iX4_init_X4 tyX4 tyX4_ok nmX4 9 (by decide) (by decide +kernel) rfl rfl rfl (ty := (.object "CertificateSums$Equations")) (by decide +kernel) rfl rfl (Nat.le_of_ble_eq_true rfl) dX4_init_133 (fun H locs hw hS => ?_)
  exact xw_vret C hw hS (Nat.le_of_ble_eq_true rfl) (Nat.le_of_ble_eq_true rfl) (xCL.make hB hh ((xu_n _ _ (Ne.symm q3)).trans (xu_s _ _ _)) (xu_s _ _ _) (fun a e hae => ⟨(xu_n _ _ (hf2 a e hae)).trans (hs1 a e hae), hf2 a e hae, hf1 a e hae⟩) xwo_2 b2 hcf hcp hqa hea hta hno hu ⟨rfl, rfl, fun i h1 h2 => by rcases (show i = 2 ∨ i = 3 ∨ i = 4 ∨ i = 5 ∨ i = 6 by omega) with rfl | rfl | rfl | rfl | rfl <;> rfl⟩ d1 d2 d3) dX4_init_136
