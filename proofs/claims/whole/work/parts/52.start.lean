/-! ===== what the law's start gives ===== -/
theorem xs_prim {s : State} {A : Array Value} {t : FieldType} (h : (Cond.arrayClass t).before A s = true) : ∃ cA, ArrOfT s cA t ∧ s.vm.findClass ("[" ++ t.toString) = some cA := by
  obtain ⟨c, k, comp, h1, h2, h3⟩ := Cond.arrayClass_spec h
  exact ⟨c, fun n z => ⟨fun k h => (by cases h), k, h2, comp, h3⟩, h1⟩
theorem xs_obj {s : State} {C : String} (h : va_AO C s) : ∃ cA, ArrOfT s cA (.object C) ∧ va_RA s cA (.object C) := by
  obtain ⟨comp, c, k, h1, h2, h3, h4, h5⟩ := Cond.arrayOver_spec h
  exact ⟨c, fun n z => ⟨fun k h => (by cases h), k, h3, comp, h4⟩, k, comp, h3, h4, h1, h5⟩
theorem xs_tx : ∀ q ∈ xTx, Cond.stringRef RX4 q.1 q.2 ∈ lw_tbl := by decide +kernel
theorem xs_ca : ∀ E ∈ xEs, Cond.castable E E ∈ lw_tbl := by decide +kernel
theorem xs_de : ∀ y ∈ xDs, Cond.declares y ∈ lw_tbl := by decide +kernel
theorem xs_nc : ∀ E ∈ xEs, ∀ F ∈ xEs, E ≠ F → Cond.not (.castable E F) ∈ flatC (Jvm.Cond.and given_1 narrow_1) := by decide +kernel
set_option maxHeartbeats 4000000 in
theorem xs_start {p : Program} {s : State} {m : MethodId} {meth : Method} {c : Code} {b L : Nat} {xs : Nat → Int32} (C0 : lw_At p s m meth c b L xs) : ∃ G : xG, xK G s ∧ xZ s.heap.size s ∧ xAO s := by
  obtain ⟨hx, hb, hr, hml, hown, hts, hX, hbl, hlocks, hgv⟩ := C0
  have hs := flat_of_before _ hgv
  have a1 : va_AO RX1 s := va_AO.of (hts _ (by decide +kernel))
  have a3 : va_AO RX3 s := va_AO.of (hts _ (by decide +kernel))
  obtain ⟨c0, i0, k0⟩ := u_known (C := RX0) (T := TX0) (N := 8) (n := 8) hts inX0 (hts (.instantiable RX0 8) (by decide +kernel))
  obtain ⟨c1, i1, k1⟩ := u_known (C := RX1) (T := TX1) (N := 2) (n := 2) hts inX1 (hts (.instantiable RX1 2) (by decide +kernel))
  obtain ⟨c2, i2, k2⟩ := u_known (C := RX3) (T := TX3) (N := 2) (n := 2) hts inX3 (hts (.instantiable RX3 2) (by decide +kernel))
  obtain ⟨c3, i3, k3⟩ := u_known (C := RX4) (T := TX4) (N := 10) (n := 10) hts inX4 (hts (.instantiable RX4 10) (by decide +kernel))
  obtain ⟨c4, i4, k4⟩ := u_known (C := RX5) (T := TX5) (N := 20) (n := 20) hts inX5 (hts (.instantiable RX5 20) (by decide +kernel))
  obtain ⟨t0, h0, n0⟩ := xs_prim (t := .int) (hts (.arrayClass .int) (by decide +kernel))
  obtain ⟨t1, h1, n1⟩ := xs_prim (t := .long) (hts (.arrayClass .long) (by decide +kernel))
  obtain ⟨t2, h2, n2⟩ := xs_prim (t := .boolean) (hts (.arrayClass .boolean) (by decide +kernel))
  obtain ⟨t3, h3, n3⟩ := xs_obj a3
  obtain ⟨t4, h4, n4⟩ := xs_obj a1
  refine ⟨((fun k => if k = 0 then c0 else if k = 1 then c1 else if k = 2 then c2 else if k = 3 then c3 else c4, fun k => if k = 0 then i0 else if k = 1 then i1 else if k = 2 then i2 else if k = 3 then i3 else i4), fun k => if k = 0 then t0 else if k = 1 then t1 else if k = 2 then t2 else if k = 3 then t3 else t4), ⟨?_, ?_⟩, ?_, a1, a3⟩
  · intro k q hq
    match k, hq with
    | 0, hq => cases hq; exact k0
    | 1, hq => cases hq; exact k1
    | 2, hq => cases hq; exact k2
    | 3, hq => cases hq; exact k3
    | 4, hq => cases hq; exact k4
    | k + 5, hq => simp [vwCl] at hq
  · intro k q hq
    match k, hq with
    | 0, hq => cases hq; exact ⟨h0, n0⟩
    | 1, hq => cases hq; exact ⟨h1, n1⟩
    | 2, hq => cases hq; exact ⟨h2, n2⟩
    | 3, hq => cases hq; exact ⟨h3, n3⟩
    | 4, hq => cases hq; exact ⟨h4, n4⟩
    | k + 5, hq => simp [xTys] at hq
  · have hA : ∀ a : Nat, a < s.heap.size → ¬ xA s.heap.size a := fun a ha => Nat.not_le.mpr ha
    refine ⟨vx_Zqof (hts _ (by decide +kernel)) (hts _ (by decide +kernel)) (hs _ (by decide +kernel)) hA, vx_Zqof (hts _ (by decide +kernel)) (hts _ (by decide +kernel)) (hs _ (by decide +kernel)) hA, fun q hq => ?_, fun E hE => va_Nw.of rfl (hts _ (xs_ca E hE)), fun y hy => va_Nw.of rfl (hts _ (xs_de y hy)), fun E hE F hF hne => va_Nc.of (hs _ (xs_nc E hE F hF hne))⟩
    have hq1 := hts _ (xs_tx q hq)
    obtain ⟨-, -, -, sa, -, -, -, -, -, hev⟩ := Cond.stringRef_spec k3.2.1 hq1
    exact ⟨sa, vk_R.of hq1 hev⟩
