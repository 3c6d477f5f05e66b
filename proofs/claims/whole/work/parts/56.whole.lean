/-! ===== the law's body ===== -/
theorem xInv.start {G : xG} {u u2 wr w0 : xM} {h mo O : Nat} {pa ra cp fr ad : Nat → Nat} {ps : Nat → xP} {eo : Nat → Option Nat} {tb : Nat → Bool} {la ia : Nat → Nat} {rq : Nat} {im lr : Nat → xP} {ro : Nat → Option Nat} {e : va_E} (hh : ad 0 = h) (e0 : ps 0 = x1) (e1 : ps 1 = x1) (e2 : im 2 = x1) (e3 : im 3 = x1) (hC : xCL G u pa ra cp fr ad 0 ps eo tb w0) (hmo : u mo = none)
    (hM : xML G u2 mo la ia rq 0 0 im lr ro 0 wr) (hwr : ∀ (a : Nat) (x : va_E), xu u mo e a = some x → ¬ a = mo → wr a = some x) (hO : u2 O = none) : xInv G (xu u2 O (xOc G (fun _ => 0))) h mo O := by
  have k1 : ∀ a, xCD pa ra fr ad 0 a → ∃ x, u a = some x ∧ wr a = some x := fun a ha => by
    obtain ⟨x, hx⟩ := hC.ex ha
    have hne : a ≠ mo := x_nn hx hmo
    exact ⟨x, hx, hwr a x ((xu_n _ _ hne).trans hx) hne⟩
  have k2 : ∀ a, xMD mo la ia rq a → ¬ xCD pa ra fr ad 0 a := fun a ha hc => by
    obtain ⟨x, -, hx⟩ := k1 a hc
    obtain ⟨-, z1, z2, z3, z4⟩ := hM.2.2.2.2.2.2.2 a x hx
    rcases ha with ha | ⟨i, hi, ha⟩ | ⟨i, hi, ha⟩ | ha
    · exact z1 ha
    · exact z2 i hi ha
    · exact z3 i hi ha
    · exact z4 ha
  have k3 : ¬ xCD pa ra fr ad 0 O := fun hc => by
    obtain ⟨x, -, hx⟩ := k1 O hc
    rw [hM.rest hx] at hO; cases hO
  have k4 : ¬ xMD mo la ia rq O := fun hc => by
    obtain ⟨x, hx, -⟩ := hM.ex hc
    rw [hx] at hO; cases hO
  refine ⟨pa, ra, cp, fr, ad, 0, ps, la, ia, rq, im, ⟨⟨eo, tb, fun _ => none, hC.keep (fun a ha => ?_) (fun a x z => by cases z)⟩, ⟨0, lr, ro, 0, fun _ => none, hM.keep (fun a ha => xu_n _ _ (fun (z : a = O) => k4 (z ▸ ha))) (fun a x z => by cases z)⟩, hh, k2, k3, k4, fun _ => 0, xu_s _ _ _⟩, xTie.start e0 e1 e2 e3⟩
  obtain ⟨x, hx, hx2⟩ := k1 a ha
  rw [hx]
  exact (xu_n _ _ (fun (z : a = O) => k3 (z ▸ ha))).trans (hM.rest hx2)
set_option maxHeartbeats 4000000 in
set_option maxRecDepth 100000 in
theorem whole_start {p : Program} {e : Env} {s : State} {m : MethodId} {below : List Frame} {meth : Method} {c : Code} (l : Launch) (hl9 : l.stackTraces = false) {b L : Nat} {xs : Nat → Int32} (hL : L ≤ 2560) (C0 : lw_At p s m meth c b L xs) : W p l e room_1 s m #[Value.ref b] below meth c s.heap [] 0 0 (lw_Z below #[Value.ref b] s) (entryFrame m ([Value.ref b] : List Value).toArray 7) := by
  obtain ⟨G, hK, hz, hao⟩ := xs_start C0
  obtain ⟨hx, hb, hr, hml, hown, hts, hX, hbl, hlocks, hgv⟩ := C0
  have C : xC p s m #[Value.ref b] meth c code 7 ret wsL_law RL meth.name G s.heap.size := ⟨hx, hb, hr, hml, hown, fun w h => hts w (wsL_law_in w h), hK, Nat.le_refl _, hlocks, rfl⟩
  have hw : xW G s.heap.size (fun _ => none) s.heap := fun a e h => by cases h
  have hS : va_S (xA s.heap.size) s.heap s.heap [] := va_S.rf
  have hl := lv_entry ([.ref b]) (n := 7) (Nat.le_of_ble_eq_true rfl)
  rw [lg_entry_eq]
  generalize (lg_sl ([.ref b]) ++ List.replicate (7 - (lg_sl ([.ref b])).length) Slot.unset).toArray = ls at hl ⊢
  have hl : lv_has ls 7 [(0, .ref b)] := hl
  refine xw_new C hw hS (ci := 3) rfl inlX4 tyX4 tyX4_ok (by decide +kernel) (by decide +kernel) (by decide +kernel) (fs := [.null, .null, .null, .int 0, .null, .null, .null, .null, .null, .null]) (fun j hj => by rcases (show j = 0 ∨ j = 1 ∨ j = 2 ∨ j = 3 ∨ j = 4 ∨ j = 5 ∨ j = 6 ∨ j = 7 ∨ j = 8 ∨ j = 9 by omega) with rfl | rfl | rfl | rfl | rfl | rfl | rfl | rfl | rfl | rfl <;> rfl) (Nat.le_of_ble_eq_true rfl) (Nat.le_of_ble_eq_true rfl) dL_law_0 (fun h H hh hw hS => ?_)
  refine lv_dup hx hb dL_law_3 rfl ?_
  refine xw_cv (xq_I (n := 0) (rest := [.ref h]) C hw hao (kX4_init l G s.heap.size _ h (fun _ => none) (xu_s _ _ _) (fun a e he => by cases he)) gL_law_X4_init rfl rfl rfl (by decide +kernel) (by decide +kernel) (by decide +kernel) rfl (by decide +kernel) ⟨Nat.le_of_ble_eq_true rfl, Nat.le_of_ble_eq_true rfl⟩ rfl hl.1 rfl (Nat.le_of_ble_eq_true rfl) dL_law_4 ⟨Nat.le_of_ble_eq_true rfl, Nat.le_of_ble_eq_true rfl⟩ hS) hS (fun u H locs hq hw hS => ?_)
  obtain ⟨pa, ra, cp, fr, ad, ps, eo, tb, hh, e0, e1, hC⟩ := hq
  refine lv_astore_n (lv' := [(1, .ref h), (0, .ref b)]) hx hb dL_law_7 rfl hl (by decide) rfl (fun ls hl => ?_)
  refine xw_new C hw hS (ci := 4) rfl inlX5 tyX5 tyX5_ok (by decide +kernel) (by decide +kernel) (by decide +kernel) (fs := [.int 0, .int 0, .null, .null, .null, .null, .null, .null, .null, .null, .null, .null, .null, .null, .null, .null, .null, .null, .null, .int 0]) (fun j hj => by rcases (show j = 0 ∨ j = 1 ∨ j = 2 ∨ j = 3 ∨ j = 4 ∨ j = 5 ∨ j = 6 ∨ j = 7 ∨ j = 8 ∨ j = 9 ∨ j = 10 ∨ j = 11 ∨ j = 12 ∨ j = 13 ∨ j = 14 ∨ j = 15 ∨ j = 16 ∨ j = 17 ∨ j = 18 ∨ j = 19 by omega) with rfl | rfl | rfl | rfl | rfl | rfl | rfl | rfl | rfl | rfl | rfl | rfl | rfl | rfl | rfl | rfl | rfl | rfl | rfl | rfl <;> rfl) (Nat.le_of_ble_eq_true rfl) (Nat.le_of_ble_eq_true rfl) dL_law_8 (fun mo H hmo hw hS => ?_)
  refine lv_dup hx hb dL_law_11 rfl ?_
  obtain ⟨wr, hwr1, hwr2⟩ := xoff_ex (fun a => a = mo) (xu u mo (.inr (4, [.int 0, .int 0, .null, .null, .null, .null, .null, .null, .null, .null, .null, .null, .null, .null, .null, .null, .null, .null, .null, .int 0])))
  refine xw_cv (xw_I (n := 0) (rest := [.ref mo]) C hw (kX5_init l G s.heap.size _ mo wr (xu_s _ _ _) hwr1) gL_law_X5_init rfl rfl rfl (by decide +kernel) (by decide +kernel) (by decide +kernel) rfl (by decide +kernel) ⟨Nat.le_of_ble_eq_true rfl, Nat.le_of_ble_eq_true rfl⟩ rfl hl.1 rfl (Nat.le_of_ble_eq_true rfl) dL_law_12 ⟨Nat.le_of_ble_eq_true rfl, Nat.le_of_ble_eq_true rfl⟩ hS) hS (fun u2 H locs hq hw hS => ?_)
  obtain ⟨la, ia, rq, im, lr, ro, hM, e2, e3⟩ := hq
  refine lv_astore_n (lv' := [(2, .ref mo), (1, .ref h), (0, .ref b)]) hx hb dL_law_15 rfl hl (by decide) rfl (fun ls hl => ?_)
  refine lv_iconst (v := 1) hx hb dL_law_16 (by decide) ?_
  refine xw_newa C hw hS 1 (by decide +kernel) rfl (N' := 1) (a0 := (1, .inr (.inl (fun _ => 0)))) (xz_l 1) (by decide) (by decide) (by decide) (Nat.le_of_ble_eq_true rfl) (Nat.le_of_ble_eq_true rfl) dL_law_17 (fun O H hO hw hS => ?_)
  refine lv_astore_n (lv' := [(3, .ref O), (2, .ref mo), (1, .ref h), (0, .ref b)]) hx hb dL_law_19 rfl hl (by decide) rfl (fun ls hl => ?_)
  refine lv_iconst (v := 0) hx hb dL_law_20 (by decide) ?_
  refine lv_istore (lv' := [(4, .int 0), (3, .ref O), (2, .ref mo), (1, .ref h), (0, .ref b)]) hx hb dL_law_21 hl (by decide) rfl (fun ls hl => ?_)
  have hI := xInv.start hh e0 e1 e2 e3 hC hmo hM hwr2 hO
  refine W.widen (k := 100 + 12 * 0) (n := 6000 + 200 * 0) (Nat.le_of_ble_eq_true rfl) (Nat.le_of_ble_eq_true rfl) ?_
  have hl : lv_has ls 7 [(4, .int (nI (5 * 0))), (3, .ref O), (2, .ref mo), (1, .ref h), (0, .ref b)] := by rw [show nI (5 * 0) = 0 from nI_0]; exact hl
  exact law_loop hl9 C hz hX hbl hL hr hlocks (L + 1) 0 _ _ _ _ (by omega) (Nat.zero_le _) hI hw hS hl
