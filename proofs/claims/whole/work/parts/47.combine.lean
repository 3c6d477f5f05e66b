/-! ===== what the law compares (laid by wip/whole/m_combine.py) ===== -/
def xSub (wr u : xM) : Prop := ∀ (a : Nat) (e : va_E), wr a = some e → u a = some e
/-- an answer of type boolean, as the law writes it down -/
def xZl (v : Int32) : Int64 := if v = 0 then 0 else 1
/-- the class threw, and the law caught it -/
def xHe (pE : String → xM → Prop) (u : xM) (k : Int32) : List (Int32 × String) → Prop
  | [] => False
  | z :: t => (k = z.1 ∧ pE z.2 u) ∨ xHe pE u k t
/-- how the law's own method around a call ends -/
def xHp (G : xG) (O : Nat) (fo : Nat → Int64) (post : Int32 → xM → Prop) (cv : Int32 → Int64) (pE : String → xM → Prop) (cs : List (Int32 × String)) (k : Int32) (u : xM) : Prop :=
  (k = 0 ∧ ∃ v u0, post v u0 ∧ u = xu u0 O (xOc G (vp_updL fo 0 (cv v)))) ∨ xHe pE u k cs
theorem x_updL (f : Nat → Int64) (k : Nat) (x : Int64) : vp_updL f k x k = x := by simp [vp_updL]
theorem xh_eq {md k j : Nat} {x : Int32} (h1 : x = nI k) (h2 : x = nI j) (hk : k < md) (hj : j < md) (hm : md ≤ 50) : k = j := (nI_eq (by omega) (by omega)).mp (h1.symm.trans h2)
theorem xh_9 {k j : Nat} {x : Int32} (h1 : x = nI k) (h2 : x = nI j) (hk : k < 9) (hj : j < 9) : k = j := (nI_eq (by omega) (by omega)).mp (h1.symm.trans h2)
section XCMB
variable {G : xG} {w u u' : xM} {h mo O : Nat} {la ia : Nat → Nat} {rq : Nat} {im : Nat → xP} {wr wr2 : xM} {pa ra cp fr ad : Nat → Nat} {md : Nat} {ps : Nat → xP} {eo : Nat → Option Nat} {tb : Nat → Bool} {fo : Nat → Int64} {k r' : Int32}
theorem xKp.sub (q : xKp G pa ra cp fr ad md ps wr u) : xSub wr u := by obtain ⟨p1, e1, t1, q, -⟩ := q; exact fun a e he => q.rest he
theorem xMk.sub {t b : xP} {r : Int32} (q : xMk G ad md ps wr t b r u) : xSub wr u := by obtain ⟨-, -, -, -, p1, p2, p3, p4, p5, p6, p7, q, -⟩ := q; exact fun a e he => q.rest he
theorem xMkE.sub {t b : xP} {E : String} (q : xMkE G pa ra cp fr ad md ps wr t b E u) : E = eS ∧ xSub wr u := ⟨q.1, q.2.2.sub⟩
theorem xSub.rf (hC : xCL G w pa ra cp fr ad md ps eo tb wr) (e : u = w) : xSub wr u := fun a x he => by rw [e]; exact hC.rest he
/-- the law's standing between the two calls -/
def xMid (G : xG) (w : xM) (h mo O : Nat) (pa ra cp fr ad : Nat → Nat) (md : Nat) (ps : Nat → xP) (la ia : Nat → Nat) (rq : Nat) (im : Nat → xP) (eo : Nat → Option Nat) (tb : Nat → Bool) (wr : xM) (fo : Nat → Int64) (u wr2 : xM) : Prop :=
  xPair G w h mo O pa ra cp fr ad md ps la ia rq md im ∧ xTie md ps im ∧ xCL G w pa ra cp fr ad md ps eo tb wr ∧ wr O = some (xOc G fo) ∧ (∀ (a : Nat) (e : va_E), w a = some e → ¬ xCD pa ra fr ad md a → wr a = some e) ∧ ∀ (a : Nat) (e : va_E), u a = some e → ¬ xMD mo la ia rq a → wr2 a = some e
theorem xMid.no (q : xMid G w h mo O pa ra cp fr ad md ps la ia rq im eo tb wr fo u wr2) (hK : xKp G pa ra cp fr ad md ps wr u) {c : Int32} (hm : xMK G mo la ia rq c md im wr2 u') (hk : k = c) (hc : c ≠ 0) {b : Int64} : xDone G u' h mo O k b := by
  obtain ⟨hP, hT, -, hO, hwr, hw2⟩ := q
  obtain ⟨q, e1, t1, hCL, hq⟩ := hK
  exact hP.fin (fo := fo) hwr hO hCL (Or.inl rfl) hw2 hm (hT.kp hq) hk.symm (fun z => absurd (hk.symm.trans z) hc)
theorem xMid.an (q : xMid G w h mo O pa ra cp fr ad md ps la ia rq im eo tb wr fo u wr2) {u0 : xM} (hK : xKp G pa ra cp fr ad md ps wr u0) {x b : Int64} (hu : u = xu u0 O (xOc G (vp_updL fo 0 x))) (hm : xMK G mo la ia rq 0 md im wr2 u') (hk : k = 0) (hb : x = b) : xDone G u' h mo O k b := by
  obtain ⟨hP, hT, -, hO, hwr, hw2⟩ := q
  obtain ⟨q, e1, t1, hCL, hq⟩ := hK
  exact hP.fin (fo := vp_updL fo 0 x) hwr hO hCL (Or.inr hu) hw2 hm (hT.kp hq) hk.symm (fun _ => ⟨hu, (x_updL _ _ _).trans hb⟩)
theorem xMid.mk (q : xMid G w h mo O pa ra cp fr ad md ps la ia rq im eo tb wr fo u wr2) {t b : xP} (st : xsup t 64) (sb : xsup b 64) (hb : xlen b 64 ≠ 0) {cc : Int32} (hcc : cc ≠ 0)
    (hc : (k = 0 ∧ ∃ v u0, xMk G ad md ps wr t b v u0 ∧ u = xu u0 O (xOc G (vp_updL fo 0 (Int32.toInt64 v)))) ∨ (k = cc ∧ xMkE G pa ra cp fr ad md ps wr t b eS u)) (hm : xKe G mo la ia rq md im wr2 (xnT t b) (xnB t b) cc r' u') : xDone G u' h mo O k (Int32.toInt64 r') := by
  have q0 := q
  obtain ⟨hP, hT, -, hO, hwr, hw2⟩ := q
  rcases hc with ⟨hk, v, u0, ⟨hv, hmd, l1, l2, pa', ra', cp', fr', q, e1, t1, hCL, hq, hqT, hqB⟩, hu⟩ | ⟨hk, -, hbad, hK⟩
  · rcases hm with ⟨-, hbad, -⟩ | ⟨hr, -, -, -, i2, i0, i1, j2, j3, hmk⟩
    · exfalso; rcases hbad with z | z | z <;> omega
    · have sn := xnT_sup st sb hb
      have hTie := hT.new hq hqT hqB i0 i1 j2 j3 (xnorm_low st sb hb).1 (xsup_mono (xlen_sup sn.1) l1) (xsup_mono (xlen_sup sn.2) l2)
      exact hP.fin (fo := vp_updL fo 0 (Int32.toInt64 v)) hwr hO hCL (Or.inr hu) hw2 hmk hTie hk.symm (fun _ => ⟨hu, (x_updL _ _ _).trans (by rw [hv, hr])⟩)
  · rcases hm with ⟨-, -, hmk⟩ | ⟨-, hmd, l1, l2, -⟩
    · exact q0.no hK hmk hk hcc
    · exfalso; rcases hbad with z | z | z <;> omega
theorem xMid.one (q : xMid G w h mo O pa ra cp fr ad md ps la ia rq im eo tb wr fo u wr2) {t : xP} (st : xsup t 64)
    (hc : (k = 0 ∧ ∃ v u0, xMk G ad md ps wr t x1 v u0 ∧ u = xu u0 O (xOc G (vp_updL fo 0 (Int32.toInt64 v)))) ∨ (k = 1 ∧ xMkE G pa ra cp fr ad md ps wr t x1 eS u)) (hm : xKe G mo la ia rq md im wr2 t x1 1 r' u') : xDone G u' h mo O k (Int32.toInt64 r') :=
  q.mk st (xsup_mono x1_sup (by decide)) x1_ne (by decide) hc (by rw [(xn_one st).1, (xn_one st).2]; exact hm)

theorem xp_ratio (z x : Int32) (v : Int64) (hC : xCL G w pa ra cp fr ad md ps eo tb wr) : (∀ (v9 : Int32) (u : xM), (fun r u => ∃ k, k < 4 ∧ x = nI k ∧ ((r = 1 ∧ ps (if z = 0 then 1 else 0) k ≠ xR v) ∨ (r = 0 ∧ ps (if z = 0 then 1 else 0) k = xR v)) ∧ xCL G u pa ra cp fr ad md (va_up ps (if z = 0 then 1 else 0) (va_up (ps (if z = 0 then 1 else 0)) k (xR v))) eo tb wr) v9 u → xSub wr u) ∧ ∀ (E : String) (u : xM), (fun E u => E = eG ∧ ¬ xIs 4 x ∧ u = w) E u → (E = eG) ∧ xSub wr u :=
  ⟨fun v u ⟨k, _, _, _, hq⟩ a e he => hq.rest he, fun E u q => ⟨q.1, xSub.rf hC q.2.2⟩⟩
theorem xd_ratio (z x : Int32) (v : Int64) (q : xMid G w h mo O pa ra cp fr ad md ps la ia rq im eo tb wr fo u wr2) (hk : xHp G O fo (fun r u => ∃ k, k < 4 ∧ x = nI k ∧ ((r = 1 ∧ ps (if z = 0 then 1 else 0) k ≠ xR v) ∨ (r = 0 ∧ ps (if z = 0 then 1 else 0) k = xR v)) ∧ xCL G u pa ra cp fr ad md (va_up ps (if z = 0 then 1 else 0) (va_up (ps (if z = 0 then 1 else 0)) k (xR v))) eo tb wr) xZl (fun E u => E = eG ∧ ¬ xIs 4 x ∧ u = w) [(1, eG)] k u) (hm : (fun r u => (¬ xIs 4 x ∧ r = 0 ∧ xMK G mo la ia rq 1 md im wr2 u) ∨ ∃ p1, p1 < 4 ∧ x = nI p1 ∧ ((r = 1 ∧ im (if z = 0 then 3 else 2) p1 ≠ xR v) ∨ (r = 0 ∧ im (if z = 0 then 3 else 2) p1 = xR v)) ∧ xMK G mo la ia rq 0 md (va_up im (if z = 0 then 3 else 2) (va_up (im (if z = 0 then 3 else 2)) p1 (xR v))) wr2 u) r' u') : xDone G u' h mo O k (xZl r') := by
  have hT := q.2.1
  have hC := q.2.2.1
  have m5 := hC.m50
  have hself := xKp.self hC
  rcases hm with ⟨hno, -, hmk⟩ | ⟨p1, g1, fx, ha, hmk⟩
  · rcases hk with ⟨-, v9, u0, ⟨k1, h1, ex, -⟩, -⟩ | ⟨hk, hE⟩ | hF
    · exact absurd ⟨k1, h1, ex⟩ hno
    · exact q.no (hE.2.2 ▸ hself) hmk hk (by decide)
    · exact hF.elim
  · rcases hk with ⟨hk, v9, u0, ⟨k1, h1, ex, hv, hCL⟩, hu⟩ | ⟨-, hE⟩ | hF
    · obtain rfl := xh_9 ex fx (by omega) (by omega)
      obtain ⟨hP, hT, -, hO, hwr, hw2⟩ := q
      have ej : im (if z = 0 then 3 else 2) = ps (if z = 0 then 1 else 0) := by
        by_cases hz : z = 0
        · rw [if_pos hz, if_pos hz]; exact hT.2.1
        · rw [if_neg hz, if_neg hz]; exact hT.1
      refine hP.fin (fo := vp_updL fo 0 (xZl v9)) hwr hO hCL (Or.inr hu) hw2 hmk (hT.rt g1 z (xR v)) hk.symm (fun _ => ⟨hu, (x_updL _ _ _).trans ?_⟩)
      rw [ej] at ha
      rcases hv with ⟨v1, hv⟩ | ⟨v1, hv⟩ <;> rcases ha with ⟨a1, ha⟩ | ⟨a1, ha⟩
      · rw [v1, a1]
      · exact absurd ha hv
      · exact absurd hv ha
      · rw [v1, a1]
    · exact absurd ⟨p1, g1, fx⟩ hE.2.1
    · exact hF.elim
theorem xp_number (v : Int64) (hC : xCL G w pa ra cp fr ad md ps eo tb wr) : (∀ (v9 : Int32) (u : xM), (fun r u => xMk G ad md ps wr (va_up (fun _ => 0) 0 (xR v)) (x1) r u) v9 u → xSub wr u) ∧ ∀ (E : String) (u : xM), (fun E u => xMkE G pa ra cp fr ad md ps wr (va_up (fun _ => 0) 0 (xR v)) (x1) E u) E u → (E = eS) ∧ xSub wr u :=
  ⟨fun v u q => q.sub, fun E u q => q.sub⟩
theorem xd_number (v : Int64) (q : xMid G w h mo O pa ra cp fr ad md ps la ia rq im eo tb wr fo u wr2) (hk : xHp G O fo (fun r u => xMk G ad md ps wr (va_up (fun _ => 0) 0 (xR v)) (x1) r u) Int32.toInt64 (fun E u => xMkE G pa ra cp fr ad md ps wr (va_up (fun _ => 0) 0 (xR v)) (x1) E u) [(1, eS)] k u) (hm : (fun r u => xKe G mo la ia rq md im wr2 (va_up (fun _ => 0) 0 (xR v)) (va_up (fun _ => 0) 0 1) 1 r u) r' u') : xDone G u' h mo O k (Int32.toInt64 r') := by
  exact q.one (xc_sup (by decide)) (hk.elim Or.inl (fun z => z.elim Or.inr False.elim)) hm
theorem xp_letter  (hC : xCL G w pa ra cp fr ad md ps eo tb wr) : (∀ (v9 : Int32) (u : xM), (fun r u => xMk G ad md ps wr (va_up (fun _ => 0) 1 1) (x1) r u) v9 u → xSub wr u) ∧ ∀ (E : String) (u : xM), (fun E u => xMkE G pa ra cp fr ad md ps wr (va_up (fun _ => 0) 1 1) (x1) E u) E u → (E = eS) ∧ xSub wr u :=
  ⟨fun v u q => q.sub, fun E u q => q.sub⟩
theorem xd_letter  (q : xMid G w h mo O pa ra cp fr ad md ps la ia rq im eo tb wr fo u wr2) (hk : xHp G O fo (fun r u => xMk G ad md ps wr (va_up (fun _ => 0) 1 1) (x1) r u) Int32.toInt64 (fun E u => xMkE G pa ra cp fr ad md ps wr (va_up (fun _ => 0) 1 1) (x1) E u) [(1, eS)] k u) (hm : (fun r u => xKe G mo la ia rq md im wr2 (va_up (fun _ => 0) 1 1) (va_up (fun _ => 0) 0 1) 1 r u) r' u') : xDone G u' h mo O k (Int32.toInt64 r') := by
  exact q.one (xc_sup (by decide)) (hk.elim Or.inl (fun z => z.elim Or.inr False.elim)) hm
theorem xp_add (x y : Int32) (hC : xCL G w pa ra cp fr ad md ps eo tb wr) : (∀ (v9 : Int32) (u : xM), (fun r u => ∃ k1 k2, k1 < md ∧ k2 < md ∧ x = nI k1 ∧ y = nI k2 ∧ xMk G ad md ps wr (xgat (xmul (ps (21 + 2 * k1)) (ps (22 + 2 * k2))) (xO 1) (xmul (ps (21 + 2 * k2)) (ps (22 + 2 * k1))) 0) (xmul (ps (22 + 2 * k1)) (ps (22 + 2 * k2))) r u) v9 u → xSub wr u) ∧ ∀ (E : String) (u : xM), (fun E u => (E = eI ∧ ¬ (xIs md x ∧ xIs md y) ∧ xKp G pa ra cp fr ad md ps wr u) ∨ (∃ k1 k2, k1 < md ∧ k2 < md ∧ x = nI k1 ∧ y = nI k2 ∧ xMkE G pa ra cp fr ad md ps wr (xgat (xmul (ps (21 + 2 * k1)) (ps (22 + 2 * k2))) (xO 1) (xmul (ps (21 + 2 * k2)) (ps (22 + 2 * k1))) 0) (xmul (ps (22 + 2 * k1)) (ps (22 + 2 * k2))) E u)) E u → (E = eI ∨ E = eS) ∧ xSub wr u :=
  ⟨fun v u ⟨k1, k2, _, _, _, _, q⟩ => q.sub, fun E u q => by
  rcases q with ⟨e, -, q⟩ | ⟨k1, k2, -, -, -, -, q⟩
  · exact ⟨Or.inl e, q.sub⟩
  · exact ⟨Or.inr q.1, q.sub.2⟩⟩
theorem xd_add (x y : Int32) (q : xMid G w h mo O pa ra cp fr ad md ps la ia rq im eo tb wr fo u wr2) (hk : xHp G O fo (fun r u => ∃ k1 k2, k1 < md ∧ k2 < md ∧ x = nI k1 ∧ y = nI k2 ∧ xMk G ad md ps wr (xgat (xmul (ps (21 + 2 * k1)) (ps (22 + 2 * k2))) (xO 1) (xmul (ps (21 + 2 * k2)) (ps (22 + 2 * k1))) 0) (xmul (ps (22 + 2 * k1)) (ps (22 + 2 * k2))) r u) Int32.toInt64 (fun E u => (E = eI ∧ ¬ (xIs md x ∧ xIs md y) ∧ xKp G pa ra cp fr ad md ps wr u) ∨ (∃ k1 k2, k1 < md ∧ k2 < md ∧ x = nI k1 ∧ y = nI k2 ∧ xMkE G pa ra cp fr ad md ps wr (xgat (xmul (ps (21 + 2 * k1)) (ps (22 + 2 * k2))) (xO 1) (xmul (ps (21 + 2 * k2)) (ps (22 + 2 * k1))) 0) (xmul (ps (22 + 2 * k1)) (ps (22 + 2 * k2))) E u)) [(1, eI), (2, eS)] k u) (hm : (fun r u => (¬ (xIs md x ∧ xIs md y) ∧ r = 0 ∧ xMK G mo la ia rq 1 md im wr2 u) ∨ ∃ k1 k2, k1 < md ∧ k2 < md ∧ x = nI k1 ∧ y = nI k2 ∧ xKe G mo la ia rq md im wr2 (xnT (xad (xmul (xTm im k2) (xBm im k1)) (xmul (xTm im k1) (xBm im k2))) (xmul (xBm im k2) (xBm im k1))) (xnB (xad (xmul (xTm im k2) (xBm im k1)) (xmul (xTm im k1) (xBm im k2))) (xmul (xBm im k2) (xBm im k1))) 2 r u) r' u') : xDone G u' h mo O k (Int32.toInt64 r') := by
  have hT := q.2.1
  have hC := q.2.2.1
  have m5 := hC.m50
  rcases hm with ⟨hno, -, hmk⟩ | ⟨j1, j2, g1, g2, fx, fy, hke⟩
  · rcases hk with ⟨-, v, u0, ⟨k1, k2, h1, h2, ex, ey, -⟩, -⟩ | ⟨hk, hE⟩ | ⟨-, hE⟩ | hF
    · exact absurd ⟨⟨k1, h1, ex⟩, ⟨k2, h2, ey⟩⟩ hno
    · rcases hE with ⟨-, -, hK⟩ | ⟨k1, k2, -, -, -, -, hE⟩
      · exact q.no hK hmk hk (by decide)
      · exact absurd hE.1 (by decide)
    · rcases hE with ⟨e, -⟩ | ⟨k1, k2, h1, h2, ex, ey, -⟩
      · exact absurd e (by decide)
      · exact absurd ⟨⟨k1, h1, ex⟩, ⟨k2, h2, ey⟩⟩ hno
    · exact hF.elim
  · have s1 := hT.sT g1
    have s2 := hT.sT g2
    have b1 := hT.sB g1
    have b2 := hT.sB g2
    have n1 := hT.ne g1
    have n2 := hT.ne g2
    rw [hT.T g1, hT.T g2, hT.B g1, hT.B g2] at hke
    rw [xad_comm, ← xgat_1, xmul_comm (ps (22 + 2 * j2))] at hke
    refine q.mk (xgat_sup (k := 64) (xsup_mono (xmul_sup s1 b2) (by decide)) (xsup_mono (xmul_sup s2 b1) (by decide)) (by decide)) (xsup_mono (xmul_sup b1 b2) (by decide)) (xlen_mul_ne b1 b2 (by decide) (by decide) (by decide) n1 n2) (by decide) ?_ hke
    rcases hk with ⟨hk, v, u0, ⟨k1, k2, h1, h2, ex, ey, hmk⟩, hu⟩ | ⟨-, hE⟩ | ⟨hk, hE⟩ | hF
    · obtain rfl := xh_eq ex fx h1 g1 m5
      obtain rfl := xh_eq ey fy h2 g2 m5
      exact Or.inl ⟨hk, v, u0, hmk, hu⟩
    · rcases hE with ⟨-, hno, -⟩ | ⟨k1, k2, -, -, -, -, hE⟩
      · exact absurd ⟨⟨j1, g1, fx⟩, ⟨j2, g2, fy⟩⟩ hno
      · exact absurd hE.1 (by decide)
    · rcases hE with ⟨e, -⟩ | ⟨k1, k2, h1, h2, ex, ey, hmk⟩
      · exact absurd e (by decide)
      · obtain rfl := xh_eq ex fx h1 g1 m5
        obtain rfl := xh_eq ey fy h2 g2 m5
        exact Or.inr ⟨hk, hmk⟩
    · exact hF.elim
theorem xp_times (x y : Int32) (hC : xCL G w pa ra cp fr ad md ps eo tb wr) : (∀ (v9 : Int32) (u : xM), (fun r u => ∃ k1 k2, k1 < md ∧ k2 < md ∧ x = nI k1 ∧ y = nI k2 ∧ xMk G ad md ps wr (xmul (ps (21 + 2 * k1)) (ps (21 + 2 * k2))) (xmul (ps (22 + 2 * k1)) (ps (22 + 2 * k2))) r u) v9 u → xSub wr u) ∧ ∀ (E : String) (u : xM), (fun E u => (E = eI ∧ ¬ (xIs md x ∧ xIs md y) ∧ xKp G pa ra cp fr ad md ps wr u) ∨ (∃ k1 k2, k1 < md ∧ k2 < md ∧ x = nI k1 ∧ y = nI k2 ∧ xMkE G pa ra cp fr ad md ps wr (xmul (ps (21 + 2 * k1)) (ps (21 + 2 * k2))) (xmul (ps (22 + 2 * k1)) (ps (22 + 2 * k2))) E u)) E u → (E = eI ∨ E = eS) ∧ xSub wr u :=
  ⟨fun v u ⟨k1, k2, _, _, _, _, q⟩ => q.sub, fun E u q => by
  rcases q with ⟨e, -, q⟩ | ⟨k1, k2, -, -, -, -, q⟩
  · exact ⟨Or.inl e, q.sub⟩
  · exact ⟨Or.inr q.1, q.sub.2⟩⟩
theorem xd_times (x y : Int32) (q : xMid G w h mo O pa ra cp fr ad md ps la ia rq im eo tb wr fo u wr2) (hk : xHp G O fo (fun r u => ∃ k1 k2, k1 < md ∧ k2 < md ∧ x = nI k1 ∧ y = nI k2 ∧ xMk G ad md ps wr (xmul (ps (21 + 2 * k1)) (ps (21 + 2 * k2))) (xmul (ps (22 + 2 * k1)) (ps (22 + 2 * k2))) r u) Int32.toInt64 (fun E u => (E = eI ∧ ¬ (xIs md x ∧ xIs md y) ∧ xKp G pa ra cp fr ad md ps wr u) ∨ (∃ k1 k2, k1 < md ∧ k2 < md ∧ x = nI k1 ∧ y = nI k2 ∧ xMkE G pa ra cp fr ad md ps wr (xmul (ps (21 + 2 * k1)) (ps (21 + 2 * k2))) (xmul (ps (22 + 2 * k1)) (ps (22 + 2 * k2))) E u)) [(1, eI), (2, eS)] k u) (hm : (fun r u => (¬ (xIs md x ∧ xIs md y) ∧ r = 0 ∧ xMK G mo la ia rq 1 md im wr2 u) ∨ ∃ k1 k2, k1 < md ∧ k2 < md ∧ x = nI k1 ∧ y = nI k2 ∧ xKe G mo la ia rq md im wr2 (xnT (xmul (xTm im k1) (xTm im k2)) (xmul (xBm im k1) (xBm im k2))) (xnB (xmul (xTm im k1) (xTm im k2)) (xmul (xBm im k1) (xBm im k2))) 2 r u) r' u') : xDone G u' h mo O k (Int32.toInt64 r') := by
  have hT := q.2.1
  have hC := q.2.2.1
  have m5 := hC.m50
  rcases hm with ⟨hno, -, hmk⟩ | ⟨j1, j2, g1, g2, fx, fy, hke⟩
  · rcases hk with ⟨-, v, u0, ⟨k1, k2, h1, h2, ex, ey, -⟩, -⟩ | ⟨hk, hE⟩ | ⟨-, hE⟩ | hF
    · exact absurd ⟨⟨k1, h1, ex⟩, ⟨k2, h2, ey⟩⟩ hno
    · rcases hE with ⟨-, -, hK⟩ | ⟨k1, k2, -, -, -, -, hE⟩
      · exact q.no hK hmk hk (by decide)
      · exact absurd hE.1 (by decide)
    · rcases hE with ⟨e, -⟩ | ⟨k1, k2, h1, h2, ex, ey, -⟩
      · exact absurd e (by decide)
      · exact absurd ⟨⟨k1, h1, ex⟩, ⟨k2, h2, ey⟩⟩ hno
    · exact hF.elim
  · have s1 := hT.sT g1
    have s2 := hT.sT g2
    have b1 := hT.sB g1
    have b2 := hT.sB g2
    have n1 := hT.ne g1
    have n2 := hT.ne g2
    rw [hT.T g1, hT.T g2, hT.B g1, hT.B g2] at hke
    refine q.mk (xsup_mono (xmul_sup s1 s2) (by decide)) (xsup_mono (xmul_sup b1 b2) (by decide)) (xlen_mul_ne b1 b2 (by decide) (by decide) (by decide) n1 n2) (by decide) ?_ hke
    rcases hk with ⟨hk, v, u0, ⟨k1, k2, h1, h2, ex, ey, hmk⟩, hu⟩ | ⟨-, hE⟩ | ⟨hk, hE⟩ | hF
    · obtain rfl := xh_eq ex fx h1 g1 m5
      obtain rfl := xh_eq ey fy h2 g2 m5
      exact Or.inl ⟨hk, v, u0, hmk, hu⟩
    · rcases hE with ⟨-, hno, -⟩ | ⟨k1, k2, -, -, -, -, hE⟩
      · exact absurd ⟨⟨j1, g1, fx⟩, ⟨j2, g2, fy⟩⟩ hno
      · exact absurd hE.1 (by decide)
    · rcases hE with ⟨e, -⟩ | ⟨k1, k2, h1, h2, ex, ey, hmk⟩
      · exact absurd e (by decide)
      · obtain rfl := xh_eq ex fx h1 g1 m5
        obtain rfl := xh_eq ey fy h2 g2 m5
        exact Or.inr ⟨hk, hmk⟩
    · exact hF.elim
theorem xp_over (x y : Int32) (hC : xCL G w pa ra cp fr ad md ps eo tb wr) : (∀ (v9 : Int32) (u : xM), (fun r u => ∃ k1 k2, k1 < md ∧ k2 < md ∧ x = nI k1 ∧ y = nI k2 ∧ xlen (ps (21 + 2 * k2)) 64 ≠ 0 ∧ xMk G ad md ps wr (xmul (ps (21 + 2 * k1)) (ps (22 + 2 * k2))) (xmul (ps (22 + 2 * k1)) (ps (21 + 2 * k2))) r u) v9 u → xSub wr u) ∧ ∀ (E : String) (u : xM), (fun E u => (E = eI ∧ ¬ (xIs md x ∧ xIs md y) ∧ xKp G pa ra cp fr ad md ps wr u) ∨ (∃ k1 k2, k1 < md ∧ k2 < md ∧ x = nI k1 ∧ y = nI k2 ∧ xlen (ps (21 + 2 * k2)) 64 ≠ 0 ∧ xMkE G pa ra cp fr ad md ps wr (xmul (ps (21 + 2 * k1)) (ps (22 + 2 * k2))) (xmul (ps (22 + 2 * k1)) (ps (21 + 2 * k2))) E u) ∨ (E = eA ∧ (∃ k1 k2, k1 < md ∧ k2 < md ∧ x = nI k1 ∧ y = nI k2 ∧ xlen (ps (21 + 2 * k2)) 64 = 0) ∧ xKp G pa ra cp fr ad md ps wr u)) E u → (E = eI ∨ E = eA ∨ E = eS) ∧ xSub wr u :=
  ⟨fun v u ⟨k1, k2, _, _, _, _, _, q⟩ => q.sub, fun E u q => by
  rcases q with ⟨e, -, q⟩ | ⟨k1, k2, -, -, -, -, -, q⟩ | ⟨e, -, q⟩
  · exact ⟨Or.inl e, q.sub⟩
  · exact ⟨Or.inr (Or.inr q.1), q.sub.2⟩
  · exact ⟨Or.inr (Or.inl e), q.sub⟩⟩
theorem xd_over (x y : Int32) (q : xMid G w h mo O pa ra cp fr ad md ps la ia rq im eo tb wr fo u wr2) (hk : xHp G O fo (fun r u => ∃ k1 k2, k1 < md ∧ k2 < md ∧ x = nI k1 ∧ y = nI k2 ∧ xlen (ps (21 + 2 * k2)) 64 ≠ 0 ∧ xMk G ad md ps wr (xmul (ps (21 + 2 * k1)) (ps (22 + 2 * k2))) (xmul (ps (22 + 2 * k1)) (ps (21 + 2 * k2))) r u) Int32.toInt64 (fun E u => (E = eI ∧ ¬ (xIs md x ∧ xIs md y) ∧ xKp G pa ra cp fr ad md ps wr u) ∨ (∃ k1 k2, k1 < md ∧ k2 < md ∧ x = nI k1 ∧ y = nI k2 ∧ xlen (ps (21 + 2 * k2)) 64 ≠ 0 ∧ xMkE G pa ra cp fr ad md ps wr (xmul (ps (21 + 2 * k1)) (ps (22 + 2 * k2))) (xmul (ps (22 + 2 * k1)) (ps (21 + 2 * k2))) E u) ∨ (E = eA ∧ (∃ k1 k2, k1 < md ∧ k2 < md ∧ x = nI k1 ∧ y = nI k2 ∧ xlen (ps (21 + 2 * k2)) 64 = 0) ∧ xKp G pa ra cp fr ad md ps wr u)) [(1, eI), (2, eA), (3, eS)] k u) (hm : (fun r u => (¬ (xIs md x ∧ xIs md y) ∧ r = 0 ∧ xMK G mo la ia rq 1 md im wr2 u) ∨ (∃ k1 k2, k1 < md ∧ k2 < md ∧ x = nI k1 ∧ y = nI k2 ∧ xlen (xTm im k2) 64 = 0 ∧ r = 0 ∧ xMK G mo la ia rq 2 md im wr2 u) ∨ ∃ k1 k2, k1 < md ∧ k2 < md ∧ x = nI k1 ∧ y = nI k2 ∧ xlen (xTm im k2) 64 ≠ 0 ∧ xKe G mo la ia rq md im wr2 (xnT (xmul (xTm im k1) (xBm im k2)) (xmul (xBm im k1) (xTm im k2))) (xnB (xmul (xTm im k1) (xBm im k2)) (xmul (xBm im k1) (xTm im k2))) 3 r u) r' u') : xDone G u' h mo O k (Int32.toInt64 r') := by
  have hT := q.2.1
  have hC := q.2.2.1
  have m5 := hC.m50
  rcases hm with ⟨hno, -, hmk⟩ | ⟨j1, j2, g1, g2, fx, fy, hz, -, hmk⟩ | ⟨j1, j2, g1, g2, fx, fy, hz, hke⟩
  · rcases hk with ⟨-, v, u0, ⟨k1, k2, h1, h2, ex, ey, -⟩, -⟩ | ⟨hk, hE⟩ | ⟨-, hE⟩ | ⟨-, hE⟩ | hF
    · exact absurd ⟨⟨k1, h1, ex⟩, ⟨k2, h2, ey⟩⟩ hno
    · rcases hE with ⟨-, -, hK⟩ | ⟨k1, k2, -, -, -, -, -, hE⟩ | ⟨e, -⟩
      · exact q.no hK hmk hk (by decide)
      · exact absurd hE.1 (by decide)
      · exact absurd e (by decide)
    · rcases hE with ⟨e, -⟩ | ⟨k1, k2, -, -, -, -, -, hE⟩ | ⟨-, ⟨k1, k2, h1, h2, ex, ey, -⟩, -⟩
      · exact absurd e (by decide)
      · exact absurd hE.1 (by decide)
      · exact absurd ⟨⟨k1, h1, ex⟩, ⟨k2, h2, ey⟩⟩ hno
    · rcases hE with ⟨e, -⟩ | ⟨k1, k2, h1, h2, ex, ey, -⟩ | ⟨e, -⟩
      · exact absurd e (by decide)
      · exact absurd ⟨⟨k1, h1, ex⟩, ⟨k2, h2, ey⟩⟩ hno
      · exact absurd e (by decide)
    · exact hF.elim
  · rw [hT.T g2] at hz
    rcases hk with ⟨-, v, u0, ⟨k1, k2, h1, h2, ex, ey, hz2, -⟩, -⟩ | ⟨-, hE⟩ | ⟨hk, hE⟩ | ⟨-, hE⟩ | hF
    · obtain rfl := xh_eq ey fy h2 g2 m5
      exact absurd hz hz2
    · rcases hE with ⟨-, hno, -⟩ | ⟨k1, k2, -, -, -, -, -, hE⟩ | ⟨e, -⟩
      · exact absurd ⟨⟨j1, g1, fx⟩, ⟨j2, g2, fy⟩⟩ hno
      · exact absurd hE.1 (by decide)
      · exact absurd e (by decide)
    · rcases hE with ⟨e, -⟩ | ⟨k1, k2, -, -, -, -, -, hE⟩ | ⟨-, -, hK⟩
      · exact absurd e (by decide)
      · exact absurd hE.1 (by decide)
      · exact q.no hK hmk hk (by decide)
    · rcases hE with ⟨e, -⟩ | ⟨k1, k2, h1, h2, ex, ey, hz2, -⟩ | ⟨e, -⟩
      · exact absurd e (by decide)
      · obtain rfl := xh_eq ey fy h2 g2 m5
        exact absurd hz hz2
      · exact absurd e (by decide)
    · exact hF.elim
  · have s1 := hT.sT g1
    have s2 := hT.sT g2
    have b1 := hT.sB g1
    have b2 := hT.sB g2
    have n1 := hT.ne g1
    rw [hT.T g1, hT.T g2, hT.B g1, hT.B g2] at hke
    rw [hT.T g2] at hz
    refine q.mk (xsup_mono (xmul_sup s1 b2) (by decide)) (xsup_mono (xmul_sup b1 s2) (by decide)) (xlen_mul_ne b1 s2 (by decide) (by decide) (by decide) n1 hz) (by decide) ?_ hke
    rcases hk with ⟨hk, v, u0, ⟨k1, k2, h1, h2, ex, ey, -, hmk⟩, hu⟩ | ⟨-, hE⟩ | ⟨-, hE⟩ | ⟨hk, hE⟩ | hF
    · obtain rfl := xh_eq ex fx h1 g1 m5
      obtain rfl := xh_eq ey fy h2 g2 m5
      exact Or.inl ⟨hk, v, u0, hmk, hu⟩
    · rcases hE with ⟨-, hno, -⟩ | ⟨k1, k2, -, -, -, -, -, hE⟩ | ⟨e, -⟩
      · exact absurd ⟨⟨j1, g1, fx⟩, ⟨j2, g2, fy⟩⟩ hno
      · exact absurd hE.1 (by decide)
      · exact absurd e (by decide)
    · rcases hE with ⟨e, -⟩ | ⟨k1, k2, -, -, -, -, -, hE⟩ | ⟨-, ⟨k1, k2, h1, h2, ex, ey, hz2⟩, -⟩
      · exact absurd e (by decide)
      · exact absurd hE.1 (by decide)
      · obtain rfl := xh_eq ey fy h2 g2 m5
        exact absurd hz2 hz
    · rcases hE with ⟨e, -⟩ | ⟨k1, k2, h1, h2, ex, ey, -, hmk⟩ | ⟨e, -⟩
      · exact absurd e (by decide)
      · obtain rfl := xh_eq ex fx h1 g1 m5
        obtain rfl := xh_eq ey fy h2 g2 m5
        exact Or.inr ⟨hk, hmk⟩
      · exact absurd e (by decide)
    · exact hF.elim
theorem xp_moved (x : Int32) (hC : xCL G w pa ra cp fr ad md ps eo tb wr) : (∀ (v9 : Int32) (u : xM), (fun r u => ∃ k1, k1 < md ∧ x = nI k1 ∧ xMk G ad md ps wr (xmv 64 (ps (21 + 2 * k1))) (xmv 64 (ps (22 + 2 * k1))) r u) v9 u → xSub wr u) ∧ ∀ (E : String) (u : xM), (fun E u => (E = eI ∧ ¬ xIs md x ∧ xKp G pa ra cp fr ad md ps wr u) ∨ (∃ k1, k1 < md ∧ x = nI k1 ∧ xMkE G pa ra cp fr ad md ps wr (xmv 64 (ps (21 + 2 * k1))) (xmv 64 (ps (22 + 2 * k1))) E u)) E u → (E = eI ∨ E = eS) ∧ xSub wr u :=
  ⟨fun v u ⟨k1, _, _, q⟩ => q.sub, fun E u q => by
  rcases q with ⟨e, -, q⟩ | ⟨k1, -, -, q⟩
  · exact ⟨Or.inl e, q.sub⟩
  · exact ⟨Or.inr q.1, q.sub.2⟩⟩
theorem xd_moved (x : Int32) (q : xMid G w h mo O pa ra cp fr ad md ps la ia rq im eo tb wr fo u wr2) (hk : xHp G O fo (fun r u => ∃ k1, k1 < md ∧ x = nI k1 ∧ xMk G ad md ps wr (xmv 64 (ps (21 + 2 * k1))) (xmv 64 (ps (22 + 2 * k1))) r u) Int32.toInt64 (fun E u => (E = eI ∧ ¬ xIs md x ∧ xKp G pa ra cp fr ad md ps wr u) ∨ (∃ k1, k1 < md ∧ x = nI k1 ∧ xMkE G pa ra cp fr ad md ps wr (xmv 64 (ps (21 + 2 * k1))) (xmv 64 (ps (22 + 2 * k1))) E u)) [(1, eI), (2, eS)] k u) (hm : (fun r u => (¬ xIs md x ∧ r = 0 ∧ xMK G mo la ia rq 1 md im wr2 u) ∨ ∃ k1, k1 < md ∧ x = nI k1 ∧ xKe G mo la ia rq md im wr2 (xmM 63 (xTm im k1)) (xmM 63 (xBm im k1)) 2 r u) r' u') : xDone G u' h mo O k (Int32.toInt64 r') := by
  have hT := q.2.1
  have hC := q.2.2.1
  have m5 := hC.m50
  rcases hm with ⟨hno, -, hmk⟩ | ⟨j1, g1, fx, hke⟩
  · rcases hk with ⟨-, v, u0, ⟨k1, h1, ex, -⟩, -⟩ | ⟨hk, hE⟩ | ⟨-, hE⟩ | hF
    · exact absurd ⟨k1, h1, ex⟩ hno
    · rcases hE with ⟨-, -, hK⟩ | ⟨k1, -, -, hE⟩
      · exact q.no hK hmk hk (by decide)
      · exact absurd hE.1 (by decide)
    · rcases hE with ⟨e, -⟩ | ⟨k1, h1, ex, -⟩
      · exact absurd e (by decide)
      · exact absurd ⟨k1, h1, ex⟩ hno
    · exact hF.elim
  · have s1 := xsup_mono (hT.sT g1) (show 21 ≤ 64 by decide)
    have b1 := xsup_mono (hT.sB g1) (show 21 ≤ 64 by decide)
    rw [hT.T g1, hT.B g1, ← (xn_mv (hT.L g1) s1 b1).1, ← (xn_mv (hT.L g1) s1 b1).2] at hke
    refine q.mk (xmv_sup s1 s1) (xmv_sup b1 b1) (by rw [xmv_len b1]; exact hT.ne g1) (by decide) ?_ hke
    rcases hk with ⟨hk, v, u0, ⟨k1, h1, ex, hmk⟩, hu⟩ | ⟨-, hE⟩ | ⟨hk, hE⟩ | hF
    · obtain rfl := xh_eq ex fx h1 g1 m5
      exact Or.inl ⟨hk, v, u0, hmk, hu⟩
    · rcases hE with ⟨-, hno, -⟩ | ⟨k1, -, -, hE⟩
      · exact absurd ⟨j1, g1, fx⟩ hno
      · exact absurd hE.1 (by decide)
    · rcases hE with ⟨e, -⟩ | ⟨k1, h1, ex, hmk⟩
      · exact absurd e (by decide)
      · obtain rfl := xh_eq ex fx h1 g1 m5
        exact Or.inr ⟨hk, hmk⟩
    · exact hF.elim
theorem xp_step (x : Int32) (hC : xCL G w pa ra cp fr ad md ps eo tb wr) : (∀ (v9 : Int32) (u : xM), (fun r u => ∃ k1, k1 < md ∧ x = nI k1 ∧ xlen (ps 1) 64 ≠ 0 ∧ xMk G ad md ps wr (xgat (xmul (xmul (xmv 64 (ps (21 + 2 * k1))) (ps 0)) (ps (22 + 2 * k1))) (xO 32002) (xmul (xmul (xmv 64 (ps (22 + 2 * k1))) (ps 1)) (ps (21 + 2 * k1))) 0) (xmul (xmul (xmv 64 (ps (22 + 2 * k1))) (ps 1)) (ps (22 + 2 * k1))) r u) v9 u → xSub wr u) ∧ ∀ (E : String) (u : xM), (fun E u => (E = eI ∧ ¬ xIs md x ∧ xKp G pa ra cp fr ad md ps wr u) ∨ (E = eA ∧ xIs md x ∧ xlen (ps 1) 64 = 0 ∧ xKp G pa ra cp fr ad md ps wr u) ∨ (∃ k1, k1 < md ∧ x = nI k1 ∧ xlen (ps 1) 64 ≠ 0 ∧ xMkE G pa ra cp fr ad md ps wr (xgat (xmul (xmul (xmv 64 (ps (21 + 2 * k1))) (ps 0)) (ps (22 + 2 * k1))) (xO 32002) (xmul (xmul (xmv 64 (ps (22 + 2 * k1))) (ps 1)) (ps (21 + 2 * k1))) 0) (xmul (xmul (xmv 64 (ps (22 + 2 * k1))) (ps 1)) (ps (22 + 2 * k1))) E u)) E u → (E = eI ∨ E = eA ∨ E = eS) ∧ xSub wr u :=
  ⟨fun v u ⟨k1, _, _, _, q⟩ => q.sub, fun E u q => by
  rcases q with ⟨e, -, q⟩ | ⟨e, -, -, q⟩ | ⟨k1, -, -, -, q⟩
  · exact ⟨Or.inl e, q.sub⟩
  · exact ⟨Or.inr (Or.inl e), q.sub⟩
  · exact ⟨Or.inr (Or.inr q.1), q.sub.2⟩⟩
theorem xd_step (x : Int32) (q : xMid G w h mo O pa ra cp fr ad md ps la ia rq im eo tb wr fo u wr2) (hk : xHp G O fo (fun r u => ∃ k1, k1 < md ∧ x = nI k1 ∧ xlen (ps 1) 64 ≠ 0 ∧ xMk G ad md ps wr (xgat (xmul (xmul (xmv 64 (ps (21 + 2 * k1))) (ps 0)) (ps (22 + 2 * k1))) (xO 32002) (xmul (xmul (xmv 64 (ps (22 + 2 * k1))) (ps 1)) (ps (21 + 2 * k1))) 0) (xmul (xmul (xmv 64 (ps (22 + 2 * k1))) (ps 1)) (ps (22 + 2 * k1))) r u) Int32.toInt64 (fun E u => (E = eI ∧ ¬ xIs md x ∧ xKp G pa ra cp fr ad md ps wr u) ∨ (E = eA ∧ xIs md x ∧ xlen (ps 1) 64 = 0 ∧ xKp G pa ra cp fr ad md ps wr u) ∨ (∃ k1, k1 < md ∧ x = nI k1 ∧ xlen (ps 1) 64 ≠ 0 ∧ xMkE G pa ra cp fr ad md ps wr (xgat (xmul (xmul (xmv 64 (ps (21 + 2 * k1))) (ps 0)) (ps (22 + 2 * k1))) (xO 32002) (xmul (xmul (xmv 64 (ps (22 + 2 * k1))) (ps 1)) (ps (21 + 2 * k1))) 0) (xmul (xmul (xmv 64 (ps (22 + 2 * k1))) (ps 1)) (ps (22 + 2 * k1))) E u)) [(1, eI), (2, eA), (3, eS)] k u) (hm : (fun r u => (¬ xIs md x ∧ r = 0 ∧ xMK G mo la ia rq 1 md im wr2 u) ∨ (∃ k1, k1 < md ∧ x = nI k1 ∧ xlen (im 3) 64 = 0 ∧ r = 0 ∧ xMK G mo la ia rq 2 md im wr2 u) ∨ ∃ k1, k1 < md ∧ x = nI k1 ∧ xlen (im 3) 64 ≠ 0 ∧ xKe G mo la ia rq md im wr2 (xnT (xstN (xTm im k1) (xBm im k1) (im 2) (im 3)) (xstD (xBm im k1) (im 3))) (xnB (xstN (xTm im k1) (xBm im k1) (im 2) (im 3)) (xstD (xBm im k1) (im 3))) 3 r u) r' u') : xDone G u' h mo O k (Int32.toInt64 r') := by
  have hT := q.2.1
  have hC := q.2.2.1
  have m5 := hC.m50
  have e2 := hT.1
  have e3 := hT.2.1
  have sA := hT.2.2.1
  have sB := hT.2.2.2.1
  rw [e2, e3] at hm
  rcases hm with ⟨hno, -, hmk⟩ | ⟨j1, g1, fx, hz, -, hmk⟩ | ⟨j1, g1, fx, hz, hke⟩
  · rcases hk with ⟨-, v, u0, ⟨k1, h1, ex, -⟩, -⟩ | ⟨hk, hE⟩ | ⟨-, hE⟩ | ⟨-, hE⟩ | hF
    · exact absurd ⟨k1, h1, ex⟩ hno
    · rcases hE with ⟨-, -, hK⟩ | ⟨e, -⟩ | ⟨k1, -, -, -, hE⟩
      · exact q.no hK hmk hk (by decide)
      · exact absurd e (by decide)
      · exact absurd hE.1 (by decide)
    · rcases hE with ⟨e, -⟩ | ⟨-, hi, -⟩ | ⟨k1, -, -, -, hE⟩
      · exact absurd e (by decide)
      · exact absurd hi hno
      · exact absurd hE.1 (by decide)
    · rcases hE with ⟨e, -⟩ | ⟨e, -⟩ | ⟨k1, h1, ex, -⟩
      · exact absurd e (by decide)
      · exact absurd e (by decide)
      · exact absurd ⟨k1, h1, ex⟩ hno
    · exact hF.elim
  · rcases hk with ⟨-, v, u0, ⟨k1, h1, ex, hz2, -⟩, -⟩ | ⟨-, hE⟩ | ⟨hk, hE⟩ | ⟨-, hE⟩ | hF
    · exact absurd hz hz2
    · rcases hE with ⟨-, hno, -⟩ | ⟨e, -⟩ | ⟨k1, -, -, -, hE⟩
      · exact absurd ⟨j1, g1, fx⟩ hno
      · exact absurd e (by decide)
      · exact absurd hE.1 (by decide)
    · rcases hE with ⟨e, -⟩ | ⟨-, -, -, hK⟩ | ⟨k1, -, -, -, hE⟩
      · exact absurd e (by decide)
      · exact q.no hK hmk hk (by decide)
      · exact absurd hE.1 (by decide)
    · rcases hE with ⟨e, -⟩ | ⟨e, -⟩ | ⟨k1, h1, ex, hz2, -⟩
      · exact absurd e (by decide)
      · exact absurd e (by decide)
      · exact absurd hz hz2
    · exact hF.elim
  · have s1 := hT.sT g1
    have b1 := hT.sB g1
    have n1 := hT.ne g1
    have s6 := xsup_mono s1 (show 21 ≤ 64 by decide)
    have b6 := xsup_mono b1 (show 21 ≤ 64 by decide)
    rw [hT.T g1, hT.B g1, ← xst_N s6 b6, ← xst_D b6] at hke
    refine q.mk (by rw [xst_N s6 b6]; exact xstN_s s1 b1 sA sB) (by rw [xst_D b6]; exact xstD_s b1 sB) (by rw [xst_D b6]; exact xstD_ne b1 sB n1 hz) (by decide) ?_ hke
    rcases hk with ⟨hk, v, u0, ⟨k1, h1, ex, -, hmk⟩, hu⟩ | ⟨-, hE⟩ | ⟨-, hE⟩ | ⟨hk, hE⟩ | hF
    · obtain rfl := xh_eq ex fx h1 g1 m5
      exact Or.inl ⟨hk, v, u0, hmk, hu⟩
    · rcases hE with ⟨-, hno, -⟩ | ⟨e, -⟩ | ⟨k1, -, -, -, hE⟩
      · exact absurd ⟨j1, g1, fx⟩ hno
      · exact absurd e (by decide)
      · exact absurd hE.1 (by decide)
    · rcases hE with ⟨e, -⟩ | ⟨-, -, hz2, -⟩ | ⟨k1, -, -, -, hE⟩
      · exact absurd e (by decide)
      · exact absurd hz2 hz
      · exact absurd hE.1 (by decide)
    · rcases hE with ⟨e, -⟩ | ⟨e, -⟩ | ⟨k1, h1, ex, -, hmk⟩
      · exact absurd e (by decide)
      · exact absurd e (by decide)
      · obtain rfl := xh_eq ex fx h1 g1 m5
        exact Or.inr ⟨hk, hmk⟩
    · exact hF.elim
theorem xp_proves (x y : Int32) (hC : xCL G w pa ra cp fr ad md ps eo tb wr) : (∀ (v9 : Int32) (u : xM), (fun r u => ∃ k1 k2, k1 < md ∧ k2 < md ∧ x = nI k1 ∧ y = nI k2 ∧ xlen (ps 1) 64 ≠ 0 ∧ xKp G pa ra cp fr ad md ps wr u ∧ ((r = 1 ∧ xmul (ps (21 + 2 * k1)) (xmul (xmul (xmv 64 (ps (22 + 2 * k2))) (ps 1)) (ps (22 + 2 * k2))) = xmul (ps (22 + 2 * k1)) (xgat (xmul (xmul (xmv 64 (ps (21 + 2 * k2))) (ps 0)) (ps (22 + 2 * k2))) (xO 32002) (xmul (xmul (xmv 64 (ps (22 + 2 * k2))) (ps 1)) (ps (21 + 2 * k2))) 0)) ∨ (r = 0 ∧ xmul (ps (21 + 2 * k1)) (xmul (xmul (xmv 64 (ps (22 + 2 * k2))) (ps 1)) (ps (22 + 2 * k2))) ≠ xmul (ps (22 + 2 * k1)) (xgat (xmul (xmul (xmv 64 (ps (21 + 2 * k2))) (ps 0)) (ps (22 + 2 * k2))) (xO 32002) (xmul (xmul (xmv 64 (ps (22 + 2 * k2))) (ps 1)) (ps (21 + 2 * k2))) 0)))) v9 u → xSub wr u) ∧ ∀ (E : String) (u : xM), (fun E u => (E = eI ∧ ¬ (xIs md x ∧ xIs md y) ∧ xKp G pa ra cp fr ad md ps wr u) ∨ (E = eA ∧ xIs md x ∧ xIs md y ∧ xlen (ps 1) 64 = 0 ∧ xKp G pa ra cp fr ad md ps wr u)) E u → (E = eI ∨ E = eA) ∧ xSub wr u :=
  ⟨fun v u ⟨k1, k2, _, _, _, _, _, q, _⟩ => q.sub, fun E u q => by
  rcases q with ⟨e, -, q⟩ | ⟨e, -, -, -, q⟩
  · exact ⟨Or.inl e, q.sub⟩
  · exact ⟨Or.inr e, q.sub⟩⟩
theorem xd_proves (x y : Int32) (q : xMid G w h mo O pa ra cp fr ad md ps la ia rq im eo tb wr fo u wr2) (hk : xHp G O fo (fun r u => ∃ k1 k2, k1 < md ∧ k2 < md ∧ x = nI k1 ∧ y = nI k2 ∧ xlen (ps 1) 64 ≠ 0 ∧ xKp G pa ra cp fr ad md ps wr u ∧ ((r = 1 ∧ xmul (ps (21 + 2 * k1)) (xmul (xmul (xmv 64 (ps (22 + 2 * k2))) (ps 1)) (ps (22 + 2 * k2))) = xmul (ps (22 + 2 * k1)) (xgat (xmul (xmul (xmv 64 (ps (21 + 2 * k2))) (ps 0)) (ps (22 + 2 * k2))) (xO 32002) (xmul (xmul (xmv 64 (ps (22 + 2 * k2))) (ps 1)) (ps (21 + 2 * k2))) 0)) ∨ (r = 0 ∧ xmul (ps (21 + 2 * k1)) (xmul (xmul (xmv 64 (ps (22 + 2 * k2))) (ps 1)) (ps (22 + 2 * k2))) ≠ xmul (ps (22 + 2 * k1)) (xgat (xmul (xmul (xmv 64 (ps (21 + 2 * k2))) (ps 0)) (ps (22 + 2 * k2))) (xO 32002) (xmul (xmul (xmv 64 (ps (22 + 2 * k2))) (ps 1)) (ps (21 + 2 * k2))) 0)))) xZl (fun E u => (E = eI ∧ ¬ (xIs md x ∧ xIs md y) ∧ xKp G pa ra cp fr ad md ps wr u) ∨ (E = eA ∧ xIs md x ∧ xIs md y ∧ xlen (ps 1) 64 = 0 ∧ xKp G pa ra cp fr ad md ps wr u)) [(1, eI), (2, eA)] k u) (hm : (fun r u => (¬ (xIs md x ∧ xIs md y) ∧ r = 0 ∧ xMK G mo la ia rq 1 md im wr2 u) ∨ (∃ k1 k2, k1 < md ∧ k2 < md ∧ x = nI k1 ∧ y = nI k2 ∧ xlen (im 3) 64 = 0 ∧ r = 0 ∧ xMK G mo la ia rq 2 md im wr2 u) ∨ ∃ k1 k2, k1 < md ∧ k2 < md ∧ x = nI k1 ∧ y = nI k2 ∧ xlen (im 3) 64 ≠ 0 ∧ ((r = 1 ∧ xnT (xstN (xTm im k2) (xBm im k2) (im 2) (im 3)) (xstD (xBm im k2) (im 3)) = xTm im k1 ∧ xnB (xstN (xTm im k2) (xBm im k2) (im 2) (im 3)) (xstD (xBm im k2) (im 3)) = xBm im k1) ∨ (r = 0 ∧ ¬ (xnT (xstN (xTm im k2) (xBm im k2) (im 2) (im 3)) (xstD (xBm im k2) (im 3)) = xTm im k1 ∧ xnB (xstN (xTm im k2) (xBm im k2) (im 2) (im 3)) (xstD (xBm im k2) (im 3)) = xBm im k1))) ∧ xMK G mo la ia rq 0 md im wr2 u) r' u') : xDone G u' h mo O k (xZl r') := by
  have hT := q.2.1
  have hC := q.2.2.1
  have m5 := hC.m50
  have e2 := hT.1
  have e3 := hT.2.1
  have sA := hT.2.2.1
  have sB := hT.2.2.2.1
  rw [e2, e3] at hm
  rcases hm with ⟨hno, -, hmk⟩ | ⟨j1, j2, g1, g2, fx, fy, hz, -, hmk⟩ | ⟨j1, j2, g1, g2, fx, fy, hz, ha, hmk⟩
  · rcases hk with ⟨-, v, u0, ⟨k1, k2, h1, h2, ex, ey, -⟩, -⟩ | ⟨hk, hE⟩ | ⟨-, hE⟩ | hF
    · exact absurd ⟨⟨k1, h1, ex⟩, ⟨k2, h2, ey⟩⟩ hno
    · rcases hE with ⟨-, -, hK⟩ | ⟨e, -⟩
      · exact q.no hK hmk hk (by decide)
      · exact absurd e (by decide)
    · rcases hE with ⟨e, -⟩ | ⟨-, i1, i2, -⟩
      · exact absurd e (by decide)
      · exact absurd ⟨i1, i2⟩ hno
    · exact hF.elim
  · rcases hk with ⟨-, v, u0, ⟨k1, k2, h1, h2, ex, ey, hz2, -⟩, -⟩ | ⟨-, hE⟩ | ⟨hk, hE⟩ | hF
    · exact absurd hz hz2
    · rcases hE with ⟨-, hno, -⟩ | ⟨e, -⟩
      · exact absurd ⟨⟨j1, g1, fx⟩, ⟨j2, g2, fy⟩⟩ hno
      · exact absurd e (by decide)
    · rcases hE with ⟨e, -⟩ | ⟨-, -, -, -, hK⟩
      · exact absurd e (by decide)
      · exact q.no hK hmk hk (by decide)
    · exact hF.elim
  · rcases hk with ⟨hk, v, u0, ⟨k1, k2, h1, h2, ex, ey, -, hK, hv⟩, hu⟩ | ⟨-, hE⟩ | ⟨-, hE⟩ | hF
    · obtain rfl := xh_eq ex fx h1 g1 m5
      obtain rfl := xh_eq ey fy h2 g2 m5
      have s2 := hT.sT g2
      have b2 := hT.sB g2
      have s6 := xsup_mono s2 (show 21 ≤ 64 by decide)
      have b6 := xsup_mono b2 (show 21 ≤ 64 by decide)
      have hp := xprv (hT.L g1) (xstN_s s2 b2 sA sB) (xstD_s b2 sB) (xstD_ne b2 sB (hT.ne g2) hz)
      rw [xst_N s6 b6, xst_D b6] at hv
      rw [hT.T g1, hT.T g2, hT.B g1, hT.B g2] at ha
      refine q.an hK hu hmk hk ?_
      rcases hv with ⟨v1, hv⟩ | ⟨v1, hv⟩ <;> rcases ha with ⟨a1, ha⟩ | ⟨a1, ha⟩
      · rw [v1, a1]
      · exact absurd (hp.mp hv) ha
      · exact absurd (hp.mpr ha) hv
      · rw [v1, a1]
    · rcases hE with ⟨-, hno, -⟩ | ⟨e, -⟩
      · exact absurd ⟨⟨j1, g1, fx⟩, ⟨j2, g2, fy⟩⟩ hno
      · exact absurd e (by decide)
    · rcases hE with ⟨e, -⟩ | ⟨-, -, -, hz2, -⟩
      · exact absurd e (by decide)
      · exact absurd hz2 hz
    · exact hF.elim
theorem xp_find (x y t : Int32) (hC : xCL G w pa ra cp fr ad md ps eo tb wr) : (∀ (v9 : Int32) (u : xM), (fun r u => ∃ k1 k2 dd o9, k1 < md ∧ k2 < md ∧ x = nI k1 ∧ y = nI k2 ∧ xlen (ps 1) 64 ≠ 0 ∧ xlen (ps (21 + 2 * k2)) 64 ≠ 0 ∧ dd < 9 ∧ t = nI dd ∧ md < 50 ∧ xFP (ps (21 + 2 * k1)) (ps (22 + 2 * k1)) (ps 0) (ps 1) (ps (21 + 2 * k2)) o9 ∧ ((r = -1 ∧ xKp G pa ra cp fr ad md ps wr u ∧ (o9 = none ∨ ∃ Y, o9 = some Y ∧ dd + 1 < xlen Y 64)) ∨ ∃ Y, o9 = some Y ∧ xlen Y 64 ≤ dd + 1 ∧ xMk G ad md ps wr (Y) ((ps (21 + 2 * k2))) r u)) v9 u → xSub wr u) ∧ ∀ (E : String) (u : xM), (fun E u => (((E = eI ∧ ¬ (xIs md x ∧ xIs md y)) ∨ (E = eA ∧ ∃ k1 k2, k1 < md ∧ k2 < md ∧ x = nI k1 ∧ y = nI k2 ∧ (xlen (ps 1) 64 = 0 ∨ xlen (ps (21 + 2 * k2)) 64 = 0)) ∨ (E = eG ∧ (∃ k1 k2, k1 < md ∧ k2 < md ∧ x = nI k1 ∧ y = nI k2 ∧ xlen (ps 1) 64 ≠ 0 ∧ xlen (ps (21 + 2 * k2)) 64 ≠ 0) ∧ ¬ xIs 9 t) ∨ (E = eS ∧ (∃ k1 k2, k1 < md ∧ k2 < md ∧ x = nI k1 ∧ y = nI k2 ∧ xlen (ps 1) 64 ≠ 0 ∧ xlen (ps (21 + 2 * k2)) 64 ≠ 0) ∧ xIs 9 t ∧ ¬ md < 50)) ∧ xKp G pa ra cp fr ad md ps wr u) ∨ ∃ k1 k2 dd o9 Y, k1 < md ∧ k2 < md ∧ x = nI k1 ∧ y = nI k2 ∧ xlen (ps 1) 64 ≠ 0 ∧ xlen (ps (21 + 2 * k2)) 64 ≠ 0 ∧ dd < 9 ∧ t = nI dd ∧ md < 50 ∧ xFP (ps (21 + 2 * k1)) (ps (22 + 2 * k1)) (ps 0) (ps 1) (ps (21 + 2 * k2)) o9 ∧ o9 = some Y ∧ xlen Y 64 ≤ dd + 1 ∧ xMkE G pa ra cp fr ad md ps wr (Y) ((ps (21 + 2 * k2))) E u) E u → (E = eI ∨ E = eA ∨ E = eG ∨ E = eS) ∧ xSub wr u :=
  ⟨fun v u ⟨k1, k2, dd, o9, _, _, _, _, _, _, _, _, _, _, q⟩ => by
  rcases q with ⟨-, q, -⟩ | ⟨Y, -, -, q⟩
  · exact q.sub
  · exact q.sub, fun E u q => by
  rcases q with ⟨⟨e, -⟩ | ⟨e, -⟩ | ⟨e, -⟩ | ⟨e, -⟩, q⟩ | ⟨k1, k2, dd, o9, Y, -, -, -, -, -, -, -, -, -, -, -, -, q⟩
  · exact ⟨Or.inl e, q.sub⟩
  · exact ⟨Or.inr (Or.inl e), q.sub⟩
  · exact ⟨Or.inr (Or.inr (Or.inl e)), q.sub⟩
  · exact ⟨Or.inr (Or.inr (Or.inr e)), q.sub⟩
  · exact ⟨Or.inr (Or.inr (Or.inr q.1)), q.sub.2⟩⟩
theorem xd_find (x y t : Int32) (q : xMid G w h mo O pa ra cp fr ad md ps la ia rq im eo tb wr fo u wr2) (hk : xHp G O fo (fun r u => ∃ k1 k2 dd o9, k1 < md ∧ k2 < md ∧ x = nI k1 ∧ y = nI k2 ∧ xlen (ps 1) 64 ≠ 0 ∧ xlen (ps (21 + 2 * k2)) 64 ≠ 0 ∧ dd < 9 ∧ t = nI dd ∧ md < 50 ∧ xFP (ps (21 + 2 * k1)) (ps (22 + 2 * k1)) (ps 0) (ps 1) (ps (21 + 2 * k2)) o9 ∧ ((r = -1 ∧ xKp G pa ra cp fr ad md ps wr u ∧ (o9 = none ∨ ∃ Y, o9 = some Y ∧ dd + 1 < xlen Y 64)) ∨ ∃ Y, o9 = some Y ∧ xlen Y 64 ≤ dd + 1 ∧ xMk G ad md ps wr (Y) ((ps (21 + 2 * k2))) r u)) Int32.toInt64 (fun E u => (((E = eI ∧ ¬ (xIs md x ∧ xIs md y)) ∨ (E = eA ∧ ∃ k1 k2, k1 < md ∧ k2 < md ∧ x = nI k1 ∧ y = nI k2 ∧ (xlen (ps 1) 64 = 0 ∨ xlen (ps (21 + 2 * k2)) 64 = 0)) ∨ (E = eG ∧ (∃ k1 k2, k1 < md ∧ k2 < md ∧ x = nI k1 ∧ y = nI k2 ∧ xlen (ps 1) 64 ≠ 0 ∧ xlen (ps (21 + 2 * k2)) 64 ≠ 0) ∧ ¬ xIs 9 t) ∨ (E = eS ∧ (∃ k1 k2, k1 < md ∧ k2 < md ∧ x = nI k1 ∧ y = nI k2 ∧ xlen (ps 1) 64 ≠ 0 ∧ xlen (ps (21 + 2 * k2)) 64 ≠ 0) ∧ xIs 9 t ∧ ¬ md < 50)) ∧ xKp G pa ra cp fr ad md ps wr u) ∨ ∃ k1 k2 dd o9 Y, k1 < md ∧ k2 < md ∧ x = nI k1 ∧ y = nI k2 ∧ xlen (ps 1) 64 ≠ 0 ∧ xlen (ps (21 + 2 * k2)) 64 ≠ 0 ∧ dd < 9 ∧ t = nI dd ∧ md < 50 ∧ xFP (ps (21 + 2 * k1)) (ps (22 + 2 * k1)) (ps 0) (ps 1) (ps (21 + 2 * k2)) o9 ∧ o9 = some Y ∧ xlen Y 64 ≤ dd + 1 ∧ xMkE G pa ra cp fr ad md ps wr (Y) ((ps (21 + 2 * k2))) E u) [(1, eI), (2, eA), (3, eG), (4, eS)] k u) (hm : (fun r u => (r = 0 ∧ ¬ (xIs md x ∧ xIs md y) ∧ xMK G mo la ia rq 1 md im wr2 u) ∨ (r = 0 ∧ (∃ k1 k2, k1 < md ∧ k2 < md ∧ x = nI k1 ∧ y = nI k2 ∧ (xlen (xTm im k2) 64 = 0 ∨ xlen (im 3) 64 = 0)) ∧ xMK G mo la ia rq 2 md im wr2 u) ∨ (r = 0 ∧ (∃ k1 k2, k1 < md ∧ k2 < md ∧ x = nI k1 ∧ y = nI k2 ∧ xlen (xTm im k2) 64 ≠ 0 ∧ xlen (im 3) 64 ≠ 0) ∧ ¬ xIs 9 t ∧ xMK G mo la ia rq 3 md im wr2 u) ∨ (r = 0 ∧ (∃ k1 k2, k1 < md ∧ k2 < md ∧ x = nI k1 ∧ y = nI k2 ∧ xlen (xTm im k2) 64 ≠ 0 ∧ xlen (im 3) 64 ≠ 0) ∧ xIs 9 t ∧ ¬ md < 50 ∧ xMK G mo la ia rq 4 md im wr2 u) ∨ ∃ k1 k2 dd, k1 < md ∧ k2 < md ∧ x = nI k1 ∧ y = nI k2 ∧ xlen (xTm im k2) 64 ≠ 0 ∧ xlen (im 3) 64 ≠ 0 ∧ dd < 9 ∧ t = nI dd ∧ md < 50 ∧ ((r = -1 ∧ (∀ Y, ¬ xSol (fun k => xMcol (xBm im k1) (im 2) (im 3) (xTm im k2) k) (xMtgt (xTm im k1) (im 3) (xTm im k2)) (dd + 1) Y) ∧ xMK G mo la ia rq 0 md im wr2 u) ∨ ∃ Y, xPln (fun k => xMcol (xBm im k1) (im 2) (im 3) (xTm im k2) k) (xMtgt (xTm im k1) (im 3) (xTm im k2)) (dd + 1) Y ∧ xKe G mo la ia rq md im wr2 (xnT Y (xTm im k2)) (xnB Y (xTm im k2)) 4 r u)) r' u') : xDone G u' h mo O k (Int32.toInt64 r') := by
  have hT := q.2.1
  have hC := q.2.2.1
  have m5 := hC.m50
  have e2 := hT.1
  have e3 := hT.2.1
  rw [e2, e3] at hm
  rcases hm with ⟨-, hno, hmk⟩ | ⟨-, ⟨j1, j2, g1, g2, fx, fy, hz⟩, hmk⟩ | ⟨-, ⟨j1, j2, g1, g2, fx, fy, hz1, hz2⟩, hb9, hmk⟩ | ⟨-, ⟨j1, j2, g1, g2, fx, fy, hz1, hz2⟩, hi, hfl, hmk⟩ | ⟨j1, j2, d2, g1, g2, fx, fy, hz1, hz2, gd, ft, hmd2, ha⟩
  · rcases hk with ⟨-, v, u0, ⟨k1, k2, dd, o9, h1, h2, ex, ey, z1, z2, hd, et, hmd, hFP, -⟩, -⟩ | ⟨hk, hE⟩ | ⟨-, hE⟩ | ⟨-, hE⟩ | ⟨-, hE⟩ | hF
    · exact absurd ⟨⟨k1, h1, ex⟩, ⟨k2, h2, ey⟩⟩ hno
    · have hK : xKp G pa ra cp fr ad md ps wr u := by
        rcases hE with ⟨-, hK⟩ | ⟨k1, k2, dd, o9, Y, -, -, -, -, -, -, -, -, -, -, -, -, hE⟩
        · exact hK
        · exact absurd hE.1 (by decide)
      exact q.no hK hmk hk (by decide)
    · skip
      rcases hE with ⟨⟨e, -⟩ | ⟨-, k1, k2, h1, h2, ex, ey, z⟩ | ⟨e, -⟩ | ⟨e, -⟩, -⟩ | ⟨k1, k2, dd, o9, Y, -, -, -, -, -, -, -, -, -, -, -, -, hE⟩
      · exact absurd e (by decide)
      · exact absurd ⟨⟨k1, h1, ex⟩, ⟨k2, h2, ey⟩⟩ hno
      · exact absurd e (by decide)
      · exact absurd e (by decide)
      · exact absurd hE.1 (by decide)
    · skip
      rcases hE with ⟨⟨e, -⟩ | ⟨e, -⟩ | ⟨-, ⟨k1, k2, h1, h2, ex, ey, z1, z2⟩, hb9'⟩ | ⟨e, -⟩, -⟩ | ⟨k1, k2, dd, o9, Y, -, -, -, -, -, -, -, -, -, -, -, -, hE⟩
      · exact absurd e (by decide)
      · exact absurd e (by decide)
      · exact absurd ⟨⟨k1, h1, ex⟩, ⟨k2, h2, ey⟩⟩ hno
      · exact absurd e (by decide)
      · exact absurd hE.1 (by decide)
    · skip
      rcases hE with ⟨⟨e, -⟩ | ⟨e, -⟩ | ⟨e, -⟩ | ⟨-, ⟨k1, k2, h1, h2, ex, ey, z1, z2⟩, hi9, hfull⟩, hK⟩ | ⟨k1, k2, dd, o9, Y, h1, h2, ex, ey, z1, z2, hd, et, hmd, hFP, ho, hl, hmkE⟩
      · exact absurd e (by decide)
      · exact absurd e (by decide)
      · exact absurd e (by decide)
      · exact absurd ⟨⟨k1, h1, ex⟩, ⟨k2, h2, ey⟩⟩ hno
      · exact absurd ⟨⟨k1, h1, ex⟩, ⟨k2, h2, ey⟩⟩ hno
    · exact hF.elim
  · rw [hT.T g2] at hz
    have key : ∀ {k1 k2 : Nat}, k1 < md → k2 < md → x = nI k1 → y = nI k2 → xlen (ps 1) 64 ≠ 0 → xlen (ps (21 + 2 * k2)) 64 ≠ 0 → False := fun {k1 k2} h1 h2 ex ey z1 z2 => by
      obtain rfl := xh_eq ey fy h2 g2 m5
      exact hz.elim z2 z1
    rcases hk with ⟨-, v, u0, ⟨k1, k2, dd, o9, h1, h2, ex, ey, z1, z2, hd, et, hmd, hFP, -⟩, -⟩ | ⟨-, hE⟩ | ⟨hk, hE⟩ | ⟨-, hE⟩ | ⟨-, hE⟩ | hF
    · exact (key h1 h2 ex ey z1 z2).elim
    · skip
      rcases hE with ⟨⟨-, hno⟩ | ⟨e, -⟩ | ⟨e, -⟩ | ⟨e, -⟩, -⟩ | ⟨k1, k2, dd, o9, Y, -, -, -, -, -, -, -, -, -, -, -, -, hE⟩
      · exact absurd ⟨⟨j1, g1, fx⟩, ⟨j2, g2, fy⟩⟩ hno
      · exact absurd e (by decide)
      · exact absurd e (by decide)
      · exact absurd e (by decide)
      · exact absurd hE.1 (by decide)
    · have hK : xKp G pa ra cp fr ad md ps wr u := by
        rcases hE with ⟨-, hK⟩ | ⟨k1, k2, dd, o9, Y, -, -, -, -, -, -, -, -, -, -, -, -, hE⟩
        · exact hK
        · exact absurd hE.1 (by decide)
      exact q.no hK hmk hk (by decide)
    · skip
      rcases hE with ⟨⟨e, -⟩ | ⟨e, -⟩ | ⟨-, ⟨k1, k2, h1, h2, ex, ey, z1, z2⟩, hb9'⟩ | ⟨e, -⟩, -⟩ | ⟨k1, k2, dd, o9, Y, -, -, -, -, -, -, -, -, -, -, -, -, hE⟩
      · exact absurd e (by decide)
      · exact absurd e (by decide)
      · exact (key h1 h2 ex ey z1 z2).elim
      · exact absurd e (by decide)
      · exact absurd hE.1 (by decide)
    · skip
      rcases hE with ⟨⟨e, -⟩ | ⟨e, -⟩ | ⟨e, -⟩ | ⟨-, ⟨k1, k2, h1, h2, ex, ey, z1, z2⟩, hi9, hfull⟩, hK⟩ | ⟨k1, k2, dd, o9, Y, h1, h2, ex, ey, z1, z2, hd, et, hmd, hFP, ho, hl, hmkE⟩
      · exact absurd e (by decide)
      · exact absurd e (by decide)
      · exact absurd e (by decide)
      · exact (key h1 h2 ex ey z1 z2).elim
      · exact (key h1 h2 ex ey z1 z2).elim
    · exact hF.elim
  · rw [hT.T g2] at hz1
    have key : ∀ {k1 k2 : Nat}, k1 < md → k2 < md → x = nI k1 → y = nI k2 → (xlen (ps 1) 64 = 0 ∨ xlen (ps (21 + 2 * k2)) 64 = 0) → False := fun {k1 k2} h1 h2 ex ey z => by
      obtain rfl := xh_eq ey fy h2 g2 m5
      exact z.elim hz2 hz1
    rcases hk with ⟨-, v, u0, ⟨k1, k2, dd, o9, h1, h2, ex, ey, z1, z2, hd, et, hmd, hFP, -⟩, -⟩ | ⟨-, hE⟩ | ⟨-, hE⟩ | ⟨hk, hE⟩ | ⟨-, hE⟩ | hF
    · exact absurd ⟨dd, hd, et⟩ hb9
    · skip
      rcases hE with ⟨⟨-, hno⟩ | ⟨e, -⟩ | ⟨e, -⟩ | ⟨e, -⟩, -⟩ | ⟨k1, k2, dd, o9, Y, -, -, -, -, -, -, -, -, -, -, -, -, hE⟩
      · exact absurd ⟨⟨j1, g1, fx⟩, ⟨j2, g2, fy⟩⟩ hno
      · exact absurd e (by decide)
      · exact absurd e (by decide)
      · exact absurd e (by decide)
      · exact absurd hE.1 (by decide)
    · skip
      rcases hE with ⟨⟨e, -⟩ | ⟨-, k1, k2, h1, h2, ex, ey, z⟩ | ⟨e, -⟩ | ⟨e, -⟩, -⟩ | ⟨k1, k2, dd, o9, Y, -, -, -, -, -, -, -, -, -, -, -, -, hE⟩
      · exact absurd e (by decide)
      · exact (key h1 h2 ex ey z).elim
      · exact absurd e (by decide)
      · exact absurd e (by decide)
      · exact absurd hE.1 (by decide)
    · have hK : xKp G pa ra cp fr ad md ps wr u := by
        rcases hE with ⟨-, hK⟩ | ⟨k1, k2, dd, o9, Y, -, -, -, -, -, -, -, -, -, -, -, -, hE⟩
        · exact hK
        · exact absurd hE.1 (by decide)
      exact q.no hK hmk hk (by decide)
    · skip
      rcases hE with ⟨⟨e, -⟩ | ⟨e, -⟩ | ⟨e, -⟩ | ⟨-, ⟨k1, k2, h1, h2, ex, ey, z1, z2⟩, hi9, hfull⟩, hK⟩ | ⟨k1, k2, dd, o9, Y, h1, h2, ex, ey, z1, z2, hd, et, hmd, hFP, ho, hl, hmkE⟩
      · exact absurd e (by decide)
      · exact absurd e (by decide)
      · exact absurd e (by decide)
      · exact absurd hi9 hb9
      · exact absurd ⟨dd, hd, et⟩ hb9
    · exact hF.elim
  · rw [hT.T g2] at hz1
    have key : ∀ {k1 k2 : Nat}, k1 < md → k2 < md → x = nI k1 → y = nI k2 → (xlen (ps 1) 64 = 0 ∨ xlen (ps (21 + 2 * k2)) 64 = 0) → False := fun {k1 k2} h1 h2 ex ey z => by
      obtain rfl := xh_eq ey fy h2 g2 m5
      exact z.elim hz2 hz1
    rcases hk with ⟨-, v, u0, ⟨k1, k2, dd, o9, h1, h2, ex, ey, z1, z2, hd, et, hmd, hFP, -⟩, -⟩ | ⟨-, hE⟩ | ⟨-, hE⟩ | ⟨-, hE⟩ | ⟨hk, hE⟩ | hF
    · exact absurd hmd hfl
    · skip
      rcases hE with ⟨⟨-, hno⟩ | ⟨e, -⟩ | ⟨e, -⟩ | ⟨e, -⟩, -⟩ | ⟨k1, k2, dd, o9, Y, -, -, -, -, -, -, -, -, -, -, -, -, hE⟩
      · exact absurd ⟨⟨j1, g1, fx⟩, ⟨j2, g2, fy⟩⟩ hno
      · exact absurd e (by decide)
      · exact absurd e (by decide)
      · exact absurd e (by decide)
      · exact absurd hE.1 (by decide)
    · skip
      rcases hE with ⟨⟨e, -⟩ | ⟨-, k1, k2, h1, h2, ex, ey, z⟩ | ⟨e, -⟩ | ⟨e, -⟩, -⟩ | ⟨k1, k2, dd, o9, Y, -, -, -, -, -, -, -, -, -, -, -, -, hE⟩
      · exact absurd e (by decide)
      · exact (key h1 h2 ex ey z).elim
      · exact absurd e (by decide)
      · exact absurd e (by decide)
      · exact absurd hE.1 (by decide)
    · skip
      rcases hE with ⟨⟨e, -⟩ | ⟨e, -⟩ | ⟨-, ⟨k1, k2, h1, h2, ex, ey, z1, z2⟩, hb9'⟩ | ⟨e, -⟩, -⟩ | ⟨k1, k2, dd, o9, Y, -, -, -, -, -, -, -, -, -, -, -, -, hE⟩
      · exact absurd e (by decide)
      · exact absurd e (by decide)
      · exact absurd hi hb9'
      · exact absurd e (by decide)
      · exact absurd hE.1 (by decide)
    · skip
      rcases hE with ⟨⟨e, -⟩ | ⟨e, -⟩ | ⟨e, -⟩ | ⟨-, ⟨k1, k2, h1, h2, ex, ey, z1, z2⟩, hi9, hfull⟩, hK⟩ | ⟨k1, k2, dd, o9, Y, h1, h2, ex, ey, z1, z2, hd, et, hmd, hFP, ho, hl, hmkE⟩
      · exact absurd e (by decide)
      · exact absurd e (by decide)
      · exact absurd e (by decide)
      · exact q.no hK hmk hk (by decide)
      · exact absurd hmd hfl
    · exact hF.elim
  · rw [hT.T g2] at hz1
    have key : ∀ {k1 k2 : Nat}, k1 < md → k2 < md → x = nI k1 → y = nI k2 → (xlen (ps 1) 64 = 0 ∨ xlen (ps (21 + 2 * k2)) 64 = 0) → False := fun {k1 k2} h1 h2 ex ey z => by
      obtain rfl := xh_eq ey fy h2 g2 m5
      exact z.elim hz2 hz1
    have sQ := xsup_mono (hT.sT g2) (show 21 ≤ 64 by decide)
    rw [hT.T g1, hT.B g1, hT.T g2] at ha
    rcases hk with ⟨hk, v, u0, ⟨k1, k2, dd, o9, h1, h2, ex, ey, z1, z2, hd, et, hmd, hFP, hv⟩, hu⟩ | ⟨-, hE⟩ | ⟨-, hE⟩ | ⟨-, hE⟩ | ⟨hk, hE⟩ | hF
    · obtain rfl := xh_eq ex fx h1 g1 m5
      obtain rfl := xh_eq ey fy h2 g2 m5
      obtain rfl := xh_9 et ft hd gd
      rcases hv with ⟨hr, hK, hno⟩ | ⟨Y, ho, hl, hmk⟩
      · rcases ha with ⟨ha, -, hmk⟩ | ⟨Y, hY, -⟩
        · exact q.an hK hu hmk hk (by rw [hr, ha])
        · exact absurd hY (xfnd_no sQ hFP hd hno Y)
      · subst ho
        obtain ⟨f1, f2, f3⟩ := xfnd_yes sQ hFP hd hl
        rcases ha with ⟨-, hno, -⟩ | ⟨Y', hY, hke⟩
        · exact absurd f1 (hno Y)
        · obtain rfl := f3 Y' hY
          exact q.mk (xsup_mono f2 (by decide)) sQ z2 (by decide) (Or.inl ⟨hk, v, u0, hmk, hu⟩) hke
    · skip
      rcases hE with ⟨⟨-, hno⟩ | ⟨e, -⟩ | ⟨e, -⟩ | ⟨e, -⟩, -⟩ | ⟨k1, k2, dd, o9, Y, -, -, -, -, -, -, -, -, -, -, -, -, hE⟩
      · exact absurd ⟨⟨j1, g1, fx⟩, ⟨j2, g2, fy⟩⟩ hno
      · exact absurd e (by decide)
      · exact absurd e (by decide)
      · exact absurd e (by decide)
      · exact absurd hE.1 (by decide)
    · skip
      rcases hE with ⟨⟨e, -⟩ | ⟨-, k1, k2, h1, h2, ex, ey, z⟩ | ⟨e, -⟩ | ⟨e, -⟩, -⟩ | ⟨k1, k2, dd, o9, Y, -, -, -, -, -, -, -, -, -, -, -, -, hE⟩
      · exact absurd e (by decide)
      · exact (key h1 h2 ex ey z).elim
      · exact absurd e (by decide)
      · exact absurd e (by decide)
      · exact absurd hE.1 (by decide)
    · skip
      rcases hE with ⟨⟨e, -⟩ | ⟨e, -⟩ | ⟨-, ⟨k1, k2, h1, h2, ex, ey, z1, z2⟩, hb9'⟩ | ⟨e, -⟩, -⟩ | ⟨k1, k2, dd, o9, Y, -, -, -, -, -, -, -, -, -, -, -, -, hE⟩
      · exact absurd e (by decide)
      · exact absurd e (by decide)
      · exact absurd ⟨d2, gd, ft⟩ hb9'
      · exact absurd e (by decide)
      · exact absurd hE.1 (by decide)
    · skip
      rcases hE with ⟨⟨e, -⟩ | ⟨e, -⟩ | ⟨e, -⟩ | ⟨-, ⟨k1, k2, h1, h2, ex, ey, z1, z2⟩, hi9, hfull⟩, hK⟩ | ⟨k1, k2, dd, o9, Y, h1, h2, ex, ey, z1, z2, hd, et, hmd, hFP, ho, hl, hmkE⟩
      · exact absurd e (by decide)
      · exact absurd e (by decide)
      · exact absurd e (by decide)
      · exact absurd hmd2 hfull
      · obtain rfl := xh_eq ex fx h1 g1 m5
        obtain rfl := xh_eq ey fy h2 g2 m5
        obtain rfl := xh_9 et ft hd gd
        subst ho
        obtain ⟨f1, f2, f3⟩ := xfnd_yes sQ hFP hd hl
        rcases ha with ⟨-, hno, -⟩ | ⟨Y', hY, hke⟩
        · exact absurd f1 (hno Y)
        · obtain rfl := f3 Y' hY
          exact q.mk (xsup_mono f2 (by decide)) sQ z2 (by decide) (Or.inr ⟨hk, hmkE⟩) hke
    · exact hF.elim
theorem xp_least (x y : Int32) (hC : xCL G w pa ra cp fr ad md ps eo tb wr) : (∀ (v9 : Int32) (u : xM), (fun r u => ∃ k1 k2 o9, k1 < md ∧ k2 < md ∧ x = nI k1 ∧ y = nI k2 ∧ xlen (ps 1) 64 ≠ 0 ∧ xlen (ps (21 + 2 * k2)) 64 ≠ 0 ∧ xFP (ps (21 + 2 * k1)) (ps (22 + 2 * k1)) (ps 0) (ps 1) (ps (21 + 2 * k2)) o9 ∧ ((o9 = none ∧ r = -1) ∨ ∃ Y, o9 = some Y ∧ r = nI (xlen Y 64 - 1)) ∧ xKp G pa ra cp fr ad md ps wr u) v9 u → xSub wr u) ∧ ∀ (E : String) (u : xM), (fun E u => ((E = eI ∧ ¬ (xIs md x ∧ xIs md y)) ∨ (E = eA ∧ ∃ k1 k2, k1 < md ∧ k2 < md ∧ x = nI k1 ∧ y = nI k2 ∧ (xlen (ps 1) 64 = 0 ∨ xlen (ps (21 + 2 * k2)) 64 = 0))) ∧ xKp G pa ra cp fr ad md ps wr u) E u → (E = eI ∨ E = eA) ∧ xSub wr u :=
  ⟨fun v u ⟨k1, k2, o9, _, _, _, _, _, _, _, _, q⟩ => q.sub, fun E u q => by
  rcases q with ⟨⟨e, -⟩ | ⟨e, -⟩, q⟩
  · exact ⟨Or.inl e, q.sub⟩
  · exact ⟨Or.inr e, q.sub⟩⟩
theorem xd_least (x y : Int32) (q : xMid G w h mo O pa ra cp fr ad md ps la ia rq im eo tb wr fo u wr2) (hk : xHp G O fo (fun r u => ∃ k1 k2 o9, k1 < md ∧ k2 < md ∧ x = nI k1 ∧ y = nI k2 ∧ xlen (ps 1) 64 ≠ 0 ∧ xlen (ps (21 + 2 * k2)) 64 ≠ 0 ∧ xFP (ps (21 + 2 * k1)) (ps (22 + 2 * k1)) (ps 0) (ps 1) (ps (21 + 2 * k2)) o9 ∧ ((o9 = none ∧ r = -1) ∨ ∃ Y, o9 = some Y ∧ r = nI (xlen Y 64 - 1)) ∧ xKp G pa ra cp fr ad md ps wr u) Int32.toInt64 (fun E u => ((E = eI ∧ ¬ (xIs md x ∧ xIs md y)) ∨ (E = eA ∧ ∃ k1 k2, k1 < md ∧ k2 < md ∧ x = nI k1 ∧ y = nI k2 ∧ (xlen (ps 1) 64 = 0 ∨ xlen (ps (21 + 2 * k2)) 64 = 0))) ∧ xKp G pa ra cp fr ad md ps wr u) [(1, eI), (2, eA)] k u) (hm : (fun r u => (r = 0 ∧ ¬ (xIs md x ∧ xIs md y) ∧ xMK G mo la ia rq 1 md im wr2 u) ∨ (r = 0 ∧ (∃ k1 k2, k1 < md ∧ k2 < md ∧ x = nI k1 ∧ y = nI k2 ∧ (xlen (xTm im k2) 64 = 0 ∨ xlen (im 3) 64 = 0)) ∧ xMK G mo la ia rq 2 md im wr2 u) ∨ ∃ k1 k2, k1 < md ∧ k2 < md ∧ x = nI k1 ∧ y = nI k2 ∧ xlen (xTm im k2) 64 ≠ 0 ∧ xlen (im 3) 64 ≠ 0 ∧ xMK G mo la ia rq 0 md im wr2 u ∧ ((r = -1 ∧ ∀ j, j < 9 → ∀ Y, ¬ xSol (fun k => xMcol (xBm im k1) (im 2) (im 3) (xTm im k2) k) (xMtgt (xTm im k1) (im 3) (xTm im k2)) (j + 1) Y) ∨ ∃ t9, t9 < 9 ∧ r = nI t9 ∧ (∃ Y, xPln (fun k => xMcol (xBm im k1) (im 2) (im 3) (xTm im k2) k) (xMtgt (xTm im k1) (im 3) (xTm im k2)) (t9 + 1) Y) ∧ ∀ j, j < t9 → ∀ Y, ¬ xSol (fun k => xMcol (xBm im k1) (im 2) (im 3) (xTm im k2) k) (xMtgt (xTm im k1) (im 3) (xTm im k2)) (j + 1) Y)) r' u') : xDone G u' h mo O k (Int32.toInt64 r') := by
  have hT := q.2.1
  have hC := q.2.2.1
  have m5 := hC.m50
  have e2 := hT.1
  have e3 := hT.2.1
  rw [e2, e3] at hm
  rcases hm with ⟨-, hno, hmk⟩ | ⟨-, ⟨j1, j2, g1, g2, fx, fy, hz⟩, hmk⟩ | ⟨j1, j2, g1, g2, fx, fy, hz1, hz2, hmk, ha⟩
  · rcases hk with ⟨-, v, u0, ⟨k1, k2, o9, h1, h2, ex, ey, -⟩, -⟩ | ⟨hk, hE⟩ | ⟨-, hE⟩ | hF
    · exact absurd ⟨⟨k1, h1, ex⟩, ⟨k2, h2, ey⟩⟩ hno
    · exact q.no hE.2 hmk hk (by decide)
    · rcases hE with ⟨⟨e, -⟩ | ⟨-, k1, k2, h1, h2, ex, ey, -⟩, -⟩
      · exact absurd e (by decide)
      · exact absurd ⟨⟨k1, h1, ex⟩, ⟨k2, h2, ey⟩⟩ hno
    · exact hF.elim
  · rw [hT.T g2] at hz
    have key : ∀ {k1 k2 : Nat}, k1 < md → k2 < md → x = nI k1 → y = nI k2 → xlen (ps 1) 64 ≠ 0 → xlen (ps (21 + 2 * k2)) 64 ≠ 0 → False := fun {k1 k2} h1 h2 ex ey z1 z2 => by
      obtain rfl := xh_eq ey fy h2 g2 m5
      exact hz.elim z2 z1
    rcases hk with ⟨-, v, u0, ⟨k1, k2, o9, h1, h2, ex, ey, z1, z2, -⟩, -⟩ | ⟨-, hE⟩ | ⟨hk, hE⟩ | hF
    · exact (key h1 h2 ex ey z1 z2).elim
    · rcases hE with ⟨⟨-, hno⟩ | ⟨e, -⟩, -⟩
      · exact absurd ⟨⟨j1, g1, fx⟩, ⟨j2, g2, fy⟩⟩ hno
      · exact absurd e (by decide)
    · exact q.no hE.2 hmk hk (by decide)
    · exact hF.elim
  · rw [hT.T g2] at hz1
    have key : ∀ {k1 k2 : Nat}, k1 < md → k2 < md → x = nI k1 → y = nI k2 → (xlen (ps 1) 64 = 0 ∨ xlen (ps (21 + 2 * k2)) 64 = 0) → False := fun {k1 k2} h1 h2 ex ey z => by
      obtain rfl := xh_eq ey fy h2 g2 m5
      exact z.elim hz2 hz1
    rcases hk with ⟨hk, v, u0, ⟨k1, k2, o9, h1, h2, ex, ey, -, -, hFP, hv, hK⟩, hu⟩ | ⟨-, hE⟩ | ⟨-, hE⟩ | hF
    · obtain rfl := xh_eq ex fx h1 g1 m5
      obtain rfl := xh_eq ey fy h2 g2 m5
      rw [hT.T g1, hT.B g1, hT.T g2] at ha
      exact q.an hK hu hmk hk (by rw [xlst (xsup_mono (hT.sT g2) (by decide)) hFP hv ha])
    · rcases hE with ⟨⟨-, hno⟩ | ⟨e, -⟩, -⟩
      · exact absurd ⟨⟨j1, g1, fx⟩, ⟨j2, g2, fy⟩⟩ hno
      · exact absurd e (by decide)
    · rcases hE with ⟨⟨e, -⟩ | ⟨-, k1, k2, h1, h2, ex, ey, z⟩, -⟩
      · exact absurd e (by decide)
      · exact (key h1 h2 ex ey z).elim
    · exact hF.elim
theorem xp_free (x y : Int32) (hC : xCL G w pa ra cp fr ad md ps eo tb wr) : (∀ (v9 : Int32) (u : xM), (fun r u => ∃ k1 dd e9, k1 < md ∧ dd < 9 ∧ x = nI k1 ∧ y = nI dd ∧ xlen (ps 1) 64 ≠ 0 ∧ xlen (ps (21 + 2 * k1)) 64 ≠ 0 ∧ xFr (ps (22 + 2 * k1)) (ps 0) (ps 1) (ps (21 + 2 * k1)) e9 ∧ r = nI (xnn e9 (dd + 1)) ∧ xKp G pa ra cp fr ad md ps wr u) v9 u → xSub wr u) ∧ ∀ (E : String) (u : xM), (fun E u => ((E = eI ∧ ¬ xIs md x) ∨ (E = eA ∧ ∃ k1, k1 < md ∧ x = nI k1 ∧ (xlen (ps 1) 64 = 0 ∨ xlen (ps (21 + 2 * k1)) 64 = 0)) ∨ (E = eG ∧ (∃ k1, k1 < md ∧ x = nI k1 ∧ xlen (ps 1) 64 ≠ 0 ∧ xlen (ps (21 + 2 * k1)) 64 ≠ 0) ∧ ¬ xIs 9 y)) ∧ xKp G pa ra cp fr ad md ps wr u) E u → (E = eI ∨ E = eA ∨ E = eG) ∧ xSub wr u :=
  ⟨fun v u ⟨k1, dd, e9, _, _, _, _, _, _, _, _, q⟩ => q.sub, fun E u q => by
  rcases q with ⟨⟨e, -⟩ | ⟨e, -⟩ | ⟨e, -⟩, q⟩
  · exact ⟨Or.inl e, q.sub⟩
  · exact ⟨Or.inr (Or.inl e), q.sub⟩
  · exact ⟨Or.inr (Or.inr e), q.sub⟩⟩
theorem xd_free (x y : Int32) (q : xMid G w h mo O pa ra cp fr ad md ps la ia rq im eo tb wr fo u wr2) (hk : xHp G O fo (fun r u => ∃ k1 dd e9, k1 < md ∧ dd < 9 ∧ x = nI k1 ∧ y = nI dd ∧ xlen (ps 1) 64 ≠ 0 ∧ xlen (ps (21 + 2 * k1)) 64 ≠ 0 ∧ xFr (ps (22 + 2 * k1)) (ps 0) (ps 1) (ps (21 + 2 * k1)) e9 ∧ r = nI (xnn e9 (dd + 1)) ∧ xKp G pa ra cp fr ad md ps wr u) Int32.toInt64 (fun E u => ((E = eI ∧ ¬ xIs md x) ∨ (E = eA ∧ ∃ k1, k1 < md ∧ x = nI k1 ∧ (xlen (ps 1) 64 = 0 ∨ xlen (ps (21 + 2 * k1)) 64 = 0)) ∨ (E = eG ∧ (∃ k1, k1 < md ∧ x = nI k1 ∧ xlen (ps 1) 64 ≠ 0 ∧ xlen (ps (21 + 2 * k1)) 64 ≠ 0) ∧ ¬ xIs 9 y)) ∧ xKp G pa ra cp fr ad md ps wr u) [(1, eI), (2, eA), (3, eG)] k u) (hm : (fun r u => (r = 0 ∧ ¬ xIs md x ∧ xMK G mo la ia rq 1 md im wr2 u) ∨ (r = 0 ∧ (∃ k1, k1 < md ∧ x = nI k1 ∧ (xlen (xTm im k1) 64 = 0 ∨ xlen (im 3) 64 = 0)) ∧ xMK G mo la ia rq 2 md im wr2 u) ∨ (r = 0 ∧ (∃ k1, k1 < md ∧ x = nI k1 ∧ xlen (xTm im k1) 64 ≠ 0 ∧ xlen (im 3) 64 ≠ 0) ∧ ¬ xIs 9 y ∧ xMK G mo la ia rq 3 md im wr2 u) ∨ ∃ k1 dd e9, k1 < md ∧ x = nI k1 ∧ xlen (xTm im k1) 64 ≠ 0 ∧ xlen (im 3) 64 ≠ 0 ∧ dd < 9 ∧ y = nI dd ∧ r = nI (xnn e9 (dd + 1)) ∧ (∀ k, k < dd + 1 → (e9 k = none ↔ xDep (fun k => xMcol (xBm im k1) (im 2) (im 3) (xTm im k1) k) k)) ∧ xMK G mo la ia rq 0 md im wr2 u) r' u') : xDone G u' h mo O k (Int32.toInt64 r') := by
  have hT := q.2.1
  have hC := q.2.2.1
  have m5 := hC.m50
  have e2 := hT.1
  have e3 := hT.2.1
  rw [e2, e3] at hm
  rcases hm with ⟨-, hno, hmk⟩ | ⟨-, ⟨j1, g1, fx, hz⟩, hmk⟩ | ⟨-, ⟨j1, g1, fx, hz1, hz2⟩, hb9, hmk⟩ | ⟨j1, d2, e9, g1, fx, hz1, hz2, gd, fy, ha, hdep, hmk⟩
  · rcases hk with ⟨-, v, u0, ⟨k1, dd, e8, h1, hd, ex, -⟩, -⟩ | ⟨hk, hE⟩ | ⟨-, hE⟩ | ⟨-, hE⟩ | hF
    · exact absurd ⟨k1, h1, ex⟩ hno
    · exact q.no hE.2 hmk hk (by decide)
    · rcases hE with ⟨⟨e, -⟩ | ⟨-, k1, h1, ex, -⟩ | ⟨e, -⟩, -⟩
      · exact absurd e (by decide)
      · exact absurd ⟨k1, h1, ex⟩ hno
      · exact absurd e (by decide)
    · rcases hE with ⟨⟨e, -⟩ | ⟨e, -⟩ | ⟨-, ⟨k1, h1, ex, -⟩, -⟩, -⟩
      · exact absurd e (by decide)
      · exact absurd e (by decide)
      · exact absurd ⟨k1, h1, ex⟩ hno
    · exact hF.elim
  · rw [hT.T g1] at hz
    have key : ∀ {k1 : Nat}, k1 < md → x = nI k1 → xlen (ps 1) 64 ≠ 0 → xlen (ps (21 + 2 * k1)) 64 ≠ 0 → False := fun {k1} h1 ex z1 z2 => by
      obtain rfl := xh_eq ex fx h1 g1 m5
      exact hz.elim z2 z1
    rcases hk with ⟨-, v, u0, ⟨k1, dd, e8, h1, hd, ex, ey, z1, z2, -⟩, -⟩ | ⟨-, hE⟩ | ⟨hk, hE⟩ | ⟨-, hE⟩ | hF
    · exact (key h1 ex z1 z2).elim
    · rcases hE with ⟨⟨-, hno⟩ | ⟨e, -⟩ | ⟨e, -⟩, -⟩
      · exact absurd ⟨j1, g1, fx⟩ hno
      · exact absurd e (by decide)
      · exact absurd e (by decide)
    · exact q.no hE.2 hmk hk (by decide)
    · rcases hE with ⟨⟨e, -⟩ | ⟨e, -⟩ | ⟨-, ⟨k1, h1, ex, z1, z2⟩, -⟩, -⟩
      · exact absurd e (by decide)
      · exact absurd e (by decide)
      · exact (key h1 ex z1 z2).elim
    · exact hF.elim
  · rw [hT.T g1] at hz1
    have key : ∀ {k1 : Nat}, k1 < md → x = nI k1 → (xlen (ps 1) 64 = 0 ∨ xlen (ps (21 + 2 * k1)) 64 = 0) → False := fun {k1} h1 ex z => by
      obtain rfl := xh_eq ex fx h1 g1 m5
      exact z.elim hz2 hz1
    rcases hk with ⟨-, v, u0, ⟨k1, dd, e8, h1, hd, ex, ey, -⟩, -⟩ | ⟨-, hE⟩ | ⟨-, hE⟩ | ⟨hk, hE⟩ | hF
    · exact absurd ⟨dd, hd, ey⟩ hb9
    · rcases hE with ⟨⟨-, hno⟩ | ⟨e, -⟩ | ⟨e, -⟩, -⟩
      · exact absurd ⟨j1, g1, fx⟩ hno
      · exact absurd e (by decide)
      · exact absurd e (by decide)
    · rcases hE with ⟨⟨e, -⟩ | ⟨-, k1, h1, ex, z⟩ | ⟨e, -⟩, -⟩
      · exact absurd e (by decide)
      · exact (key h1 ex z).elim
      · exact absurd e (by decide)
    · exact q.no hE.2 hmk hk (by decide)
    · exact hF.elim
  · rw [hT.T g1] at hz1
    have key : ∀ {k1 : Nat}, k1 < md → x = nI k1 → (xlen (ps 1) 64 = 0 ∨ xlen (ps (21 + 2 * k1)) 64 = 0) → False := fun {k1} h1 ex z => by
      obtain rfl := xh_eq ex fx h1 g1 m5
      exact z.elim hz2 hz1
    rcases hk with ⟨hk, v, u0, ⟨k1, dd, e8, h1, hd, ex, ey, -, -, hFr, hv, hK⟩, hu⟩ | ⟨-, hE⟩ | ⟨-, hE⟩ | ⟨-, hE⟩ | hF
    · obtain rfl := xh_eq ex fx h1 g1 m5
      obtain rfl := xh_9 ey fy hd gd
      rw [hT.T g1, hT.B g1] at hdep
      exact q.an hK hu hmk hk (by rw [hv, ha, xfre (xsup_mono (hT.sT g1) (by decide)) hFr (by omega) hdep])
    · rcases hE with ⟨⟨-, hno⟩ | ⟨e, -⟩ | ⟨e, -⟩, -⟩
      · exact absurd ⟨j1, g1, fx⟩ hno
      · exact absurd e (by decide)
      · exact absurd e (by decide)
    · rcases hE with ⟨⟨e, -⟩ | ⟨-, k1, h1, ex, z⟩ | ⟨e, -⟩, -⟩
      · exact absurd e (by decide)
      · exact (key h1 ex z).elim
      · exact absurd e (by decide)
    · rcases hE with ⟨⟨e, -⟩ | ⟨e, -⟩ | ⟨-, -, hb9⟩, -⟩
      · exact absurd e (by decide)
      · exact absurd e (by decide)
      · exact absurd ⟨d2, gd, fy⟩ hb9
    · exact hF.elim
theorem xp_degree (x z : Int32) (hC : xCL G w pa ra cp fr ad md ps eo tb wr) : (∀ (v9 : Int32) (u : xM), (fun r u => ∃ k1, k1 < md ∧ x = nI k1 ∧ r = xhi (if z = 0 then (ps (22 + 2 * k1)) else (ps (21 + 2 * k1))) 64 ∧ u = w) v9 u → xSub wr u) ∧ ∀ (E : String) (u : xM), (fun E u => E = eI ∧ ¬ xIs md x ∧ u = w) E u → (E = eI) ∧ xSub wr u :=
  ⟨fun v u ⟨k1, _, _, _, q⟩ => xSub.rf hC q, fun E u q => ⟨q.1, xSub.rf hC q.2.2⟩⟩
theorem xd_degree (x z : Int32) (q : xMid G w h mo O pa ra cp fr ad md ps la ia rq im eo tb wr fo u wr2) (hk : xHp G O fo (fun r u => ∃ k1, k1 < md ∧ x = nI k1 ∧ r = xhi (if z = 0 then (ps (22 + 2 * k1)) else (ps (21 + 2 * k1))) 64 ∧ u = w) Int32.toInt64 (fun E u => E = eI ∧ ¬ xIs md x ∧ u = w) [(1, eI)] k u) (hm : (fun r u => (¬ xIs md x ∧ r = 0 ∧ xMK G mo la ia rq 1 md im wr2 u) ∨ ∃ k1, k1 < md ∧ x = nI k1 ∧ r = xhi (if z = 0 then xBm im k1 else xTm im k1) 64 ∧ xMK G mo la ia rq 0 md im wr2 u) r' u') : xDone G u' h mo O k (Int32.toInt64 r') := by
  have hT := q.2.1
  have hC := q.2.2.1
  have m5 := hC.m50
  have hself := xKp.self hC
  rcases hm with ⟨hno, -, hmk⟩ | ⟨j1, g1, fx, ha, hmk⟩
  · rcases hk with ⟨-, v, u0, ⟨k1, h1, ex, -⟩, -⟩ | ⟨hk, hE⟩ | hF
    · exact absurd ⟨k1, h1, ex⟩ hno
    · exact q.no (hE.2.2 ▸ hself) hmk hk (by decide)
    · exact hF.elim
  · rcases hk with ⟨hk, v9, u0, ⟨k1, h1, ex, hv, hw⟩, hu⟩ | ⟨-, hE⟩ | hF
    · obtain rfl := xh_eq ex fx h1 g1 m5
      rw [hw] at hu
      rw [hT.T g1, hT.B g1] at ha
      exact q.an hself hu hmk hk (by rw [hv, ha])
    · exact absurd ⟨j1, g1, fx⟩ hE.2.1
    · exact hF.elim
theorem xp_at (x z y : Int32) (hC : xCL G w pa ra cp fr ad md ps eo tb wr) : (∀ (v9 : Int32) (u : xM), (fun r u => ∃ k1, k1 < md ∧ x = nI k1 ∧ r = xI (xcf (if z = 0 then (ps (22 + 2 * k1)) else (ps (21 + 2 * k1))) y) ∧ u = w) v9 u → xSub wr u) ∧ ∀ (E : String) (u : xM), (fun E u => E = eI ∧ ¬ xIs md x ∧ u = w) E u → (E = eI) ∧ xSub wr u :=
  ⟨fun v u ⟨k1, _, _, _, q⟩ => xSub.rf hC q, fun E u q => ⟨q.1, xSub.rf hC q.2.2⟩⟩
theorem xd_at (x z y : Int32) (q : xMid G w h mo O pa ra cp fr ad md ps la ia rq im eo tb wr fo u wr2) (hk : xHp G O fo (fun r u => ∃ k1, k1 < md ∧ x = nI k1 ∧ r = xI (xcf (if z = 0 then (ps (22 + 2 * k1)) else (ps (21 + 2 * k1))) y) ∧ u = w) Int32.toInt64 (fun E u => E = eI ∧ ¬ xIs md x ∧ u = w) [(1, eI)] k u) (hm : (fun r u => (¬ xIs md x ∧ r = 0 ∧ xMK G mo la ia rq 1 md im wr2 u) ∨ ∃ k1, k1 < md ∧ x = nI k1 ∧ r = xI (xcf (if z = 0 then xBm im k1 else xTm im k1) y) ∧ xMK G mo la ia rq 0 md im wr2 u) r' u') : xDone G u' h mo O k (Int32.toInt64 r') := by
  have hT := q.2.1
  have hC := q.2.2.1
  have m5 := hC.m50
  have hself := xKp.self hC
  rcases hm with ⟨hno, -, hmk⟩ | ⟨j1, g1, fx, ha, hmk⟩
  · rcases hk with ⟨-, v, u0, ⟨k1, h1, ex, -⟩, -⟩ | ⟨hk, hE⟩ | hF
    · exact absurd ⟨k1, h1, ex⟩ hno
    · exact q.no (hE.2.2 ▸ hself) hmk hk (by decide)
    · exact hF.elim
  · rcases hk with ⟨hk, v9, u0, ⟨k1, h1, ex, hv, hw⟩, hu⟩ | ⟨-, hE⟩ | hF
    · obtain rfl := xh_eq ex fx h1 g1 m5
      rw [hw] at hu
      rw [hT.T g1, hT.B g1] at ha
      exact q.an hself hu hmk hk (by rw [hv, ha])
    · exact absurd ⟨j1, g1, fx⟩ hE.2.1
    · exact hF.elim
theorem xp_value (x : Int32) (v : Int64) (hC : xCL G w pa ra cp fr ad md ps eo tb wr) : (∀ (v9 : Int32) (u : xM), (fun r u => ∃ k1, k1 < md ∧ x = nI k1 ∧ ((xhor (ps (22 + 2 * k1)) (xR v) (xlen (ps (22 + 2 * k1)) 64) 0 = 0 ∧ r = -1) ∨ (xhor (ps (22 + 2 * k1)) (xR v) (xlen (ps (22 + 2 * k1)) 64) 0 ≠ 0 ∧ r = xI (xhor (ps (21 + 2 * k1)) (xR v) (xlen (ps (21 + 2 * k1)) 64) 0 * xinv (xhor (ps (22 + 2 * k1)) (xR v) (xlen (ps (22 + 2 * k1)) 64) 0)))) ∧ u = w) v9 u → xSub wr u) ∧ ∀ (E : String) (u : xM), (fun E u => E = eI ∧ ¬ xIs md x ∧ u = w) E u → (E = eI) ∧ xSub wr u :=
  ⟨fun v u ⟨k1, _, _, _, q⟩ => xSub.rf hC q, fun E u q => ⟨q.1, xSub.rf hC q.2.2⟩⟩
theorem xd_value (x : Int32) (v : Int64) (q : xMid G w h mo O pa ra cp fr ad md ps la ia rq im eo tb wr fo u wr2) (hk : xHp G O fo (fun r u => ∃ k1, k1 < md ∧ x = nI k1 ∧ ((xhor (ps (22 + 2 * k1)) (xR v) (xlen (ps (22 + 2 * k1)) 64) 0 = 0 ∧ r = -1) ∨ (xhor (ps (22 + 2 * k1)) (xR v) (xlen (ps (22 + 2 * k1)) 64) 0 ≠ 0 ∧ r = xI (xhor (ps (21 + 2 * k1)) (xR v) (xlen (ps (21 + 2 * k1)) 64) 0 * xinv (xhor (ps (22 + 2 * k1)) (xR v) (xlen (ps (22 + 2 * k1)) 64) 0)))) ∧ u = w) Int32.toInt64 (fun E u => E = eI ∧ ¬ xIs md x ∧ u = w) [(1, eI)] k u) (hm : (fun r u => (¬ xIs md x ∧ r = 0 ∧ xMK G mo la ia rq 1 md im wr2 u) ∨ ∃ k1, k1 < md ∧ x = nI k1 ∧ ((xhor (xBm im k1) (xR v) 64 0 = 0 ∧ r = -1) ∨ (xhor (xBm im k1) (xR v) 64 0 ≠ 0 ∧ r = xI (xhor (xTm im k1) (xR v) 64 0 * xinv (xhor (xBm im k1) (xR v) 64 0)))) ∧ xMK G mo la ia rq 0 md im wr2 u) r' u') : xDone G u' h mo O k (Int32.toInt64 r') := by
  have hT := q.2.1
  have hC := q.2.2.1
  have m5 := hC.m50
  have hself := xKp.self hC
  rcases hm with ⟨hno, -, hmk⟩ | ⟨j1, g1, fx, ha, hmk⟩
  · rcases hk with ⟨-, v, u0, ⟨k1, h1, ex, -⟩, -⟩ | ⟨hk, hE⟩ | hF
    · exact absurd ⟨k1, h1, ex⟩ hno
    · exact q.no (hE.2.2 ▸ hself) hmk hk (by decide)
    · exact hF.elim
  · rcases hk with ⟨hk, v9, u0, ⟨k1, h1, ex, hv, hw⟩, hu⟩ | ⟨-, hE⟩ | hF
    · obtain rfl := xh_eq ex fx h1 g1 m5
      rw [hw] at hu
      rw [hT.T g1, hT.B g1, xhor_l (xsup_mono (hT.sT g1) (by decide)), xhor_l (xsup_mono (hT.sB g1) (by decide))] at ha
      refine q.an hself hu hmk hk ?_
      rcases hv with ⟨v1, hv⟩ | ⟨v1, hv⟩ <;> rcases ha with ⟨a1, ha⟩ | ⟨a1, ha⟩
      · rw [hv, ha]
      · exact absurd v1 a1
      · exact absurd a1 v1
      · rw [hv, ha]
    · exact absurd ⟨j1, g1, fx⟩ hE.2.1
    · exact hF.elim
theorem xp_same (x y : Int32) (hC : xCL G w pa ra cp fr ad md ps eo tb wr) : (∀ (v9 : Int32) (u : xM), (fun r u => ∃ k1 k2, k1 < md ∧ k2 < md ∧ x = nI k1 ∧ y = nI k2 ∧ ((r = 1 ∧ (ps (21 + 2 * k1)) = (ps (21 + 2 * k2)) ∧ (ps (22 + 2 * k1)) = (ps (22 + 2 * k2))) ∨ (r = 0 ∧ ¬ ((ps (21 + 2 * k1)) = (ps (21 + 2 * k2)) ∧ (ps (22 + 2 * k1)) = (ps (22 + 2 * k2))))) ∧ u = w) v9 u → xSub wr u) ∧ ∀ (E : String) (u : xM), (fun E u => E = eI ∧ ¬ (xIs md x ∧ xIs md y) ∧ u = w) E u → (E = eI) ∧ xSub wr u :=
  ⟨fun v u ⟨k1, k2, _, _, _, _, _, q⟩ => xSub.rf hC q, fun E u q => ⟨q.1, xSub.rf hC q.2.2⟩⟩
theorem xd_same (x y : Int32) (q : xMid G w h mo O pa ra cp fr ad md ps la ia rq im eo tb wr fo u wr2) (hk : xHp G O fo (fun r u => ∃ k1 k2, k1 < md ∧ k2 < md ∧ x = nI k1 ∧ y = nI k2 ∧ ((r = 1 ∧ (ps (21 + 2 * k1)) = (ps (21 + 2 * k2)) ∧ (ps (22 + 2 * k1)) = (ps (22 + 2 * k2))) ∨ (r = 0 ∧ ¬ ((ps (21 + 2 * k1)) = (ps (21 + 2 * k2)) ∧ (ps (22 + 2 * k1)) = (ps (22 + 2 * k2))))) ∧ u = w) xZl (fun E u => E = eI ∧ ¬ (xIs md x ∧ xIs md y) ∧ u = w) [(1, eI)] k u) (hm : (fun r u => (¬ (xIs md x ∧ xIs md y) ∧ r = 0 ∧ xMK G mo la ia rq 1 md im wr2 u) ∨ ∃ k1 k2, k1 < md ∧ k2 < md ∧ x = nI k1 ∧ y = nI k2 ∧ ((r = 1 ∧ xTm im k1 = xTm im k2 ∧ xBm im k1 = xBm im k2) ∨ (r = 0 ∧ ¬ (xTm im k1 = xTm im k2 ∧ xBm im k1 = xBm im k2))) ∧ xMK G mo la ia rq 0 md im wr2 u) r' u') : xDone G u' h mo O k (xZl r') := by
  have hT := q.2.1
  have hC := q.2.2.1
  have m5 := hC.m50
  have hself := xKp.self hC
  rcases hm with ⟨hno, -, hmk⟩ | ⟨j1, j2, g1, g2, fx, fy, ha, hmk⟩
  · rcases hk with ⟨-, v, u0, ⟨k1, k2, h1, h2, ex, ey, -⟩, -⟩ | ⟨hk, hE⟩ | hF
    · exact absurd ⟨⟨k1, h1, ex⟩, ⟨k2, h2, ey⟩⟩ hno
    · exact q.no (hE.2.2 ▸ hself) hmk hk (by decide)
    · exact hF.elim
  · rcases hk with ⟨hk, v, u0, ⟨k1, k2, h1, h2, ex, ey, hv, hw⟩, hu⟩ | ⟨-, hE⟩ | hF
    · obtain rfl := xh_eq ex fx h1 g1 m5
      obtain rfl := xh_eq ey fy h2 g2 m5
      rw [hw] at hu
      rw [hT.T g1, hT.T g2, hT.B g1, hT.B g2] at ha
      refine q.an hself hu hmk hk ?_
      rcases hv with ⟨v1, hv⟩ | ⟨v1, hv⟩ <;> rcases ha with ⟨a1, ha⟩ | ⟨a1, ha⟩
      · rw [v1, a1]
      · exact absurd hv ha
      · exact absurd ha hv
      · rw [v1, a1]
    · exact absurd ⟨⟨j1, g1, fx⟩, ⟨j2, g2, fy⟩⟩ hE.2.1
    · exact hF.elim
end XCMB
