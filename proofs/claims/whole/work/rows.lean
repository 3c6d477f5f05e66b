section
-- ===== PART A: goes FIRST, ahead of the names: the tables' words, and 'selects' of the private methods out of them =====
/-- a private method of a class that the tables say can be made, by its rows of tables_1 -/
def lw_okq (q : MethodName × Nat) : Prop := (q.1.cls ≠ "java/lang/invoke/MethodHandle" ∧ q.1.cls ≠ "java/lang/invoke/VarHandle") ∧ Cond.instantiable q.1.cls q.2 ∈ tables_1 ∧ Cond.privateMethod q.1 ∈ tables_1 ∧ Cond.instanceMethod q.1 ∈ tables_1
theorem lw_p0 : lw_okq (⟨"java/lang/Throwable", "fillInStackTrace", "(I)Ljava/lang/Throwable;"⟩, 6) := ⟨⟨by decide +kernel, by decide +kernel⟩, List.mem_of_getElem? (i := 165) (by decide +kernel), List.mem_of_getElem? (i := 163) (by decide +kernel), List.mem_of_getElem? (i := 164) (by decide +kernel)⟩
theorem lw_p1 : lw_okq (⟨"CertificateSums", "keepResult", "()I"⟩, 10) := ⟨⟨by decide +kernel, by decide +kernel⟩, List.mem_of_getElem? (i := 16) (by decide +kernel), List.mem_of_getElem? (i := 216) (by decide +kernel), List.mem_of_getElem? (i := 217) (by decide +kernel)⟩
theorem lw_p2 : lw_okq (⟨"CertificateSums", "refuseWhenFull", "()V"⟩, 10) := ⟨⟨by decide +kernel, by decide +kernel⟩, List.mem_of_getElem? (i := 16) (by decide +kernel), List.mem_of_getElem? (i := 220) (by decide +kernel), List.mem_of_getElem? (i := 221) (by decide +kernel)⟩
theorem lw_p3 : lw_okq (⟨"CertificateSums", "toLowestTerms", "()V"⟩, 10) := ⟨⟨by decide +kernel, by decide +kernel⟩, List.mem_of_getElem? (i := 16) (by decide +kernel), List.mem_of_getElem? (i := 240) (by decide +kernel), List.mem_of_getElem? (i := 241) (by decide +kernel)⟩
theorem lw_p4 : lw_okq (⟨"CertificateSums", "known", "(I)LCertificateSums$Fraction;"⟩, 10) := ⟨⟨by decide +kernel, by decide +kernel⟩, List.mem_of_getElem? (i := 16) (by decide +kernel), List.mem_of_getElem? (i := 321) (by decide +kernel), List.mem_of_getElem? (i := 322) (by decide +kernel)⟩
theorem lw_p5 : lw_okq (⟨"CertificateSums", "refuseZeroRatioBottom", "()V"⟩, 10) := ⟨⟨by decide +kernel, by decide +kernel⟩, List.mem_of_getElem? (i := 16) (by decide +kernel), List.mem_of_getElem? (i := 398) (by decide +kernel), List.mem_of_getElem? (i := 399) (by decide +kernel)⟩
theorem lw_p6 : lw_okq (⟨"CertificateSums", "setToStep", "(LCertificateSums$Fraction;)V"⟩, 10) := ⟨⟨by decide +kernel, by decide +kernel⟩, List.mem_of_getElem? (i := 16) (by decide +kernel), List.mem_of_getElem? (i := 403) (by decide +kernel), List.mem_of_getElem? (i := 404) (by decide +kernel)⟩
theorem lw_p7 : lw_okq (⟨"CertificateSums", "refuseZeroDivisors", "(LCertificateSums$Fraction;)V"⟩, 10) := ⟨⟨by decide +kernel, by decide +kernel⟩, List.mem_of_getElem? (i := 16) (by decide +kernel), List.mem_of_getElem? (i := 425) (by decide +kernel), List.mem_of_getElem? (i := 426) (by decide +kernel)⟩
theorem lw_p8 : lw_okq (⟨"CertificateSums", "findPlain", "(LCertificateSums$Fraction;LCertificateSums$Fraction;)Z"⟩, 10) := ⟨⟨by decide +kernel, by decide +kernel⟩, List.mem_of_getElem? (i := 16) (by decide +kernel), List.mem_of_getElem? (i := 434) (by decide +kernel), List.mem_of_getElem? (i := 435) (by decide +kernel)⟩
theorem lw_p9 : lw_okq (⟨"CertificateSums$Equations", "firstUntaken", "(LCertificateSums$Polynomial;)I"⟩, 8) := ⟨⟨by decide +kernel, by decide +kernel⟩, List.mem_of_getElem? (i := 48) (by decide +kernel), List.mem_of_getElem? (i := 454) (by decide +kernel), List.mem_of_getElem? (i := 455) (by decide +kernel)⟩
theorem lw_p10 : lw_okq (⟨"CertificateSums$Equations", "solveFor", "(II)V"⟩, 8) := ⟨⟨by decide +kernel, by decide +kernel⟩, List.mem_of_getElem? (i := 48) (by decide +kernel), List.mem_of_getElem? (i := 459) (by decide +kernel), List.mem_of_getElem? (i := 460) (by decide +kernel)⟩
theorem lw_p11 : lw_okq (⟨"CertificateSumsModel", "keep", "(I)I"⟩, 20) := ⟨⟨by decide +kernel, by decide +kernel⟩, List.mem_of_getElem? (i := 534) (by decide +kernel), List.mem_of_getElem? (i := 625) (by decide +kernel), List.mem_of_getElem? (i := 626) (by decide +kernel)⟩
theorem lw_p12 : lw_okq (⟨"CertificateSumsModel", "raise", "(I)I"⟩, 20) := ⟨⟨by decide +kernel, by decide +kernel⟩, List.mem_of_getElem? (i := 534) (by decide +kernel), List.mem_of_getElem? (i := 632) (by decide +kernel), List.mem_of_getElem? (i := 633) (by decide +kernel)⟩
theorem lw_p13 : lw_okq (⟨"CertificateSumsModel", "are", "(II)Z"⟩, 20) := ⟨⟨by decide +kernel, by decide +kernel⟩, List.mem_of_getElem? (i := 534) (by decide +kernel), List.mem_of_getElem? (i := 644) (by decide +kernel), List.mem_of_getElem? (i := 645) (by decide +kernel)⟩
theorem lw_p14 : lw_okq (⟨"CertificateSumsModel", "isThere", "(I)Z"⟩, 20) := ⟨⟨by decide +kernel, by decide +kernel⟩, List.mem_of_getElem? (i := 534) (by decide +kernel), List.mem_of_getElem? (i := 648) (by decide +kernel), List.mem_of_getElem? (i := 649) (by decide +kernel)⟩
theorem lw_p15 : lw_okq (⟨"CertificateSumsModel", "sum", "(II)V"⟩, 20) := ⟨⟨by decide +kernel, by decide +kernel⟩, List.mem_of_getElem? (i := 534) (by decide +kernel), List.mem_of_getElem? (i := 652) (by decide +kernel), List.mem_of_getElem? (i := 653) (by decide +kernel)⟩
def lw_privs_1 : List (MethodName × Nat) := [(⟨"java/lang/Throwable", "fillInStackTrace", "(I)Ljava/lang/Throwable;"⟩, 6), (⟨"CertificateSums", "keepResult", "()I"⟩, 10), (⟨"CertificateSums", "refuseWhenFull", "()V"⟩, 10), (⟨"CertificateSums", "toLowestTerms", "()V"⟩, 10), (⟨"CertificateSums", "known", "(I)LCertificateSums$Fraction;"⟩, 10), (⟨"CertificateSums", "refuseZeroRatioBottom", "()V"⟩, 10), (⟨"CertificateSums", "setToStep", "(LCertificateSums$Fraction;)V"⟩, 10), (⟨"CertificateSums", "refuseZeroDivisors", "(LCertificateSums$Fraction;)V"⟩, 10), (⟨"CertificateSums", "findPlain", "(LCertificateSums$Fraction;LCertificateSums$Fraction;)Z"⟩, 10), (⟨"CertificateSums$Equations", "firstUntaken", "(LCertificateSums$Polynomial;)I"⟩, 8), (⟨"CertificateSums$Equations", "solveFor", "(II)V"⟩, 8), (⟨"CertificateSumsModel", "keep", "(I)I"⟩, 20), (⟨"CertificateSumsModel", "raise", "(I)I"⟩, 20), (⟨"CertificateSumsModel", "are", "(II)Z"⟩, 20), (⟨"CertificateSumsModel", "isThere", "(I)Z"⟩, 20), (⟨"CertificateSumsModel", "sum", "(II)V"⟩, 20)]
theorem lw_r1 : ∀ q ∈ lw_privs_1, lw_okq q := List.forall_mem_cons.mpr ⟨lw_p0, List.forall_mem_cons.mpr ⟨lw_p1, List.forall_mem_cons.mpr ⟨lw_p2, List.forall_mem_cons.mpr ⟨lw_p3, List.forall_mem_cons.mpr ⟨lw_p4, List.forall_mem_cons.mpr ⟨lw_p5, List.forall_mem_cons.mpr ⟨lw_p6, List.forall_mem_cons.mpr ⟨lw_p7, List.forall_mem_cons.mpr ⟨lw_p8, List.forall_mem_cons.mpr ⟨lw_p9, List.forall_mem_cons.mpr ⟨lw_p10, List.forall_mem_cons.mpr ⟨lw_p11, List.forall_mem_cons.mpr ⟨lw_p12, List.forall_mem_cons.mpr ⟨lw_p13, List.forall_mem_cons.mpr ⟨lw_p14, List.forall_mem_cons.mpr ⟨lw_p15, fun _ h => absurd h List.not_mem_nil⟩⟩⟩⟩⟩⟩⟩⟩⟩⟩⟩⟩⟩⟩⟩⟩
theorem lw_p16 : lw_okq (⟨"CertificateSumsModel", "loadTop", "([JI)V"⟩, 20) := ⟨⟨by decide +kernel, by decide +kernel⟩, List.mem_of_getElem? (i := 534) (by decide +kernel), List.mem_of_getElem? (i := 656) (by decide +kernel), List.mem_of_getElem? (i := 657) (by decide +kernel)⟩
theorem lw_p17 : lw_okq (⟨"CertificateSumsModel", "loadBottom", "([JI)V"⟩, 20) := ⟨⟨by decide +kernel, by decide +kernel⟩, List.mem_of_getElem? (i := 534) (by decide +kernel), List.mem_of_getElem? (i := 663) (by decide +kernel), List.mem_of_getElem? (i := 664) (by decide +kernel)⟩
theorem lw_p18 : lw_okq (⟨"CertificateSumsModel", "multiply", "([J[J)V"⟩, 20) := ⟨⟨by decide +kernel, by decide +kernel⟩, List.mem_of_getElem? (i := 534) (by decide +kernel), List.mem_of_getElem? (i := 667) (by decide +kernel), List.mem_of_getElem? (i := 668) (by decide +kernel)⟩
theorem lw_p19 : lw_okq (⟨"CertificateSumsModel", "lowest", "()V"⟩, 20) := ⟨⟨by decide +kernel, by decide +kernel⟩, List.mem_of_getElem? (i := 534) (by decide +kernel), List.mem_of_getElem? (i := 674) (by decide +kernel), List.mem_of_getElem? (i := 675) (by decide +kernel)⟩
theorem lw_p20 : lw_okq (⟨"CertificateSumsModel", "divide", "([J[J)V"⟩, 20) := ⟨⟨by decide +kernel, by decide +kernel⟩, List.mem_of_getElem? (i := 534) (by decide +kernel), List.mem_of_getElem? (i := 678) (by decide +kernel), List.mem_of_getElem? (i := 679) (by decide +kernel)⟩
theorem lw_p21 : lw_okq (⟨"CertificateSumsModel", "isNoRatio", "()Z"⟩, 20) := ⟨⟨by decide +kernel, by decide +kernel⟩, List.mem_of_getElem? (i := 534) (by decide +kernel), List.mem_of_getElem? (i := 704) (by decide +kernel), List.mem_of_getElem? (i := 705) (by decide +kernel)⟩
theorem lw_p22 : lw_okq (⟨"CertificateSumsModel", "makeStep", "()V"⟩, 20) := ⟨⟨by decide +kernel, by decide +kernel⟩, List.mem_of_getElem? (i := 534) (by decide +kernel), List.mem_of_getElem? (i := 708) (by decide +kernel), List.mem_of_getElem? (i := 709) (by decide +kernel)⟩
theorem lw_p23 : lw_okq (⟨"CertificateSumsModel", "mayBe", "(II)Z"⟩, 20) := ⟨⟨by decide +kernel, by decide +kernel⟩, List.mem_of_getElem? (i := 534) (by decide +kernel), List.mem_of_getElem? (i := 720) (by decide +kernel), List.mem_of_getElem? (i := 721) (by decide +kernel)⟩
theorem lw_p24 : lw_okq (⟨"CertificateSumsModel", "fill", "(II)V"⟩, 20) := ⟨⟨by decide +kernel, by decide +kernel⟩, List.mem_of_getElem? (i := 534) (by decide +kernel), List.mem_of_getElem? (i := 725) (by decide +kernel), List.mem_of_getElem? (i := 726) (by decide +kernel)⟩
theorem lw_p25 : lw_okq (⟨"CertificateSumsModel", "clear", "(I)I"⟩, 20) := ⟨⟨by decide +kernel, by decide +kernel⟩, List.mem_of_getElem? (i := 534) (by decide +kernel), List.mem_of_getElem? (i := 729) (by decide +kernel), List.mem_of_getElem? (i := 730) (by decide +kernel)⟩
theorem lw_p26 : lw_okq (⟨"CertificateSumsModel", "loadPart", "(IZ)V"⟩, 20) := ⟨⟨by decide +kernel, by decide +kernel⟩, List.mem_of_getElem? (i := 534) (by decide +kernel), List.mem_of_getElem? (i := 745) (by decide +kernel), List.mem_of_getElem? (i := 746) (by decide +kernel)⟩
def lw_privs_2 : List (MethodName × Nat) := [(⟨"CertificateSumsModel", "loadTop", "([JI)V"⟩, 20), (⟨"CertificateSumsModel", "loadBottom", "([JI)V"⟩, 20), (⟨"CertificateSumsModel", "multiply", "([J[J)V"⟩, 20), (⟨"CertificateSumsModel", "lowest", "()V"⟩, 20), (⟨"CertificateSumsModel", "divide", "([J[J)V"⟩, 20), (⟨"CertificateSumsModel", "isNoRatio", "()Z"⟩, 20), (⟨"CertificateSumsModel", "makeStep", "()V"⟩, 20), (⟨"CertificateSumsModel", "mayBe", "(II)Z"⟩, 20), (⟨"CertificateSumsModel", "fill", "(II)V"⟩, 20), (⟨"CertificateSumsModel", "clear", "(I)I"⟩, 20), (⟨"CertificateSumsModel", "loadPart", "(IZ)V"⟩, 20)]
theorem lw_r2 : ∀ q ∈ lw_privs_2, lw_okq q := List.forall_mem_cons.mpr ⟨lw_p16, List.forall_mem_cons.mpr ⟨lw_p17, List.forall_mem_cons.mpr ⟨lw_p18, List.forall_mem_cons.mpr ⟨lw_p19, List.forall_mem_cons.mpr ⟨lw_p20, List.forall_mem_cons.mpr ⟨lw_p21, List.forall_mem_cons.mpr ⟨lw_p22, List.forall_mem_cons.mpr ⟨lw_p23, List.forall_mem_cons.mpr ⟨lw_p24, List.forall_mem_cons.mpr ⟨lw_p25, List.forall_mem_cons.mpr ⟨lw_p26, fun _ h => absurd h List.not_mem_nil⟩⟩⟩⟩⟩⟩⟩⟩⟩⟩⟩
def lw_privs : List (MethodName × Nat) := lw_privs_1 ++ (lw_privs_2)
def lw_tbl : List Cond := k2_sels lw_privs ++ tables_1
theorem lw_privs_ok : ∀ q ∈ lw_privs, lw_okq q := by
  show ∀ q ∈ lw_privs_1 ++ (lw_privs_2), lw_okq q
  exact List.forall_mem_append.mpr ⟨lw_r1, lw_r2⟩
end
section
/-! A throw that is caught by a row of this method's table whose class is linked by name, behind rows that name other classes. The printed vx_catch asks for this; the rounds' library doesn't have it (REPORT.md, TRANSLATOR): proved here over ThrowLaws, Cold, ColdWords. -/
section XT
theorem xt_row {Q : Handler → Pre} {E : CtlPost} {e : Env} {d : Bool} {acts : List Action} {s : State} {f : JFrame} {a : Addr} {x : ExceptionTableEntry} {t : List ExceptionTableEntry} {c : ClassId} {cell : Cell} (hx : covers x f.pc = true) (h0 : x.catchType ≠ 0)
    (hl : s.vm.ClassLinks e.platform f.method.cls x.catchType c) (hcell : s.heap[a]? = some cell) (hobj : ∀ k, cell.vm ≠ .statics k) (hk : ∃ k, s.vm.classes[cell.cls]? = some k) (hc : ∃ k, s.vm.classes[c]? = some k) :
    wp (findHandler.go f a (x :: t)) Q E e d acts s ↔ (if s.vm.assignable cell.cls c = true then Q (.found x.handlerPc) d acts (s.setVm (s.vm.noted f.method.cls x.catchType (.cls c))) else wp (findHandler.go f a t) Q E e d acts (s.setVm (s.vm.noted f.method.cls x.catchType (.cls c)))) := by
  simp only [covers] at hx
  obtain ⟨ha, ht⟩ := (resolveClass_links e.toSetting hl).op (op := VmOp.resolveClass f.method.cls x.catchType) rfl
  have hal : s.vm.Alike (s.vm.noted f.method.cls x.catchType (.cls c)) := (Vm.Alike.refl s.vm).noted _ _ _
  obtain ⟨k1, hk1⟩ := hk
  obtain ⟨k2, hk2⟩ := hc
  obtain ⟨k3, hk3, -⟩ := hal.2.2 _ _ hk1
  obtain ⟨k4, hk4, -⟩ := hal.2.2 _ _ hk2
  have hq : (s.vm.noted f.method.cls x.catchType (.cls c)).assignable cell.cls c = s.vm.assignable cell.cls c := by rw [hal.assignable]
  cases hv : s.vm.assignable cell.cls c with
  | true =>
    rw [hv] at hq
    simp [findHandler.go, hx, h0, ha, ht, hcell, hobj, hk3, hk4, hq, VmOp.dirties, VmOp.acts]
  | false =>
    rw [hv] at hq
    simp [findHandler.go, hx, h0, ha, ht, hcell, hobj, hk3, hk4, hq, VmOp.dirties, VmOp.acts]
theorem xt_go {e : Env} {s₀ : State} {f : JFrame} {a : Addr} {cell : Cell} (hobj : ∀ k, cell.vm ≠ .statics k) (hk0 : ∃ k, s₀.vm.classes[cell.cls]? = some k) (x : ExceptionTableEntry) (rest : List ExceptionTableEntry) (hx : covers x f.pc = true) (h0 : x.catchType ≠ 0)
    {cx : ClassId} (hlx : s₀.vm.ClassLinks e.platform f.method.cls x.catchType cx) (hfx : s₀.vm.assignable cell.cls cx = true) (pre : List ExceptionTableEntry) :
    ∀ (S : State), s₀.WarmedH S.vm → S.heap[a]? = some cell → (∀ y ∈ pre, covers y f.pc = false ∨ (y.catchType ≠ 0 ∧ ∃ c, s₀.vm.ClassLinks e.platform f.method.cls y.catchType c ∧ s₀.vm.assignable cell.cls c = false)) →
      ∃ vm', s₀.WarmedH vm' ∧ ∀ (Q : Handler → Pre) (E : CtlPost) (d : Bool) (acts : List Action), wp (findHandler.go f a (pre ++ x :: rest)) Q E e d acts S ↔ Q (.found x.handlerPc) d acts (S.setVm vm') := by
  obtain ⟨k0, hk0⟩ := hk0
  induction pre with
  | nil =>
    intro S hW hcell _
    obtain ⟨k1, hk1, -⟩ := hW.alike.2.2 _ _ hk0
    obtain ⟨dk, _, _, kt, hd, _, _, _, _, hkt, _, hopen⟩ := hlx.here
    obtain ⟨k2, hk2, -⟩ := hW.alike.2.2 _ _ hkt
    refine ⟨_, hW.noted hd hopen (State.rightAt_cls hlx), fun Q E d acts => ?_⟩
    rw [List.nil_append, xt_row hx h0 (hW.classLinks hlx) hcell hobj ⟨k1, hk1⟩ ⟨k2, hk2⟩, if_pos (by rw [hW.alike.assignable]; exact hfx)]
  | cons y ys ih =>
    intro S hW hcell hpass
    have hr : ∀ z ∈ ys, covers z f.pc = false ∨ (z.catchType ≠ 0 ∧ ∃ c, s₀.vm.ClassLinks e.platform f.method.cls z.catchType c ∧ s₀.vm.assignable cell.cls c = false) := fun z hz => hpass z (List.mem_cons_of_mem _ hz)
    cases hcov : covers y f.pc with
    | false =>
      obtain ⟨vm', h1, h2⟩ := ih S hW hcell hr
      exact ⟨vm', h1, fun Q E d acts => by rw [List.cons_append, Jvm.W.findHandler_go_skip hcov]; exact h2 Q E d acts⟩
    | true =>
      rcases hpass y List.mem_cons_self with h | ⟨hy0, c, hl, hno⟩
      · rw [h] at hcov; cases hcov
      · obtain ⟨k1, hk1, -⟩ := hW.alike.2.2 _ _ hk0
        obtain ⟨dk, _, _, kt, hd, _, _, _, _, hkt, _, hopen⟩ := hl.here
        obtain ⟨k2, hk2, -⟩ := hW.alike.2.2 _ _ hkt
        obtain ⟨vm', h1, h2⟩ := ih (S.setVm (S.vm.noted f.method.cls y.catchType (.cls c))) (hW.noted hd hopen (State.rightAt_cls hl)) hcell hr
        refine ⟨vm', h1, fun Q E d acts => ?_⟩
        rw [List.cons_append, xt_row hcov hy0 (hW.classLinks hl) hcell hobj ⟨k1, hk1⟩ ⟨k2, hk2⟩, if_neg (by rw [hW.alike.assignable, hno]; decide)]
        exact h2 Q E d acts
theorem xt_caught {p : Program} {l : Launch} {e : Env} {R : Room} {s : State} {m : MethodId} {args : Array Value} {below : List Frame} {meth : Method} {c : Code} {T : State} {locs : List Loc} {cells slots : Nat}
    (X : Stand p l e R s m args below meth c T locs cells slots) (a : Addr) {g : JFrame} (hg : g.method = m) {cell : Cell} (hcell : T.heap[a]? = some cell) (hobj : cell.vm.isStatics = false) (hk0 : ∃ k, s.vm.classes[cell.cls]? = some k)
    (pre : List ExceptionTableEntry) (x : ExceptionTableEntry) (rest : List ExceptionTableEntry) (hsplit : c.exceptionTable.toList = pre ++ x :: rest)
    (hpass : ∀ y ∈ pre, covers y g.pc = false ∨ (y.catchType ≠ 0 ∧ ∃ c, s.vm.ClassLinks e.platform m.cls y.catchType c ∧ s.vm.assignable cell.cls c = false)) (hx : covers x g.pc = true) (h0 : x.catchType ≠ 0)
    {cx : ClassId} (hlx : s.vm.ClassLinks e.platform m.cls x.catchType cx) (hfx : s.vm.assignable cell.cls cx = true) :
    ∃ vm', Stand p l e R s m args below meth c (T.setVm vm') locs cells slots ∧ Steps p.tables e below ((T.setTop g).pushFrame (.throwing a)) ((T.setVm vm').setTop { g with pc := x.handlerPc, stack := [.ref a] }) := by
  subst hg
  have hv : ((T.setTop g).pushFrame (.throwing a)).vm = T.vm := Stand.throwing_vm T g a
  have hh : ((T.setTop g).pushFrame (.throwing a)).heap = T.heap := Stand.throwing_heap T g a
  obtain ⟨vm', hW', hf⟩ := xt_go (e := e) (s₀ := s) (f := g) (a := a) (cell := cell) (VmData.ne_statics_of hobj) hk0 x rest hx h0 hlx hfx pre ((T.setTop g).pushFrame (.throwing a)) (by rw [hv]; exact X.warmed) (by rw [hh]; exact hcell) hpass
  refine ⟨vm', X.noted hW', ?_⟩
  have hfind : ∀ (Q : Handler → Pre) (E : CtlPost) (d : Bool) (acts : List Action), wp (findHandler g a) Q E e d acts ((T.setTop g).pushFrame (.throwing a)) ↔ Q (.found x.handlerPc) d acts (((T.setTop g).pushFrame (.throwing a)).setVm vm') := by
    intro Q E d acts
    rw [Jvm.W.findHandler_eq (meth := meth) (code := c) (by rw [hv]; exact X.method') X.code, hsplit]
    exact hf Q E d acts
  obtain ⟨hgo, hw⟩ := X.here.throwing (g := g) a
  have hst : ∀ r, (stepThrowing e ((T.setTop g).pushFrame (.throwing a)) a (.java g :: r)).1 = (((T.setTop g).pushFrame (.throwing a)).setVm vm').setFrames (.java { g with pc := x.handlerPc, stack := [.ref a] } :: r) := by
    intro r
    simp only [stepThrowing, searchFrame, vmDo]
    generalize hr : Sem.go _ e false [] ((T.setTop g).pushFrame (.throwing a)) = res
    obtain ⟨as, rfl, ha⟩ := Sem.eq_ok_of hr (a := Handler.found x.handlerPc) (s' := ((T.setTop g).pushFrame (.throwing a)).setVm vm') (acts' := []) (by simp [hfind _ _ _ _])
    rfl
  refine Steps.head hgo hw ?_
  rw [stepThread_throwing (frames_entered X.here.top _), hst]
  obtain ⟨g₀, hg0⟩ := Option.isSome_iff_exists.mp X.here.top
  obtain ⟨r, hr⟩ := State.topJava?_eq_some.mp hg0
  have hr' : (T.setVm vm').frames = .java g₀ :: r := hr
  rw [State.setTop_of_frames _ hr', hr, List.tail_cons, State.pushFrame, State.setTop_of_frames _ hr]
  have e1 : ∀ (u : State) (F G : List Frame), ((u.setFrames F).setVm vm').setFrames G = (u.setVm vm').setFrames G := by
    intro u F G
    have h1 : (u.setFrames F).setVm vm' = (u.setVm vm').setFrames F := rfl
    rw [h1, State.setFrames_setFrames]
  rw [e1, e1]
  exact Steps.refl _
end XT
end
section
/-! ===== BEGIN words of one list among another's, by their places ===== -/
theorem goodIn_r {big : List Cond} (ws : List Cond) (ps : List Nat) (hp : ws = ps.filterMap (fun i => big[i]?)) (h : ws.all goodWord = true) : GoodIn big ws := by
  intro w hw
  have h1 := List.all_eq_true.mp h w hw
  rw [hp] at hw
  obtain ⟨i, -, hi⟩ := List.mem_filterMap.mp hw
  have hm : w ∈ big := by first | exact List.mem_of_getElem? hi | exact List.getElem?_mem hi
  exact ⟨hm, good_of_word h1⟩
theorem goodIn_app {big a b : List Cond} (ha : GoodIn big a) (hb : GoodIn big b) : GoodIn big (a ++ b) := fun w h => (List.mem_append.mp h).elim (ha w) (hb w)
theorem goodIn_ca {big a b : List Cond} {c : Cond} (ha : GoodIn big (c :: a)) (hb : GoodIn big b) : GoodIn big (c :: (a ++ b)) := fun w h => (List.mem_cons.mp h).elim (fun e => ha w (List.mem_cons.mpr (Or.inl e))) (fun h => (List.mem_append.mp h).elim (fun h => ha w (List.mem_cons.mpr (Or.inr h))) (hb w))
theorem goodIn_sub {big ws : List Cond} (hm : ∀ w ∈ ws, w ∈ big) (h : ws.all goodWord = true) : GoodIn big ws := fun w hw => ⟨hm w hw, good_of_word (List.all_eq_true.mp h w hw)⟩
/-! ===== END ===== -/

/-! ===== BEGIN exceptions that leave a method, and their catching by the caller (launches without stack traces) ===== -/
section VXA
/-! The laws vx_back, vx_callV, vx_callS, vx_callSW, vx_throw0, vx_throwS follow proofs of the library, with one case more: JvmDerived/Free/Laws.lean (Back.of_free), Shelf42/LK1.lean (callV, callS), Shelf/KitTraced.lean (throwNew0V, throwNewS). -/
/-- where a method has thrown q: the class by its name, the cell, what was written, the world -/
def vx_T (XC : String → State → State → Prop) (st : State) (q : Addr) (t : State) (mc ms : Nat) (free : Addr → Prop) : Prop :=
  ∃ (E : String) (ce : Cell) (L : List Loc), XC E st t ∧ t.heap[q]? = some ce ∧ ce.vm = .none ∧ st.vm.findClass E = some ce.cls ∧ st.WarmedH t.vm ∧ st.sameButNew ({ t with vm := st.vm } : State) L mc ms ∧ ∀ z ∈ L, free z.base
def vx_Q (Qc : Array Value → State → Outcome → State → Prop) (XC : String → State → State → Prop) (mc ms : Nat) (free : Addr → Prop) : Array Value → State → Outcome → State → Prop := fun a st o t =>
  (Qc a st o t ∧ ∃ L, FrameEnd st o t L mc ms ∧ ∀ q ∈ L, free q.base) ∨ ∃ q, o = .threw q ∧ vx_T XC st q t mc ms free
/-- a callee that returns or throws -/
def vx_Met (l : Launch) (y : MethodName) (ws : List Cond) (rm : Room) (Pc : Array Value → State → Prop) (Qc : Array Value → State → Outcome → State → Prop) (XC : String → State → State → Prop) (mc ms : Nat) (free : Addr → Prop) : Prop :=
  MetFree l y (headSpec ws rm) Pc (fun _ _ _ _ _ => True) (vx_Q Qc XC mc ms free)
def vx_Post (XC : String → State → State → Prop) (mc ms : Nat) (free : Addr → Prop) : Pt → Array Value → Addr → Pt → Prop := fun A a q B =>
  ∃ (g : JFrame) (mk : MethodId) (t : State) (L : List Loc) (E : String) (ce : Cell), B.U.heap = t.heap ∧ B.U.vm = t.vm ∧ XC E (A.U.calling g mk a) t ∧ t.heap[q]? = some ce ∧ ce.vm = .none ∧ A.U.vm.findClass E = some ce.cls ∧ B.locs = A.locs ++ L ∧ (∀ z ∈ L, free z.base) ∧ B.cells = A.cells + mc ∧ B.slots = A.slots + ms
def vx_Back (l : Launch) (R : Room) (p : Program) (e : Env) (below : List Frame) (s : State) (sargs : Array Value) (y : MethodName) (len W9 : Nat)
    (Pre : Pt → Array Value → Prop) (Post : Pt → Array Value → Option Value → Pt → Prop) (PostX : Pt → Array Value → Addr → Pt → Prop) : Prop :=
  ∀ (m : MethodId) (meth : Method) (c : Code) (A : Pt) (g : JFrame) (ig : Instr) (mk : MethodId) (a : Array Value),
    Stand p l e R s m sargs below meth c A.U A.locs A.cells A.slots → g.method = m → g.locals.size = c.maxLocals → decode c.code g.pc = .ok (ig, len) →
    2 * g.monitorRoom + (g.stack.map fun v => v.category).sum ≤ W9 → A.U.methodNamed? y = some mk → Pre A a →
    (∃ (v : Option Value) (B : Pt), Stand p l e R s m sargs below meth c B.U B.locs B.cells B.slots ∧ Post A a v B ∧
      Steps p.tables e below (doInvoke e (A.U.setTop g) [] mk a).1 (B.U.setTop { g with pc := g.pc + len, stack := v.toList ++ g.stack })) ∨
    (∃ (q : Addr) (B : Pt), Stand p l e R s m sargs below meth c B.U B.locs B.cells B.slots ∧ PostX A a q B ∧
      Steps p.tables e below (doInvoke e (A.U.setTop g) [] mk a).1 ((B.U.setTop g).pushFrame (.throwing q)))
section Payer
variable {l : Launch} {R : Room} {p : Program} {e : Env} {below : List Frame} {s : State} {sargs : Array Value} {y : MethodName} {len W9 : Nat}
theorem vx_back {ws : List Cond} {rm : Room} {Pc : Array Value → State → Prop} {Qc : Array Value → State → Outcome → State → Prop} {XC : String → State → State → Prop} {mc ms : Nat} {free : Addr → Prop} {bytes : ByteArray} {maxL : Nat} {ret : Option FieldType}
    (hM : vx_Met l y ws rm Pc Qc XC mc ms free) (hblind : FrameBlind Pc) (hrc : rm.cells = mc) (hrs : rm.slots = ms)
    (hframes : rm.frames + 1 ≤ R.frames) (hlocals : W9 + (maxL + 11) + rm.locals ≤ R.locals)
    (hws : ∀ w ∈ ws, ∀ a' U, s.WarmedH U.vm → w.before a' U = true) (hcode : Cond.code y bytes maxL ret ∈ ws) (hinit : ∀ a' U, s.WarmedH U.vm → (Cond.initialized y.cls).before a' U = true) :
    vx_Back l R p e below s sargs y len W9 (PreOf R mc ms Pc) (PostOf Qc mc ms free) (vx_Post XC mc ms free) := by
  intro m meth c A g ig mk a X hg hsize hdg hW hn hp
  have h1 : (headSpec ws rm).pre.before a A.U = true := atoms_intro fun w hw => hws w hw _ _ X.warmed
  have h2 : (Cond.code y bytes maxL ret).before a A.U = true := hws _ hcode _ _ X.warmed
  have h3 : (Cond.initialized y.cls).before a A.U = true := hinit _ _ X.warmed
  have h4 : A.cells + (headSpec ws rm).room.cells ≤ R.cells := by rw [show (headSpec ws rm).room.cells = mc from hrc]; exact hp.1
  have h5 : A.slots + (headSpec ws rm).room.slots ≤ R.slots := by rw [show (headSpec ws rm).room.slots = ms from hrs]; exact hp.2.1
  have hPc : Pc a (A.U.calling g mk a) := hblind _ _ _ _ hp.2.2
  obtain ⟨U, Ls, c0, s0⟩ := A
  dsimp only [Pt.U, Pt.locs, Pt.cells, Pt.slots] at h1 h2 h3 h4 h5 X hn hPc ⊢
  obtain ⟨methY, cY, hmY, hcY, -, hlY, -, -, -, -⟩ := Cond.code_spec hn h2
  obtain ⟨kY, hkY, -⟩ := className_of_methodNamed hn
  have hinitY : kY.init = .initialized := Cond.initialized_spec (findClass_of_methodNamed hn) hkY h3
  have h : At U g.method c below := by rw [hg]; exact X.here
  have hlocals9 : W9 + (maxL + 11) + (headSpec ws rm).room.locals ≤ R.locals := hlocals
  have happ : (headSpec ws rm).appliesLoose y e.platform (U.calling g mk a) = true :=
    Spec.appliesLoose_calling (g := g) h hdg hn hkY hinitY
      (X.room_calling (g := g) (R' := (headSpec ws rm).room) hsize hmY hcY hframes (by rw [hlY]; omega) h4 h5) h1
  obtain ⟨mid, hmid⟩ := h.above
  have hfr : (U.setTop g).frames = (.java g :: mid) ++ below := by rw [State.frames_setTop' g h.top, hmid]; rfl
  obtain ⟨o, s₂, hsteps, -, hend, hq⟩ := Steps.callFree hM p X.admits X.cas X.clock (acts := []) hfr happ hPc trivial
  have hq' : vx_Q Qc XC mc ms free a (U.calling g mk a) o s₂ := hq
  rw [State.frames_setTop' g h.top] at hend
  obtain ⟨g₀, hg0⟩ := Option.isSome_iff_exists.mp h.top
  obtain ⟨r, hr⟩ := State.topJava?_eq_some.mp hg0
  have hr' : (({ U with heap := s₂.heap, slotsUsed := s₂.slotsUsed } : State).setVm s₂.vm).frames = .java g₀ :: r := hr
  rcases hq' with ⟨hqc, L, hfe, hL⟩ | ⟨q, rfl, E, ce, L, hx, hce, hcv, hcl, hW₂, hsm, hL⟩
  · obtain ⟨⟨v, rfl⟩, hW₂, e2, q2, q3, q4, q5, q6⟩ := id hfe
    have e3 : s₂ = ({ (U.calling g mk a).setFrames s₂.frames with heap := s₂.heap, slotsUsed := s₂.slotsUsed } : State).setVm s₂.vm := by
      have : s₂ = ({ s₂ with vm := (U.calling g mk a).vm } : State).setVm s₂.vm := rfl
      rw [e2] at this
      exact this
    obtain ⟨c₂, i₂, len₂, hc₂, hd₂, hf₂⟩ := hend
    have hW' : U.WarmedH s₂.vm := hW₂
    have hcc : c₂ = c := by
      have h1 : s₂.code? g.method = U.code? g.method := by
        rw [State.code?_eq, State.code?_eq, hW'.alike.method?]
      exact Option.some.inj (hc₂.symm.trans (h1.trans h.code))
    subst hcc
    have hlen : len₂ = len := by rw [hdg] at hd₂; cases hd₂; rfl
    subst hlen
    have hs₂ : s₂ = (({ U with heap := s₂.heap, slotsUsed := s₂.slotsUsed } : State).setVm s₂.vm).setTop { g with pc := g.pc + len₂, stack := v.toList ++ g.stack } := by
      refine e3.trans ?_
      rw [hf₂, State.calling_eq h.top, State.setFrames_setFrames, State.setTop_of_frames _ hr', hr]
      rfl
    have hsame : U.sameButNew ({ U with heap := s₂.heap, slotsUsed := s₂.slotsUsed } : State) L mc ms := by
      refine ⟨?_, q2, q3, q4, q5, q6⟩
      obtain ⟨t, ht, -⟩ := State.frames_cons hr
      show ({ U with heap := s₂.heap, slotsUsed := s₂.slotsUsed } : State) = { U.setFrames U.frames with heap := s₂.heap, slotsUsed := s₂.slotsUsed }
      rw [State.setFrames_self ht]
    subst hg
    refine Or.inl ⟨v, ⟨(({ U with heap := s₂.heap, slotsUsed := s₂.slotsUsed } : State).setVm s₂.vm), Ls ++ L, c0 + mc, s0 + ms⟩,
      ⟨X.admits, X.cas, X.clock, X.frames, X.room, X.hears, X.method, X.code, (X.here.setHeapUsed s₂.heap s₂.slotsUsed).setVm hW'.alike, X.tail, State.WarmedH.trans X.warmed hW', X.limits, X.bytes, X.same.trans (hsame.setVm s.vm)⟩,
      ⟨g, mk, s₂, L, rfl, rfl, hqc, rfl, hL, rfl, rfl⟩, ?_⟩
    show Steps p.tables e below _ ((({ U with heap := s₂.heap, slotsUsed := s₂.slotsUsed } : State).setVm s₂.vm).setTop { g with pc := g.pc + len₂, stack := v.toList ++ g.stack })
    rw [← hs₂]
    exact hsteps
  · obtain ⟨e2, q2, q3, q4, q5, q6⟩ := id hsm
    have e3 : s₂ = ({ (U.calling g mk a).setFrames s₂.frames with heap := s₂.heap, slotsUsed := s₂.slotsUsed } : State).setVm s₂.vm := by
      have : s₂ = ({ s₂ with vm := (U.calling g mk a).vm } : State).setVm s₂.vm := rfl
      rw [e2] at this
      exact this
    have hf₂ : s₂.frames = .throwing q :: .java g :: U.frames.tail := hend
    have hW' : U.WarmedH s₂.vm := hW₂
    have hs₂ : s₂ = ((({ U with heap := s₂.heap, slotsUsed := s₂.slotsUsed } : State).setVm s₂.vm).setTop g).pushFrame (.throwing q) := by
      refine e3.trans ?_
      rw [hf₂, State.calling_eq h.top, State.setFrames_setFrames, State.pushFrame, State.frames_setTop _ hr', State.setTop_of_frames _ hr', State.setFrames_setFrames, hr]
      rfl
    have hsame : U.sameButNew ({ U with heap := s₂.heap, slotsUsed := s₂.slotsUsed } : State) L mc ms := by
      refine ⟨?_, q2, q3, q4, q5, q6⟩
      obtain ⟨t, ht, -⟩ := State.frames_cons hr
      show ({ U with heap := s₂.heap, slotsUsed := s₂.slotsUsed } : State) = { U.setFrames U.frames with heap := s₂.heap, slotsUsed := s₂.slotsUsed }
      rw [State.setFrames_self ht]
    subst hg
    refine Or.inr ⟨q, ⟨(({ U with heap := s₂.heap, slotsUsed := s₂.slotsUsed } : State).setVm s₂.vm), Ls ++ L, c0 + mc, s0 + ms⟩,
      ⟨X.admits, X.cas, X.clock, X.frames, X.room, X.hears, X.method, X.code, (X.here.setHeapUsed s₂.heap s₂.slotsUsed).setVm hW'.alike, X.tail, State.WarmedH.trans X.warmed hW', X.limits, X.bytes, X.same.trans (hsame.setVm s.vm)⟩,
      ⟨g, mk, s₂, L, E, ce, rfl, rfl, hx, hce, hcv, hcl, rfl, hL, rfl, rfl⟩, ?_⟩
    show Steps p.tables e below _ (((({ U with heap := s₂.heap, slotsUsed := s₂.slotsUsed } : State).setVm s₂.vm).setTop g).pushFrame (.throwing q))
    rw [← hs₂]
    exact hsteps
end Payer
section Calls
variable {p : Program} {l : Launch} {e : Env} {R : Room} {s : State} {m : MethodId} {args : Array Value} {below : List Frame} {meth : Method} {c : Code} {T : State} {locs : List Loc} {cells slots : Nat}
theorem vx_callV (X : Stand p l e R s m args below meth c T locs cells slots) (hexec : p.tables.exec = Jvm.exec) {own C : String} {index : Nat} {y : MethodName} {bytes : ByteArray} {maxL : Nat} {ret : Option FieldType}
    (hown : s.vm.findClass own = some m.cls) (hlink : (Cond.methodLink own index y).before args s = true) (hinst : (Cond.instanceMethod y).before args s = true) (hsel : (Cond.selects C y y).before args s = true)
    (hcode : (Cond.code y bytes maxL ret).before args s = true) (hy : y.cls ≠ "java/lang/invoke/MethodHandle" ∧ y.cls ≠ "java/lang/invoke/VarHandle")
    {W9 : Nat} {Pre : Pt → Array Value → Prop} {Post : Pt → Array Value → Option Value → Pt → Prop} {PostX : Pt → Array Value → Addr → Pt → Prop} (hK : vx_Back l R p e below s args y 3 W9 Pre Post PostX)
    {b : Addr} {cellB : Cell} (hcell : T.heap[b]? = some cellB) (hobj : cellB.vm.isStatics = false) (hcls : s.vm.findClass C = some cellB.cls)
    {g : JFrame} (hg : g.method = m) (hsize : g.locals.size = c.maxLocals) {argsL rest : List Value} (hlen : ∀ sig, parseMethodDescriptor y.desc = some sig → argsL.length = sig.parameters.length)
    (hstack : g.stack = argsL.reverse ++ .ref b :: rest) (hW : 2 * g.monitorRoom + (rest.map fun v => v.category).sum ≤ W9) (hdg : decode c.code g.pc = .ok (.invokevirtual index, 3))
    (hpre : ∀ vm₁, s.WarmedH vm₁ → Pre ⟨T.setVm vm₁, locs, cells, slots⟩ (Value.ref b :: argsL).toArray) :
    (∃ (v : Option Value) (vm₁ : Vm) (B : Pt), s.WarmedH vm₁ ∧ Stand p l e R s m args below meth c B.U B.locs B.cells B.slots ∧ Post ⟨T.setVm vm₁, locs, cells, slots⟩ (Value.ref b :: argsL).toArray v B ∧
      ∀ target, Steps p.tables e below (B.U.setTop { g with pc := g.pc + 3, stack := v.toList ++ rest }) target → Steps p.tables e below (T.setTop g) target) ∨
    (∃ (q : Addr) (vm₁ : Vm) (B : Pt), s.WarmedH vm₁ ∧ Stand p l e R s m args below meth c B.U B.locs B.cells B.slots ∧ PostX ⟨T.setVm vm₁, locs, cells, slots⟩ (Value.ref b :: argsL).toArray q B ∧
      Steps p.tables e below (T.setTop g) ((B.U.setTop { g with stack := rest }).pushFrame (.throwing q))) := by
  obtain ⟨mk, methM, hnamed, hmethM, hstM, habM⟩ := Cond.instanceMethod_spec hinst
  obtain ⟨methM', cM, hmethM', -, -, -, -, -, -, hsigM⟩ := Cond.code_spec hnamed hcode
  cases hmethM.symm.trans hmethM'
  obtain ⟨c2, r2, m2, q1, q2, q3, q4, kP, hkP, hkPi⟩ := Cond.selects_spec hsel
  cases hcls.symm.trans q1
  cases (State.methodFound?_of_named hnamed hy).symm.trans q2
  cases hnamed.symm.trans q3
  have hselP : selectMethod e.platform s.vm cellB.cls mk = .method mk := by rw [Launch.admits_selectMethod X.admits]; exact q4
  obtain ⟨vm₁, X₁, hstep₁⟩ := X.invokevirtual hexec hown hlink hnamed hmethM hstM hkP hkPi hy (a := b) (cell := cellB) hcell
    (fun z h => by rw [h] at hobj; cases hobj) hselP hmethM habM hkP hkPi (g := g) hg (argsL := argsL) (rest := rest) (hlen _ hsigM) hstack hdg
  rcases hK m meth c ⟨T.setVm vm₁, locs, cells, slots⟩ { g with stack := rest } (.invokevirtual index) mk (Value.ref b :: argsL).toArray X₁ hg hsize hdg hW (X₁.named hnamed) (hpre vm₁ X₁.warmed) with ⟨v, B, X', hpost, hsteps⟩ | ⟨q, B, X', hpost, hsteps⟩
  · exact Or.inl ⟨v, vm₁, B, X₁.warmed, X', hpost, fun target h => hstep₁ _ fun acts => by rw [doInvoke_state]; exact hsteps.trans h⟩
  · exact Or.inr ⟨q, vm₁, B, X₁.warmed, X', hpost, hstep₁ _ fun acts => by rw [doInvoke_state]; exact hsteps⟩
theorem vx_callS (X : Stand p l e R s m args below meth c T locs cells slots) (hexec : p.tables.exec = Jvm.exec) {own : String} {index : Nat} {y : MethodName} {bytes : ByteArray} {maxL : Nat} {ret : Option FieldType}
    (hown : s.vm.findClass own = some m.cls) (hlink : (Cond.methodLink own index y).before args s = true) (hstat : (Cond.static y).before args s = true) (hinit : (Cond.initialized y.cls).before args s = true)
    (hcode : (Cond.code y bytes maxL ret).before args s = true) (hy : y.cls ≠ "java/lang/invoke/MethodHandle" ∧ y.cls ≠ "java/lang/invoke/VarHandle")
    {W9 : Nat} {Pre : Pt → Array Value → Prop} {Post : Pt → Array Value → Option Value → Pt → Prop} {PostX : Pt → Array Value → Addr → Pt → Prop} (hK : vx_Back l R p e below s args y 3 W9 Pre Post PostX)
    {g : JFrame} (hg : g.method = m) (hsize : g.locals.size = c.maxLocals) {argsL rest : List Value} (hlen : ∀ sig, parseMethodDescriptor y.desc = some sig → argsL.length = sig.parameters.length)
    (hstack : g.stack = argsL.reverse ++ rest) (hW : 2 * g.monitorRoom + (rest.map fun v => v.category).sum ≤ W9) (hdg : decode c.code g.pc = .ok (.invokestatic index, 3))
    (hpre : ∀ vm₁, s.WarmedH vm₁ → Pre ⟨T.setVm vm₁, locs, cells, slots⟩ argsL.toArray) :
    (∃ (v : Option Value) (vm₁ : Vm) (B : Pt), s.WarmedH vm₁ ∧ Stand p l e R s m args below meth c B.U B.locs B.cells B.slots ∧ Post ⟨T.setVm vm₁, locs, cells, slots⟩ argsL.toArray v B ∧
      ∀ target, Steps p.tables e below (B.U.setTop { g with pc := g.pc + 3, stack := v.toList ++ rest }) target → Steps p.tables e below (T.setTop g) target) ∨
    (∃ (q : Addr) (vm₁ : Vm) (B : Pt), s.WarmedH vm₁ ∧ Stand p l e R s m args below meth c B.U B.locs B.cells B.slots ∧ PostX ⟨T.setVm vm₁, locs, cells, slots⟩ argsL.toArray q B ∧
      Steps p.tables e below (T.setTop g) ((B.U.setTop { g with stack := rest }).pushFrame (.throwing q))) := by
  obtain ⟨mk, hnamed⟩ := Cond.code_named hcode
  obtain ⟨methM, cM, hmethM, -, -, -, -, -, -, hsigM⟩ := Cond.code_spec hnamed hcode
  have hstatic : methM.isStatic = true := Cond.static_spec hnamed hmethM hstat
  obtain ⟨kP, hkP, -⟩ := className_of_methodNamed hnamed
  have hinitP : kP.init = .initialized := Cond.initialized_spec (findClass_of_methodNamed hnamed) hkP hinit
  obtain ⟨vm₁, X₁, hstep₁⟩ := X.invokestatic hexec hown hlink hnamed hmethM hstatic hkP hinitP hy (g := g) hg (argsL := argsL) (rest := rest) (hlen _ hsigM) hstack hdg
  rcases hK m meth c ⟨T.setVm vm₁, locs, cells, slots⟩ { g with stack := rest } (.invokestatic index) mk argsL.toArray X₁ hg hsize hdg hW (X₁.named hnamed) (hpre vm₁ X₁.warmed) with ⟨v, B, X', hpost, hsteps⟩ | ⟨q, B, X', hpost, hsteps⟩
  · exact Or.inl ⟨v, vm₁, B, X₁.warmed, X', hpost, fun target h => hstep₁ _ fun acts => by rw [doInvoke_state]; exact hsteps.trans h⟩
  · exact Or.inr ⟨q, vm₁, B, X₁.warmed, X', hpost, hstep₁ _ fun acts => by rw [doInvoke_state]; exact hsteps⟩
end Calls
theorem vx_cls {s : State} {T : State} {vm₁ : Vm} {E : String} {k : ClassId} (hW : s.WarmedH vm₁) (h : (T.setVm vm₁).vm.findClass E = some k) : s.vm.findClass E = some k := by
  have h1 : vm₁.findClass E = some k := h
  rw [hW.alike.findClass] at h1
  exact h1
/-- the method's frame g, with q thrown over it -/
def vx_W (p : Program) (l : Launch) (e : Env) (R : Room) (s : State) (m : MethodId) (args : Array Value) (below : List Frame) (meth : Method) (c : Code) (H : Heap) (locs : List Loc) (cells slots : Nat) (Q : State → Prop) (g : JFrame) (q : Addr) : Prop :=
  ∀ T : State, T.heap = H → Stand p l e R s m args below meth c T locs cells slots → ∃ t, Steps p.tables e below ((T.setTop g).pushFrame (.throwing q)) t ∧ Q t
def vx_Run (p : Program) (l : Launch) (e : Env) (R : Room) (s : State) (m : MethodId) (args : Array Value) (below : List Frame) (meth : Method) (c : Code) (H : Heap) (locs : List Loc) (cells slots mc ms : Nat) (g : JFrame) (rest : List Value) (Qa : State → Outcome → State → Prop) (XC : String → State → State → Prop) (free : Addr → Prop) : Prop :=
  ∀ T : State, T.heap = H → Stand p l e R s m args below meth c T locs cells slots →
    (∃ (v : Option Value) (st₀ t T' : State) (L : List Loc), st₀.heap = H ∧ Stand p l e R s m args below meth c T' (locs ++ L) (cells + mc) (slots + ms) ∧ (∀ q ∈ L, free q.base) ∧ T'.heap = t.heap ∧ T'.vm = t.vm ∧ Qa st₀ (.returned v) t ∧
      Goes p e below T g T' { g with pc := g.pc + 3, stack := v.toList ++ rest }) ∨
    (∃ (q : Addr) (st₀ t T' : State) (L : List Loc) (E : String) (ce : Cell), st₀.heap = H ∧ Stand p l e R s m args below meth c T' (locs ++ L) (cells + mc) (slots + ms) ∧ (∀ z ∈ L, free z.base) ∧ T'.heap = t.heap ∧ T'.vm = t.vm ∧ XC E st₀ t ∧ t.heap[q]? = some ce ∧ ce.vm = .none ∧ s.vm.findClass E = some ce.cls ∧
      Steps p.tables e below (T.setTop g) ((T'.setTop { g with stack := rest }).pushFrame (.throwing q)))
def vx_X {S : Type} (px : S → Prop) (B : String → S → State → Prop) (A : Nat → Prop) : String → State → State → Prop := fun E st t => ∃ u : S, px u ∧ B E u t ∧ va_F A st t
section Runs
variable {p : Program} {l : Launch} {e : Env} {R : Room} {s : State} {m : MethodId} {args : Array Value} {below : List Frame} {meth : Method} {c : Code} {H : Heap} {locs : List Loc} {cells slots : Nat}
variable {y : MethodName} {bytes cc : ByteArray} {maxL nL mc ms n index : Nat} {ret : Option FieldType} {ws : List Cond} {rm : Room} {Pc : Array Value → State → Prop} {Qc : Array Value → State → Outcome → State → Prop} {XC : String → State → State → Prop} {free : Addr → Prop} {Ts : List Cond} {own C : String} {b : Addr} {As rest : List Value} {g : JFrame}
theorem vx_callBack (cb : CallB R s args own index y bytes maxL ret ws rm mc ms n) (hM : vx_Met l y ws rm Pc Qc XC mc ms free) (hbl : FrameBlind Pc) : vx_Back l R p e below s args y 3 8 (PreOf R mc ms Pc) (PostOf Qc mc ms free) (vx_Post XC mc ms free) := by
  obtain ⟨hrc, hrs, hfr, hlo, hws, hcw, -, hini, -⟩ := cb
  exact vx_back (bytes := bytes) (maxL := maxL) (ret := ret) hM hbl hrc hrs hfr hlo hws hcw (fun a' U hW => word_at hW (Or.inl (by first | rfl | simp [Cond.onTables, Cond.keeps, Cond.steady])) hini)
theorem vx_runV (S : CallFix p m c cc nL s args Ts own) (hM : vx_Met l y ws rm Pc Qc XC mc ms free) (cw : CallW R s args own C index y bytes maxL ret ws rm mc ms n) (hp : PreV s H C b Pc As)
    (hg : g.method = m) (hn : As.length = n) (hsize : g.locals.size = nL) (hstack : g.stack = As.reverse ++ .ref b :: rest) (hW : 2 * g.monitorRoom + (rest.map fun v => v.category).sum ≤ 8) (hdg : decode cc g.pc = .ok (.invokevirtual index, 3)) (hf : cells + mc ≤ R.cells ∧ slots + ms ≤ R.slots) :
    vx_Run p l e R s m args below meth c H locs cells slots mc ms g rest (Qc (Value.ref b :: As).toArray) XC free := by
  have hK : vx_Back l R p e below s args y 3 8 (PreOf R mc ms Pc) (PostOf Qc mc ms free) (vx_Post XC mc ms free) := vx_callBack cw.1 hM hp.1
  obtain ⟨⟨-, -, -, -, -, -, hcode, -, hy, hlen, hl⟩, hin, hse⟩ := cw
  obtain ⟨hx, hb, hml, ho, -⟩ := S
  obtain ⟨-, ⟨cellB, hcB, hoB, hclB⟩, hPc⟩ := hp
  intro T hT X
  rcases vx_callV X hx (C := C) (bytes := bytes) (maxL := maxL) (ret := ret) ho hl hin hse hcode hy hK (by rw [hT]; exact hcB) hoB hclB hg (hsize.trans hml.symm) (argsL := As) (rest := rest) (fun sig h => hn.trans (hlen sig h)) hstack hW (by rw [hb]; exact hdg)
    (fun vm₁ hW₁ => ⟨hf.1, hf.2, hPc (T.setVm vm₁) hT hW₁⟩) with ⟨v, vm₁, ⟨U', l2, c2, s2⟩, hW₁, X', ⟨g', mk, t, L, e1, e2, hq, h1, hL, h2, h3⟩, st⟩ | ⟨q, vm₁, ⟨U', l2, c2, s2⟩, hW₁, X', ⟨g', mk, t, L, E, ce, e1, e2, hq, hce, hcv, hcl, h1, hL, h2, h3⟩, st⟩
  · dsimp only [Pt.U, Pt.locs, Pt.cells, Pt.slots] at X' e1 e2 h1 h2 h3 st
    subst h1; subst h2; subst h3
    exact Or.inl ⟨v, (T.setVm vm₁).calling g' mk (Value.ref b :: As).toArray, t, U', L, hT, X', hL, e1, e2, hq, st⟩
  · dsimp only [Pt.U, Pt.locs, Pt.cells, Pt.slots] at X' e1 e2 h1 h2 h3 st hcl
    subst h1; subst h2; subst h3
    exact Or.inr ⟨q, (T.setVm vm₁).calling g' mk (Value.ref b :: As).toArray, t, U', L, E, ce, hT, X', hL, e1, e2, hq, hce, hcv, vx_cls hW₁ hcl, st⟩
theorem vx_runS (S : CallFix p m c cc nL s args Ts own) (hM : vx_Met l y ws rm Pc Qc XC mc ms free) (cw : CallB R s args own index y bytes maxL ret ws rm mc ms n ∧ (Cond.static y).before args s = true) (hp : PreS s H Pc As)
    (hg : g.method = m) (hn : As.length = n) (hsize : g.locals.size = nL) (hstack : g.stack = As.reverse ++ rest) (hW : 2 * g.monitorRoom + (rest.map fun v => v.category).sum ≤ 8) (hdg : decode cc g.pc = .ok (.invokestatic index, 3)) (hf : cells + mc ≤ R.cells ∧ slots + ms ≤ R.slots) :
    vx_Run p l e R s m args below meth c H locs cells slots mc ms g rest (Qc As.toArray) XC free := by
  have hK : vx_Back l R p e below s args y 3 8 (PreOf R mc ms Pc) (PostOf Qc mc ms free) (vx_Post XC mc ms free) := vx_callBack cw.1 hM hp.1
  obtain ⟨⟨-, -, -, -, -, -, hcode, hini, hy, hlen, hl⟩, hstt⟩ := cw
  obtain ⟨hx, hb, hml, ho, -⟩ := S
  intro T hT X
  rcases vx_callS X hx (bytes := bytes) (maxL := maxL) (ret := ret) ho hl hstt hini hcode hy hK hg (hsize.trans hml.symm) (argsL := As) (rest := rest) (fun sig h => hn.trans (hlen sig h)) hstack hW (by rw [hb]; exact hdg)
    (fun vm₁ hW₁ => ⟨hf.1, hf.2, hp.2 (T.setVm vm₁) hT hW₁⟩) with ⟨v, vm₁, ⟨U', l2, c2, s2⟩, hW₁, X', ⟨g', mk, t, L, e1, e2, hq, h1, hL, h2, h3⟩, st⟩ | ⟨q, vm₁, ⟨U', l2, c2, s2⟩, hW₁, X', ⟨g', mk, t, L, E, ce, e1, e2, hq, hce, hcv, hcl, h1, hL, h2, h3⟩, st⟩
  · dsimp only [Pt.U, Pt.locs, Pt.cells, Pt.slots] at X' e1 e2 h1 h2 h3 st
    subst h1; subst h2; subst h3
    exact Or.inl ⟨v, (T.setVm vm₁).calling g' mk As.toArray, t, U', L, hT, X', hL, e1, e2, hq, st⟩
  · dsimp only [Pt.U, Pt.locs, Pt.cells, Pt.slots] at X' e1 e2 h1 h2 h3 st hcl
    subst h1; subst h2; subst h3
    exact Or.inr ⟨q, (T.setVm vm₁).calling g' mk As.toArray, t, U', L, E, ce, hT, X', hL, e1, e2, hq, hce, hcv, vx_cls hW₁ hcl, st⟩
end Runs
section Rows
variable {p : Program} {l : Launch} {e : Env} {R : Room} {s : State} {m : MethodId} {args : Array Value} {below : List Frame} {meth : Method} {c : Code} {H : Heap} {locs : List Loc} {cells slots : Nat} {Q : State → Prop}
variable {mc ms : Nat} {free : Addr → Prop} {A0 A1 : Nat → Prop} {H0 : Heap} {a : Array Value} {pc : Nat} {ls : Array Slot} {st0 rest : List Value}
theorem vx_keep {st₀ t T' : State} {L : List Loc} (h0 : st₀.heap = H) (e1 : T'.heap = t.heap) (hS : va_S A0 H0 H locs) (hA : ∀ q, q < H.size → A1 q → A0 q) (hf : ∀ q, free q → A0 q) (hL : ∀ q ∈ L, free q.base) (hF : va_F A1 st₀ t) :
    H.size ≤ T'.heap.size ∧ (∀ q : Nat, q < H.size → ¬ A1 q → T'.heap[q]? = H[q]?) ∧ va_S A0 H0 T'.heap (locs ++ L) := by
  obtain ⟨hz, hk⟩ := hF
  rw [h0] at hz hk
  exact ⟨by rw [e1]; exact hz, fun q h1 h2 => by rw [e1]; exact hk q h1 h2,
    ⟨Nat.le_trans hS.1 (by rw [e1]; exact hz), fun q h1 h2 => by rw [e1, hk q (Nat.lt_of_lt_of_le h1 hS.1) (fun z => h2 (hA q (Nat.lt_of_lt_of_le h1 hS.1) z))]; exact hS.2.1 q h1 h2, fun q hq => by
      rcases List.mem_append.mp hq with h | h
      · exact hS.2.2 q h
      · exact hf _ (hL q h)⟩⟩
theorem vx_calli {S SX : Type} {post : Int32 → S → Prop} {px : SX → Prop} {B : S → State → Prop} {BX : String → SX → State → Prop} {AX : Nat → Prop} (hr : vx_Run p l e R s m args below meth c H locs cells slots mc ms (F0 m pc ls st0) rest (va_Qi post B A1 a) (vx_X px BX AX) free) (hS : va_S A0 H0 H locs) (hA : ∀ q, q < H.size → A1 q → A0 q) (hf : ∀ q, free q → A0 q) (hAX : ∀ q, q < H.size → AX q → A0 q)
    (kx : ∀ (E : String) (ce : Cell) (q9 : Addr) (u : SX) (t : State) (H1 : Heap) (locs1 : List Loc), t.heap = H1 → s.vm.Alike t.vm → px u → BX E u t → H.size ≤ H1.size → (∀ q : Nat, q < H.size → ¬ AX q → H1[q]? = H[q]?) → va_S A0 H0 H1 locs1 → H1[q9]? = some ce → ce.vm = .none → s.vm.findClass E = some ce.cls → vx_W p l e R s m args below meth c H1 locs1 (cells + mc) (slots + ms) Q (F0 m pc ls rest) q9)
    (kk : ∀ (r : Int32) (u : S) (t : State) (H1 : Heap) (locs1 : List Loc), t.heap = H1 → s.vm.Alike t.vm → post r u → B u t → H.size ≤ H1.size → (∀ q : Nat, q < H.size → ¬ A1 q → H1[q]? = H[q]?) → va_S A0 H0 H1 locs1 → W p l e R s m args below meth c H1 locs1 (cells + mc) (slots + ms) Q (F0 m (pc + 3) ls (.int r :: rest))) : W p l e R s m args below meth c H locs cells slots Q (F0 m pc ls st0) := by
  intro T hT X
  rcases hr T hT X with ⟨v, st₀, t, T', L, h0, X', hL, e1, e2, ⟨⟨r, u, hv, hp, hb⟩, hF⟩, st⟩ | ⟨q, st₀, t, T', L, E, ce, h0, X', hL, e1, e2, ⟨u, hp, hb, hF⟩, hce, hcv, hcl, st⟩
  · cases hv
    obtain ⟨k1, k2, k3⟩ := vx_keep h0 e1 hS hA hf hL hF
    obtain ⟨t2, a1, b1⟩ := kk r u t T'.heap (locs ++ L) e1.symm (by rw [← e2]; exact X'.warmed.alike) hp hb k1 k2 k3 T' rfl X'
    exact ⟨t2, st t2 a1, b1⟩
  · obtain ⟨k1, k2, k3⟩ := vx_keep h0 e1 hS hAX hf hL hF
    obtain ⟨t2, a1, b1⟩ := kx E ce q u t T'.heap (locs ++ L) e1.symm (by rw [← e2]; exact X'.warmed.alike) hp hb k1 k2 k3 (by rw [e1]; exact hce) hcv hcl T' rfl X'
    exact ⟨t2, st.trans a1, b1⟩
theorem vx_calll {S SX : Type} {post : Int64 → S → Prop} {px : SX → Prop} {B : S → State → Prop} {BX : String → SX → State → Prop} {AX : Nat → Prop} (hr : vx_Run p l e R s m args below meth c H locs cells slots mc ms (F0 m pc ls st0) rest (va_Ql post B A1 a) (vx_X px BX AX) free) (hS : va_S A0 H0 H locs) (hA : ∀ q, q < H.size → A1 q → A0 q) (hf : ∀ q, free q → A0 q) (hAX : ∀ q, q < H.size → AX q → A0 q)
    (kx : ∀ (E : String) (ce : Cell) (q9 : Addr) (u : SX) (t : State) (H1 : Heap) (locs1 : List Loc), t.heap = H1 → s.vm.Alike t.vm → px u → BX E u t → H.size ≤ H1.size → (∀ q : Nat, q < H.size → ¬ AX q → H1[q]? = H[q]?) → va_S A0 H0 H1 locs1 → H1[q9]? = some ce → ce.vm = .none → s.vm.findClass E = some ce.cls → vx_W p l e R s m args below meth c H1 locs1 (cells + mc) (slots + ms) Q (F0 m pc ls rest) q9)
    (kk : ∀ (r : Int64) (u : S) (t : State) (H1 : Heap) (locs1 : List Loc), t.heap = H1 → s.vm.Alike t.vm → post r u → B u t → H.size ≤ H1.size → (∀ q : Nat, q < H.size → ¬ A1 q → H1[q]? = H[q]?) → va_S A0 H0 H1 locs1 → W p l e R s m args below meth c H1 locs1 (cells + mc) (slots + ms) Q (F0 m (pc + 3) ls (.long r :: rest))) : W p l e R s m args below meth c H locs cells slots Q (F0 m pc ls st0) := by
  intro T hT X
  rcases hr T hT X with ⟨v, st₀, t, T', L, h0, X', hL, e1, e2, ⟨⟨r, u, hv, hp, hb⟩, hF⟩, st⟩ | ⟨q, st₀, t, T', L, E, ce, h0, X', hL, e1, e2, ⟨u, hp, hb, hF⟩, hce, hcv, hcl, st⟩
  · cases hv
    obtain ⟨k1, k2, k3⟩ := vx_keep h0 e1 hS hA hf hL hF
    obtain ⟨t2, a1, b1⟩ := kk r u t T'.heap (locs ++ L) e1.symm (by rw [← e2]; exact X'.warmed.alike) hp hb k1 k2 k3 T' rfl X'
    exact ⟨t2, st t2 a1, b1⟩
  · obtain ⟨k1, k2, k3⟩ := vx_keep h0 e1 hS hAX hf hL hF
    obtain ⟨t2, a1, b1⟩ := kx E ce q u t T'.heap (locs ++ L) e1.symm (by rw [← e2]; exact X'.warmed.alike) hp hb k1 k2 k3 (by rw [e1]; exact hce) hcv hcl T' rfl X'
    exact ⟨t2, st.trans a1, b1⟩
theorem vx_callf {S SX : Type} {post : UInt32 → S → Prop} {px : SX → Prop} {B : S → State → Prop} {BX : String → SX → State → Prop} {AX : Nat → Prop} (hr : vx_Run p l e R s m args below meth c H locs cells slots mc ms (F0 m pc ls st0) rest (va_Qf post B A1 a) (vx_X px BX AX) free) (hS : va_S A0 H0 H locs) (hA : ∀ q, q < H.size → A1 q → A0 q) (hf : ∀ q, free q → A0 q) (hAX : ∀ q, q < H.size → AX q → A0 q)
    (kx : ∀ (E : String) (ce : Cell) (q9 : Addr) (u : SX) (t : State) (H1 : Heap) (locs1 : List Loc), t.heap = H1 → s.vm.Alike t.vm → px u → BX E u t → H.size ≤ H1.size → (∀ q : Nat, q < H.size → ¬ AX q → H1[q]? = H[q]?) → va_S A0 H0 H1 locs1 → H1[q9]? = some ce → ce.vm = .none → s.vm.findClass E = some ce.cls → vx_W p l e R s m args below meth c H1 locs1 (cells + mc) (slots + ms) Q (F0 m pc ls rest) q9)
    (kk : ∀ (r : UInt32) (u : S) (t : State) (H1 : Heap) (locs1 : List Loc), t.heap = H1 → s.vm.Alike t.vm → post r u → B u t → H.size ≤ H1.size → (∀ q : Nat, q < H.size → ¬ A1 q → H1[q]? = H[q]?) → va_S A0 H0 H1 locs1 → W p l e R s m args below meth c H1 locs1 (cells + mc) (slots + ms) Q (F0 m (pc + 3) ls (.float r :: rest))) : W p l e R s m args below meth c H locs cells slots Q (F0 m pc ls st0) := by
  intro T hT X
  rcases hr T hT X with ⟨v, st₀, t, T', L, h0, X', hL, e1, e2, ⟨⟨r, u, hv, hp, hb⟩, hF⟩, st⟩ | ⟨q, st₀, t, T', L, E, ce, h0, X', hL, e1, e2, ⟨u, hp, hb, hF⟩, hce, hcv, hcl, st⟩
  · cases hv
    obtain ⟨k1, k2, k3⟩ := vx_keep h0 e1 hS hA hf hL hF
    obtain ⟨t2, a1, b1⟩ := kk r u t T'.heap (locs ++ L) e1.symm (by rw [← e2]; exact X'.warmed.alike) hp hb k1 k2 k3 T' rfl X'
    exact ⟨t2, st t2 a1, b1⟩
  · obtain ⟨k1, k2, k3⟩ := vx_keep h0 e1 hS hAX hf hL hF
    obtain ⟨t2, a1, b1⟩ := kx E ce q u t T'.heap (locs ++ L) e1.symm (by rw [← e2]; exact X'.warmed.alike) hp hb k1 k2 k3 (by rw [e1]; exact hce) hcv hcl T' rfl X'
    exact ⟨t2, st.trans a1, b1⟩
theorem vx_calld {S SX : Type} {post : UInt64 → S → Prop} {px : SX → Prop} {B : S → State → Prop} {BX : String → SX → State → Prop} {AX : Nat → Prop} (hr : vx_Run p l e R s m args below meth c H locs cells slots mc ms (F0 m pc ls st0) rest (va_Qd post B A1 a) (vx_X px BX AX) free) (hS : va_S A0 H0 H locs) (hA : ∀ q, q < H.size → A1 q → A0 q) (hf : ∀ q, free q → A0 q) (hAX : ∀ q, q < H.size → AX q → A0 q)
    (kx : ∀ (E : String) (ce : Cell) (q9 : Addr) (u : SX) (t : State) (H1 : Heap) (locs1 : List Loc), t.heap = H1 → s.vm.Alike t.vm → px u → BX E u t → H.size ≤ H1.size → (∀ q : Nat, q < H.size → ¬ AX q → H1[q]? = H[q]?) → va_S A0 H0 H1 locs1 → H1[q9]? = some ce → ce.vm = .none → s.vm.findClass E = some ce.cls → vx_W p l e R s m args below meth c H1 locs1 (cells + mc) (slots + ms) Q (F0 m pc ls rest) q9)
    (kk : ∀ (r : UInt64) (u : S) (t : State) (H1 : Heap) (locs1 : List Loc), t.heap = H1 → s.vm.Alike t.vm → post r u → B u t → H.size ≤ H1.size → (∀ q : Nat, q < H.size → ¬ A1 q → H1[q]? = H[q]?) → va_S A0 H0 H1 locs1 → W p l e R s m args below meth c H1 locs1 (cells + mc) (slots + ms) Q (F0 m (pc + 3) ls (.double r :: rest))) : W p l e R s m args below meth c H locs cells slots Q (F0 m pc ls st0) := by
  intro T hT X
  rcases hr T hT X with ⟨v, st₀, t, T', L, h0, X', hL, e1, e2, ⟨⟨r, u, hv, hp, hb⟩, hF⟩, st⟩ | ⟨q, st₀, t, T', L, E, ce, h0, X', hL, e1, e2, ⟨u, hp, hb, hF⟩, hce, hcv, hcl, st⟩
  · cases hv
    obtain ⟨k1, k2, k3⟩ := vx_keep h0 e1 hS hA hf hL hF
    obtain ⟨t2, a1, b1⟩ := kk r u t T'.heap (locs ++ L) e1.symm (by rw [← e2]; exact X'.warmed.alike) hp hb k1 k2 k3 T' rfl X'
    exact ⟨t2, st t2 a1, b1⟩
  · obtain ⟨k1, k2, k3⟩ := vx_keep h0 e1 hS hAX hf hL hF
    obtain ⟨t2, a1, b1⟩ := kx E ce q u t T'.heap (locs ++ L) e1.symm (by rw [← e2]; exact X'.warmed.alike) hp hb k1 k2 k3 (by rw [e1]; exact hce) hcv hcl T' rfl X'
    exact ⟨t2, st.trans a1, b1⟩
theorem vx_callv {S SX : Type} {post : S → Prop} {px : SX → Prop} {B : S → State → Prop} {BX : String → SX → State → Prop} {AX : Nat → Prop} (hr : vx_Run p l e R s m args below meth c H locs cells slots mc ms (F0 m pc ls st0) rest (va_Qv post B A1 a) (vx_X px BX AX) free) (hS : va_S A0 H0 H locs) (hA : ∀ q, q < H.size → A1 q → A0 q) (hf : ∀ q, free q → A0 q) (hAX : ∀ q, q < H.size → AX q → A0 q)
    (kx : ∀ (E : String) (ce : Cell) (q9 : Addr) (u : SX) (t : State) (H1 : Heap) (locs1 : List Loc), t.heap = H1 → s.vm.Alike t.vm → px u → BX E u t → H.size ≤ H1.size → (∀ q : Nat, q < H.size → ¬ AX q → H1[q]? = H[q]?) → va_S A0 H0 H1 locs1 → H1[q9]? = some ce → ce.vm = .none → s.vm.findClass E = some ce.cls → vx_W p l e R s m args below meth c H1 locs1 (cells + mc) (slots + ms) Q (F0 m pc ls rest) q9)
    (kk : ∀ (u : S) (t : State) (H1 : Heap) (locs1 : List Loc), t.heap = H1 → s.vm.Alike t.vm → post u → B u t → H.size ≤ H1.size → (∀ q : Nat, q < H.size → ¬ A1 q → H1[q]? = H[q]?) → va_S A0 H0 H1 locs1 → W p l e R s m args below meth c H1 locs1 (cells + mc) (slots + ms) Q (F0 m (pc + 3) ls (rest))) : W p l e R s m args below meth c H locs cells slots Q (F0 m pc ls st0) := by
  intro T hT X
  rcases hr T hT X with ⟨v, st₀, t, T', L, h0, X', hL, e1, e2, ⟨⟨u, hv, hp, hb⟩, hF⟩, st⟩ | ⟨q, st₀, t, T', L, E, ce, h0, X', hL, e1, e2, ⟨u, hp, hb, hF⟩, hce, hcv, hcl, st⟩
  · cases hv
    obtain ⟨k1, k2, k3⟩ := vx_keep h0 e1 hS hA hf hL hF
    obtain ⟨t2, a1, b1⟩ := kk u t T'.heap (locs ++ L) e1.symm (by rw [← e2]; exact X'.warmed.alike) hp hb k1 k2 k3 T' rfl X'
    exact ⟨t2, st t2 a1, b1⟩
  · obtain ⟨k1, k2, k3⟩ := vx_keep h0 e1 hS hAX hf hL hF
    obtain ⟨t2, a1, b1⟩ := kx E ce q u t T'.heap (locs ++ L) e1.symm (by rw [← e2]; exact X'.warmed.alike) hp hb k1 k2 k3 (by rw [e1]; exact hce) hcv hcl T' rfl X'
    exact ⟨t2, st.trans a1, b1⟩
/-- caught by the row x of this method's table; the rows ahead don't take it -/
theorem vx_catch {own name : String} {E : String} {ce : Cell} {q : Addr} (hown : s.vm.findClass own = some m.cls) (pre : List ExceptionTableEntry) (x : ExceptionTableEntry) (suf : List ExceptionTableEntry) (hsplit : c.exceptionTable.toList = pre ++ x :: suf)
    (hpass : ∀ z ∈ pre, covers z pc = false ∨ (z.catchType ≠ 0 ∧ ∃ nm : String, (Cond.classLink own z.catchType nm).before args s = true ∧ va_Nc E nm s)) (hx : covers x pc = true) (h0 : x.catchType ≠ 0)
    (hlink : (Cond.classLink own x.catchType name).before args s = true) (hcast : (Cond.castable E name).before args s = true) (hcell : H[q]? = some ce) (hv : ce.vm = .none) (hcl : s.vm.findClass E = some ce.cls)
    (kk : W p l e R s m args below meth c H locs cells slots Q (F0 m x.handlerPc ls [.ref q])) : vx_W p l e R s m args below meth c H locs cells slots Q (F0 m pc ls rest) q := by
  intro T hT X
  have hpl : e.platform.magicAccessors = ({} : Platform).magicAccessors := by rw [X.admits.platform]
  obtain ⟨c3, c4, hc3, hc4, hasg⟩ := Cond.castable_spec hcast
  cases Option.some.inj (hc3.symm.trans hcl)
  obtain ⟨c5, hc5, hcl5⟩ := Cond.classLink_spec hown hlink e.platform hpl
  cases Option.some.inj (hc4.symm.trans hc5)
  obtain ⟨vm', X', st⟩ := xt_caught X q (g := F0 m pc ls rest) rfl (by rw [hT]; exact hcell) (by rw [hv]; rfl) (by obtain ⟨k9, h9, -⟩ := Vm.findClass_spec hcl; exact ⟨k9, h9⟩) pre x suf hsplit
    (fun z hz => by
      rcases hpass z hz with h | ⟨hz0, nm, hl1, hn1⟩
      · exact Or.inl h
      · obtain ⟨c6, hc6, hcl6⟩ := Cond.classLink_spec hown hl1 e.platform hpl
        obtain ⟨a8, b8, h1, h2, h3⟩ := hn1
        cases Option.some.inj (h1.symm.trans hcl)
        cases Option.some.inj (h2.symm.trans hc6)
        exact Or.inr ⟨hz0, _, hcl6, h3⟩) hx h0 hcl5 hasg
  obtain ⟨t, a1, b1⟩ := kk (T.setVm vm') hT X'
  exact ⟨t, st.trans a1, b1⟩
end Rows
section Ends
variable {p : Program} {l : Launch} {e : Env} {R : Room} {s : State} {m : MethodId} {args : Array Value} {below : List Frame} {meth : Method} {c : Code} {H : Heap} {locs : List Loc} {cells slots : Nat} {Q : State → Prop}
variable {mc ms : Nat} {free : Addr → Prop} {A0 A1 : Nat → Prop} {H0 : Heap} {a : Array Value} {ls : Array Slot} {st0 rest : List Value}
variable {Qc : Array Value → State → Outcome → State → Prop} {XC : String → State → State → Prop}
/-- what a body that may throw owes at its end -/
def vx_MQ (below : List Frame) (Qc : Array Value → State → Outcome → State → Prop) (XC : String → State → State → Prop) (a : Array Value) (s : State) (mc ms : Nat) (free : Addr → Prop) : State → Prop := fun t =>
  ∃ o, t.status = .running ∧ Ended t below o ∧ vx_Q Qc XC mc ms free a s o t
theorem vx_ret {g : JFrame} {mc ms : Nat} (k : W p l e R s m args below meth c H locs cells slots (MQ below Qc args s mc ms free) g) : W p l e R s m args below meth c H locs cells slots (vx_MQ below Qc XC args s mc ms free) g := by
  intro T hT X
  obtain ⟨t, a1, o, b1, b2, b3, b4⟩ := k T hT X
  exact ⟨t, a1, o, b1, b2, Or.inl ⟨b3, b4⟩⟩
/-- not caught here: it goes on to the caller -/
theorem vx_widen {g : JFrame} {q : Addr} {k n : Nat} (h1 : cells ≤ k) (h2 : slots ≤ n) (kk : vx_W p l e R s m args below meth c H locs k n Q g q) : vx_W p l e R s m args below meth c H locs cells slots Q g q := fun T hT X => kk T hT (stand_widen X h1 h2)
theorem vx_out {pc : Nat} {E : String} {ce : Cell} {q : Addr} {mc ms : Nat} (hout : ∀ x ∈ c.exceptionTable.toList, covers x pc = false) (hlocks : meth.locks = false) (hcell : H[q]? = some ce) (hv : ce.vm = .none) (hcl : s.vm.findClass E = some ce.cls)
    (hx : ∀ t : State, t.heap = H → s.vm.Alike t.vm → XC E s t) (hf : ∀ z ∈ locs, free z.base) (hc : cells ≤ mc) (hs : slots ≤ ms) :
    vx_W p l e R s m args below meth c H locs cells slots (vx_MQ below Qc XC args s mc ms free) (F0 m pc ls rest) q := by
  intro T hT X
  obtain ⟨st1, hrun, hend, hW, hsm⟩ := X.leaveThrown q (g := F0 m pc ls rest) rfl rfl rfl hout hlocks
  have hcell9 : (T.setFrames (.throwing q :: below)).heap[q]? = some ce := by
    show T.heap[q]? = some ce
    rw [hT]; exact hcell
  exact ⟨_, st1, .threw q, hrun, hend, Or.inr ⟨q, rfl, E, ce, locs, hx _ hT hW.alike, hcell9, hv, hcl, hW, hsm.mono hc hs, hf⟩⟩
theorem vx_frame {U : State} {k n : Nat} (h : s.sameButNew ({ U with vm := s.vm } : State) locs k n) : s.heap.size ≤ U.heap.size ∧ ∀ q : Nat, q < s.heap.size → (∀ z ∈ locs, z.base ≠ q) → U.heap[q]? = s.heap[q]? := by
  obtain ⟨-, h2, -, -, -, h6⟩ := h
  refine ⟨h2, fun q hq hz => ?_⟩
  obtain ⟨c9, e1, e2, e3, e4⟩ := h6 q _ (Array.getElem?_eq_getElem hq)
  have hs : c9.slots = (s.heap[q]).slots := Array.ext_getElem? fun i => e4 i fun hm => hz _ hm rfl
  have h9 : c9 = s.heap[q] := by
    rw [hs] at e2
    exact e2
  have e5 : U.heap[q]? = some c9 := e1
  rw [e5, h9, Array.getElem?_eq_getElem hq]
/-- the words of a throw but the four that speak of the heap -/
def vx_no (w : Cond) : Bool := decide (w ≠ .isRef (.static Bundle.tN "UNASSIGNED_STACK" Bundle.steD)) && decide (w ≠ .isRef (.static Bundle.tN "SUPPRESSED_SENTINEL" Bundle.listD)) && decide (w ≠ .laysStatic Bundle.tN "UNASSIGNED_STACK" Bundle.steD) && decide (w ≠ .laysStatic Bundle.tN "SUPPRESSED_SENTINEL" Bundle.listD)
def vx_at0 (own : String) (ic : Nat) (X : String) (names : List String) : List Cond := (Bundle.ownAtoms0 own ic X names).filter vx_no
def vx_atS (own : String) (ic : Nat) (X : String) (names : List String) : List Cond := (Bundle.ownAtoms own ic X names).filter vx_no
/-- a word that the tables alone decide, or a good one -/
def vx_ot (w : Cond) : Bool := w.onTables || goodWord w
theorem vx_ot_at {args a' : Array Value} {s U : State} {w : Cond} (hW : s.WarmedH U.vm) (hvm : s.vm = U.vm) (hg : vx_ot w = true) (h : w.before args s = true) : w.before a' U = true := by
  simp only [vx_ot, Bool.or_eq_true] at hg
  rcases hg with hg | hg
  · exact va_tabs hg hvm h
  · exact word_at hW (good_of_word hg) h
/-- a list's words: the good ones out of the method's own list, the others by premises of their own -/
theorem vx_hat {args : Array Value} {s : State} {L B : List Cond} (h1 : ∀ w ∈ L.filter goodWord, w.before args s = true) (h2 : ∀ w ∈ L.filter (fun w => !goodWord w), w ∈ B) (h3 : ∀ w ∈ B, w.before args s = true) : ∀ w ∈ L, w.before args s = true := by
  intro w hw
  by_cases g : goodWord w = true
  · exact h1 w (List.mem_filter.mpr ⟨hw, g⟩)
  · refine h3 w (h2 w (List.mem_filter.mpr ⟨hw, ?_⟩))
    show (!goodWord w) = true
    cases hgw : goodWord w
    · rfl
    · exact absurd hgw g
theorem vx_c {args : Array Value} {s : State} {w : Cond} {B : List Cond} (h : w.before args s = true) (t : ∀ w ∈ B, w.before args s = true) : ∀ w' ∈ w :: B, w'.before args s = true := fun w' h' => (List.mem_cons.mp h').elim (fun e => by rw [e]; exact h) (t w')
theorem vx_n {args : Array Value} {s : State} : ∀ w ∈ ([] : List Cond), w.before args s = true := fun _ h => nomatch h
theorem vx_own {args : Array Value} {s : State} {L : List Cond} (h1 : ∀ w ∈ L.filter vx_no, w.before args s = true)
    (hU : (Cond.isRef (.static Bundle.tN "UNASSIGNED_STACK" Bundle.steD)).before args s = true) (hN : (Cond.isRef (.static Bundle.tN "SUPPRESSED_SENTINEL" Bundle.listD)).before args s = true)
    (lU : (Cond.laysStatic Bundle.tN "UNASSIGNED_STACK" Bundle.steD).before args s = true) (lN : (Cond.laysStatic Bundle.tN "SUPPRESSED_SENTINEL" Bundle.listD).before args s = true) : ∀ w ∈ L, w.before args s = true := by
  intro w hw
  by_cases e1 : w = .isRef (.static Bundle.tN "UNASSIGNED_STACK" Bundle.steD)
  · rw [e1]; exact hU
  · by_cases e2 : w = .isRef (.static Bundle.tN "SUPPRESSED_SENTINEL" Bundle.listD)
    · rw [e2]; exact hN
    · by_cases e3 : w = .laysStatic Bundle.tN "UNASSIGNED_STACK" Bundle.steD
      · rw [e3]; exact lU
      · by_cases e4 : w = .laysStatic Bundle.tN "SUPPRESSED_SENTINEL" Bundle.listD
        · rw [e4]; exact lN
        · exact h1 w (List.mem_filter.mpr ⟨hw, by unfold vx_no; rw [decide_eq_true e1, decide_eq_true e2, decide_eq_true e3, decide_eq_true e4]; rfl⟩)
/-- where a static field lies, its class's statics cell in H -/
def vx_L (C n d : String) (A : Nat → Prop) (U : State) (H : Heap) : Prop := ∃ (c : ClassId) (k : Class) (i : Nat) (f : Field) (a : Nat) (cell : Cell), U.vm.findClass C = some c ∧ U.fieldFound? C n d = some (c, k, i, f) ∧ f.isStatic = true ∧ k.statics = some a ∧ H[a]? = some cell ∧ cell.vm.isStatics = true ∧ cell.cls = c ∧ f.slot < cell.slots.size ∧ k.staticTypes[f.slot]? = some f.type ∧ ¬ A a
theorem vx_L.moved {C n d : String} {A : Nat → Prop} {u U : State} {H : Heap} (hvm : u.vm.Alike U.vm) (h : vx_L C n d A u H) : vx_L C n d A U H := by
  obtain ⟨c, k, i, f, a, cell, h1, h2, h3, h4, h5, h6, h7, h8, h9, h10⟩ := h
  obtain ⟨k', hi', he⟩ := State.fieldFound?_setVm hvm h2
  exact ⟨c, k', i, f, a, cell, by rw [hvm.findClass]; exact h1, hi', h3, by rw [he]; exact h4, h5, h6, h7, h8, by rw [he]; exact h9, h10⟩
theorem vx_L.kept {C n d : String} {A : Nat → Prop} {U : State} {H H1 : Heap} (h : vx_L C n d A U H) (hq : ∀ a : Nat, a < H.size → ¬ A a → H1[a]? = H[a]?) : vx_L C n d A U H1 := by
  obtain ⟨c, k, i, f, a, cell, h1, h2, h3, h4, h5, h6, h7, h8, h9, h10⟩ := h
  exact ⟨c, k, i, f, a, cell, h1, h2, h3, h4, by rw [hq a (Array.getElem?_eq_some_iff.mp h5).1 h10]; exact h5, h6, h7, h8, h9, h10⟩
theorem vx_L.narrow {C n d : String} {A B : Nat → Prop} {U : State} {H : Heap} (h : vx_L C n d A U H) (hAB : ∀ q, B q → A q) : vx_L C n d B U H := by
  obtain ⟨c, k, i, f, a, cell, h1, h2, h3, h4, h5, h6, h7, h8, h9, h10⟩ := h
  exact ⟨c, k, i, f, a, cell, h1, h2, h3, h4, h5, h6, h7, h8, h9, fun z => h10 (hAB _ z)⟩
theorem vx_L.word {C n d : String} {A : Nat → Prop} {s : State} {args : Array Value} (h : vx_L C n d A s s.heap) : (Cond.laysStatic C n d).before args s = true := by
  obtain ⟨c, k, i, f, a, cell, h1, h2, h3, h4, h5, h6, h7, h8, h9, -⟩ := h
  show (Cond.laysStatic C n d).holds args s none s [] = true
  exact Cond.laysStatic_of h1 h2 h3 h4 h5 h6 h7 h8 h9
/-- .. and what it holds: null or some reference -/
def vx_Zq (C n d : String) (A : Nat → Prop) (U : State) (H : Heap) : Prop := va_Zq C n d A U H ∧ vx_L C n d A U H
theorem vx_Zq.moved {C n d : String} {A : Nat → Prop} {u U : State} {H : Heap} (hvm : u.vm.Alike U.vm) (h : vx_Zq C n d A u H) : vx_Zq C n d A U H := ⟨va_Zq.moved hvm h.1, vx_L.moved hvm h.2⟩
theorem vx_Zq.kept {C n d : String} {A : Nat → Prop} {U : State} {H H1 : Heap} (h : vx_Zq C n d A U H) (hq : ∀ a : Nat, a < H.size → ¬ A a → H1[a]? = H[a]?) : vx_Zq C n d A U H1 := ⟨va_Zq.kept h.1 hq, vx_L.kept h.2 hq⟩
theorem vx_Zq.narrow {C n d : String} {A B : Nat → Prop} {U : State} {H : Heap} (h : vx_Zq C n d A U H) (hAB : ∀ q, B q → A q) : vx_Zq C n d B U H := ⟨va_Zq.narrow h.1 hAB, vx_L.narrow h.2 hAB⟩
theorem vx_Zqof {args : Array Value} {s : State} {C n d : String} {A : Nat → Prop} (hl : (Cond.laysStatic C n d).before args s = true) (hini : (Cond.initialized C).before args s = true) (h : (Cond.isRef (.static C n d)).before args s = true) (hA : ∀ a : Nat, a < s.heap.size → ¬ A a) : vx_Zq C n d A s s.heap := by
  refine ⟨va_Zqof hl hini h hA, ?_⟩
  obtain ⟨c, k, i, f, a, cell, h1, h2, h3, h4, h5, h6, h7, h8, h9⟩ := Cond.laysStatic_spec hl
  exact ⟨c, k, i, f, a, cell, h1, h2, h3, h4, h5, h6, h7, h8, h9, hA a (Array.getElem?_eq_some_iff.mp h5).1⟩
theorem vx_isRef {C n d : String} {v : Value} {A : Nat → Prop} {s : State} {args : Array Value} (h : va_Z C n d v A s s.heap) (hv : v.isRef = true) : (Cond.isRef (.static C n d)).before args s = true := by
  obtain ⟨cf, kf, fi, f, a, cell, h1, h2, h3, h4, h5, h6, h7, -⟩ := h
  have he : (Term.static C n d).eval args s none [] s = some v := by
    simp [Term.eval, State.fieldNamed?, h1, h2, h4, h5, h6, h7]
  simp only [Cond.before, Cond.holds, Cond.value, he]
  cases v <;> simp_all [Value.isRef]
theorem vx_isRefq {C n d : String} {A : Nat → Prop} {s : State} {args : Array Value} (h : va_Zq C n d A s s.heap) : (Cond.isRef (.static C n d)).before args s = true := by
  rcases h with h | ⟨t, h⟩
  · exact vx_isRef h rfl
  · exact vx_isRef h rfl
/-- the same frame, seen from here: as if the method were called anew in this heap -/
theorem vx_rebase {T : State} (X : Stand p l e R s m args below meth c T locs cells slots) {R' : Room} (hf : R'.frames ≤ R.frames) (hl : R'.locals ≤ R.locals) (hc : cells + R'.cells ≤ R.cells) (hs : slots + R'.slots ≤ R.slots) :
    Stand p l e R' ((T.setVm s.vm).setFrames (.invoking m args :: below)) m args below meth c T [] 0 0 := by
  have htop : (T.setVm s.vm).topJava?.isSome := X.here.top
  have hF : ((T.setVm s.vm).setFrames (.invoking m args :: below)).frames = .invoking m args :: below := State.frames_setFrames _ (State.cur_lt_of_top htop)
  obtain ⟨g₀, hg0⟩ := Option.isSome_iff_exists.mp htop
  obtain ⟨r, hr⟩ := State.topJava?_eq_some.mp hg0
  have hl9 : e.platform.stackLimits (T.setVm s.vm).me = e.platform.stackLimits s.me := X.limits
  have hb9 : (T.setVm s.vm).me.stackBytes = s.me.stackBytes := X.bytes
  refine ⟨X.admits, X.cas, X.clock, hF, ?_, X.hears, X.method, X.code, X.here, X.tail, X.warmed, ?_, ?_, ?_⟩
  · have h := X.room
    have hU : ((T.setVm s.vm).setFrames (.invoking m args :: below)).localsInUse = s.localsInUse := by
      rw [State.localsInUse_invoking hF (meth := meth) (c := c) X.method X.code, State.localsInUse_invoking X.frames X.method X.code]
    simp only [State.hasRoom, Bool.and_eq_true, decide_eq_true_eq] at h ⊢
    obtain ⟨⟨⟨⟨h1, h2, h3, h4, h5, h6⟩, h7⟩, h8⟩, h9⟩ := h
    rw [X.frames, List.length_cons] at h2 h3
    have q1 := X.heapSize
    have q2 := X.used
    simp only [hF, hU, List.length_cons, State.stackLimits_setFrames, State.stackBytes_setFrames, hl9, hb9]
    refine ⟨⟨⟨⟨by omega, by omega, by omega, by omega, by omega, h6⟩, ?_⟩, ?_⟩, X.book⟩
    · show T.heap.size + R'.cells ≤ e.platform.maxCells
      omega
    · show T.slotsUsed + R'.slots ≤ e.platform.maxSlots
      omega
  · rw [State.stackLimits_setFrames]; rfl
  · rw [State.stackBytes_setFrames]; rfl
  · refine ⟨?_, Nat.le_refl _, Nat.le_refl _, ?_, ?_, fun a c9 h9 => ⟨c9, h9, rfl, rfl, fun _ _ => rfl⟩⟩
    · obtain ⟨t, ht, -⟩ := State.frames_cons hr
      show T.setVm s.vm = { ((T.setVm s.vm).setFrames (.invoking m args :: below)).setFrames (T.setVm s.vm).frames with heap := T.heap, slotsUsed := T.slotsUsed }
      rw [State.setFrames_setFrames, State.setFrames_self ht]
      rfl
    · show T.slotsUsed = T.slotsUsed + ((T.heap.toList.drop T.heap.size).map (·.slots.size)).sum
      rw [List.drop_eq_nil_of_le (Nat.le_of_eq Array.length_toList)]
      rfl
    · show ((T.heap.toList.drop T.heap.size).map (·.slots.size)).sum ≤ 0
      rw [List.drop_eq_nil_of_le (Nat.le_of_eq Array.length_toList)]
      exact Nat.le_refl _
/-- 'throw new E()': new; dup; invokespecial; athrow -/
theorem vx_throw0 {cc : ByteArray} {pc : Nat} (hexec : p.tables.exec = Jvm.exec) (hb : c.code = cc) (hl : l.stackTraces = false) {own cls : String} {names : List String} {ik ic mc ms : Nat} {A : Nat → Prop}
    (hown : s.vm.findClass own = some m.cls) (hcls : Bundle.fit cls = true) (hnames : ∀ n ∈ names, Bundle.fit n = true)
    (hk : (Cond.classLink own ik cls).before args s = true) (hini : (Cond.initialized cls).before args s = true) (hat : ∀ w ∈ vx_at0 own ic cls names, w.before args s = true)
    (hgood : ∀ w ∈ Cond.classLink own ik cls :: Cond.initialized cls :: vx_at0 own ic cls names, vx_ot w = true)
    (hU : vx_Zq Bundle.tN "UNASSIGNED_STACK" Bundle.steD A s s.heap) (hN : vx_Zq Bundle.tN "SUPPRESSED_SENTINEL" Bundle.listD A s s.heap) (hS : va_S A s.heap H locs) (hsize : ls.size = c.maxLocals)
    (d0 : decode cc pc = .ok (.new ik, 3)) (d3 : decode cc (pc + 3) = .ok (.dup, 1)) (d4 : decode cc (pc + 4) = .ok (.invokespecial ic, 3)) (d7 : decode cc (pc + 7) = .ok (.athrow, 1))
    (hout : ∀ x ∈ c.exceptionTable.toList, covers x (pc + 7) = false)
    (hRframes : names.length + 3 < R.frames) (hRlocals : (rest.map fun v => v.category).sum + (13 * (names.length + 1) + 42) ≤ R.locals) (hRcells : cells + 1 ≤ R.cells) (hRslots : slots + 6 ≤ R.slots) (hlocks : meth.locks = false)
    (hx : ∀ t : State, s.vm.Alike t.vm → H.size ≤ t.heap.size → (∀ q : Nat, q < H.size → t.heap[q]? = H[q]?) → XC cls s t)
    (hf : ∀ z ∈ locs, free z.base) (hc : cells + 1 ≤ mc) (hs : slots + 6 ≤ ms) :
    W p l e R s m args below meth c H locs cells slots (vx_MQ below Qc XC args s mc ms free) (F0 m pc ls rest) := by
  intro T hT X
  have htr : e.platform.stackTraces = false := (show e.platform.stackTraces = l.stackTraces by rw [X.admits.platform]).trans hl
  have Y := vx_rebase X (R' := { frames := R.frames, locals := R.locals, cells := 1, slots := 6 }) (Nat.le_refl _) (Nat.le_refl _) hRcells hRslots
  obtain ⟨s', hA⟩ : ∃ z, z = (T.setVm s.vm).setFrames (.invoking m args :: below) := ⟨_, rfl⟩
  rw [← hA] at Y
  have hvm : s'.vm = s.vm := by rw [hA]; rfl
  have hhp : s'.heap = H := by rw [hA]; exact hT
  have hW0 : s.WarmedH s'.vm := by rw [hvm]; exact State.WarmedH.refl s
  have hat' : ∀ w ∈ vx_at0 own ic cls names, w.before args s' = true := fun w hw => vx_ot_at hW0 hvm.symm (hgood w (List.mem_cons_of_mem _ (List.mem_cons_of_mem _ hw))) (hat w hw)
  have hk' : (Cond.classLink own ik cls).before args s' = true := vx_ot_at hW0 hvm.symm (hgood _ List.mem_cons_self) hk
  have hini' : (Cond.initialized cls).before args s' = true := vx_ot_at hW0 hvm.symm (hgood _ (List.mem_cons_of_mem _ List.mem_cons_self)) hini
  have hU' : vx_Zq Bundle.tN "UNASSIGNED_STACK" Bundle.steD A s' s'.heap := by rw [hhp]; exact vx_Zq.moved hW0.alike (hU.kept hS.2.1)
  have hN' : vx_Zq Bundle.tN "SUPPRESSED_SENTINEL" Bundle.listD A s' s'.heap := by rw [hhp]; exact vx_Zq.moved hW0.alike (hN.kept hS.2.1)
  have h : ∀ w ∈ Bundle.ownAtoms0 own ic cls names, w.before args s' = true := vx_own hat' (vx_isRefq hU'.1) (vx_isRefq hN'.1) hU'.2.word hN'.2.word
  have hown' : s'.vm.findClass own = some m.cls := by rw [hvm]; exact hown
  have hins : (Cond.instantiable cls 6).before args s' = true := h _ (by simp [Bundle.ownAtoms0])
  obtain ⟨vm₁, cX, kX, hfX, hkX, -, -, X₁, st1⟩ := Y.newCold hexec (own := own) (C := cls) (index := ik) (n := 6) hown' hk' hins hini'
    (g := F0 m pc ls rest) rfl (by rw [hb]; exact d0) (Nat.le_refl _) (Nat.le_refl _)
  generalize hT1 : (T.setVm vm₁).pushCell { cls := cX, slots := kX.instanceTypes.map defaultValue, vm := .none } = T1 at X₁ st1
  have hcat : (Value.ref T.heap.size).category = 1 := rfl
  have hcellA : T1.heap[T.heap.size]? = some (freshCell cX kX) := by rw [← hT1]; exact State.heap_pushCell_size _ _
  have d3' : decode c.code (pc + 3) = .ok (.dup, 1) := by rw [hb]; exact d3
  obtain ⟨U, hsteps, hrun, hend, hW, hsame, ce, hce, hO⟩ := X₁.ctorThrow0 hexec htr (own := own) (cls := cls) (names := names) (ic := ic) hown' hcls hnames h (fun x hx => nomatch hx) hfX hkX hcellA (by rw [hhp, hT]; exact Nat.le_refl _)
    (g := { method := m, pc := pc + 4, locals := ls, stack := .ref T.heap.size :: .ref T.heap.size :: rest, locked := none }) rfl hsize rfl rfl (rest := rest) rfl
    (by rw [hb]; exact d4) (by rw [hb]; exact d7) hout hRframes (by simp only [List.map_cons, List.sum_cons, hcat]; omega) hlocks
  obtain ⟨f1, f2⟩ := vx_frame hsame
  rw [hhp] at f1 f2
  have hWs : s.WarmedH U.vm := State.WarmedH.trans hW0 hW
  have hcl : s.vm.findClass cls = some ce.cls := by
    have h9 := hO.cls
    rw [hvm] at h9
    exact h9
  have hall : s.sameButNew ({ U with vm := s.vm } : State) locs mc ms := by
    subst hA
    obtain ⟨e1, e2⟩ := hsame
    rw [State.setFrames_setFrames] at e1
    have h2 : (T.setVm s.vm).sameButNew ({ U with vm := s.vm } : State) [] (0 + 1) (0 + 6) := ⟨e1, e2⟩
    have h3 := X.same.trans h2
    rw [List.append_nil] at h3
    exact h3.mono hc hs
  refine ⟨U, ?_, .threw T.heap.size, hrun, hend, Or.inr ⟨T.heap.size, rfl, cls, ce, locs, hx U hWs.alike f1 (fun q hq => f2 q hq (fun z hz => nomatch hz)), hce, hO.vm, hcl, hWs, hall, hf⟩⟩
  refine st1 _ ?_
  show Steps p.tables e below (T1.setTop { method := m, pc := pc + 3, locals := ls, stack := .ref T.heap.size :: rest, locked := none }) _
  jvm_step X₁.here [X₁.here.top, hexec, d3', Value.category]
  exact hsteps
/-- 'throw new E("text")': new; dup; ldc; invokespecial; athrow -/
theorem vx_throwS {cc : ByteArray} {pc : Nat} (hexec : p.tables.exec = Jvm.exec) (hb : c.code = cc) (hl : l.stackTraces = false) {own cls text : String} {names : List String} {ik is ic mc ms sa : Nat} {A : Nat → Prop}
    (hown : s.vm.findClass own = some m.cls) (hcls : Bundle.fit cls = true) (hnames : ∀ n ∈ names, Bundle.fit n = true)
    (hk : (Cond.classLink own ik cls).before args s = true) (hini : (Cond.initialized cls).before args s = true) (hstr : vk_R own is text sa s) (hat : ∀ w ∈ vx_atS own ic cls names, w.before args s = true)
    (hgood : ∀ w ∈ Cond.classLink own ik cls :: Cond.initialized cls :: vx_atS own ic cls names, vx_ot w = true)
    (hU : vx_Zq Bundle.tN "UNASSIGNED_STACK" Bundle.steD A s s.heap) (hN : vx_Zq Bundle.tN "SUPPRESSED_SENTINEL" Bundle.listD A s s.heap) (hS : va_S A s.heap H locs) (hsize : ls.size = c.maxLocals)
    (d0 : decode cc pc = .ok (.new ik, 3)) (d3 : decode cc (pc + 3) = .ok (.dup, 1)) (d4 : decode cc (pc + 4) = .ok (.ldc is, 2)) (d6 : decode cc (pc + 6) = .ok (.invokespecial ic, 3)) (d9 : decode cc (pc + 9) = .ok (.athrow, 1))
    (hout : ∀ x ∈ c.exceptionTable.toList, covers x (pc + 9) = false)
    (hRframes : names.length + 3 < R.frames) (hRlocals : (rest.map fun v => v.category).sum + (13 * (names.length + 1) + 43) ≤ R.locals) (hRcells : cells + 1 ≤ R.cells) (hRslots : slots + 6 ≤ R.slots) (hlocks : meth.locks = false)
    (hx : ∀ t : State, s.vm.Alike t.vm → H.size ≤ t.heap.size → (∀ q : Nat, q < H.size → t.heap[q]? = H[q]?) → XC cls s t)
    (hf : ∀ z ∈ locs, free z.base) (hc : cells + 1 ≤ mc) (hs : slots + 6 ≤ ms) :
    W p l e R s m args below meth c H locs cells slots (vx_MQ below Qc XC args s mc ms free) (F0 m pc ls rest) := by
  intro T hT X
  have htr : e.platform.stackTraces = false := (show e.platform.stackTraces = l.stackTraces by rw [X.admits.platform]).trans hl
  have Y := vx_rebase X (R' := { frames := R.frames, locals := R.locals, cells := 1, slots := 6 }) (Nat.le_refl _) (Nat.le_refl _) hRcells hRslots
  obtain ⟨s', hA⟩ : ∃ z, z = (T.setVm s.vm).setFrames (.invoking m args :: below) := ⟨_, rfl⟩
  rw [← hA] at Y
  have hvm : s'.vm = s.vm := by rw [hA]; rfl
  have hhp : s'.heap = H := by rw [hA]; exact hT
  have hW0 : s.WarmedH s'.vm := by rw [hvm]; exact State.WarmedH.refl s
  have hat' : ∀ w ∈ vx_atS own ic cls names, w.before args s' = true := fun w hw => vx_ot_at hW0 hvm.symm (hgood w (List.mem_cons_of_mem _ (List.mem_cons_of_mem _ hw))) (hat w hw)
  have hk' : (Cond.classLink own ik cls).before args s' = true := vx_ot_at hW0 hvm.symm (hgood _ List.mem_cons_self) hk
  have hini' : (Cond.initialized cls).before args s' = true := vx_ot_at hW0 hvm.symm (hgood _ (List.mem_cons_of_mem _ List.mem_cons_self)) hini
  have hU' : vx_Zq Bundle.tN "UNASSIGNED_STACK" Bundle.steD A s' s'.heap := by rw [hhp]; exact vx_Zq.moved hW0.alike (hU.kept hS.2.1)
  have hN' : vx_Zq Bundle.tN "SUPPRESSED_SENTINEL" Bundle.listD A s' s'.heap := by rw [hhp]; exact vx_Zq.moved hW0.alike (hN.kept hS.2.1)
  have h : ∀ w ∈ Bundle.ownAtoms own ic cls names, w.before args s' = true := vx_own hat' (vx_isRefq hU'.1) (vx_isRefq hN'.1) hU'.2.word hN'.2.word
  have hown' : s'.vm.findClass own = some m.cls := by rw [hvm]; exact hown
  have hins : (Cond.instantiable cls 6).before args s' = true := h _ (by simp [Bundle.ownAtoms])
  obtain ⟨vm₁, cX, kX, hfX, hkX, -, -, X₁, st1⟩ := Y.newCold hexec (own := own) (C := cls) (index := ik) (n := 6) hown' hk' hins hini'
    (g := F0 m pc ls rest) rfl (by rw [hb]; exact d0) (Nat.le_refl _) (Nat.le_refl _)
  generalize hT1 : (T.setVm vm₁).pushCell { cls := cX, slots := kX.instanceTypes.map defaultValue, vm := .none } = T1 at X₁ st1
  have hcat : (Value.ref T.heap.size).category = 1 := rfl
  have hcellA : T1.heap[T.heap.size]? = some (freshCell cX kX) := by rw [← hT1]; exact State.heap_pushCell_size _ _
  have d3' : decode c.code (pc + 3) = .ok (.dup, 1) := by rw [hb]; exact d3
  have d4' : decode c.code (pc + 4) = .ok (.ldc is, 2) := by rw [hb]; exact d4
  have hstr' : vk_R own is text sa s' := vk_R.warm hW0 hstr
  obtain ⟨U, hsteps, hrun, hend, hW, hsame, ce, hce, hO⟩ := X₁.ctorThrowS hexec htr (own := own) (cls := cls) (names := names) (ic := ic) hown' hcls hnames h (fun x hx => nomatch hx) hfX hkX hcellA (by rw [hhp, hT]; exact Nat.le_refl _) (msg := .ref sa) rfl
    (g := { method := m, pc := pc + 6, locals := ls, stack := .ref sa :: .ref T.heap.size :: .ref T.heap.size :: rest, locked := none }) rfl hsize rfl rfl (rest := rest) rfl
    (by rw [hb]; exact d6) (by rw [hb]; exact d9) hout hRframes (by simp only [List.map_cons, List.sum_cons, hcat]; omega) hlocks
  obtain ⟨f1, f2⟩ := vx_frame hsame
  rw [hhp] at f1 f2
  have hWs : s.WarmedH U.vm := State.WarmedH.trans hW0 hW
  have hcl : s.vm.findClass cls = some ce.cls := by
    have h9 := hO.cls
    rw [hvm] at h9
    exact h9
  have hall : s.sameButNew ({ U with vm := s.vm } : State) locs mc ms := by
    subst hA
    obtain ⟨e1, e2⟩ := hsame
    rw [State.setFrames_setFrames] at e1
    have h2 : (T.setVm s.vm).sameButNew ({ U with vm := s.vm } : State) [] (0 + 1) (0 + 6) := ⟨e1, e2⟩
    have h3 := X.same.trans h2
    rw [List.append_nil] at h3
    exact h3.mono hc hs
  refine ⟨U, ?_, .threw T.heap.size, hrun, hend, Or.inr ⟨T.heap.size, rfl, cls, ce, locs, hx U hWs.alike f1 (fun q hq => f2 q hq (fun z hz => nomatch hz)), hce, hO.vm, hcl, hWs, hall, hf⟩⟩
  refine st1 _ ?_
  show Steps p.tables e below (T1.setTop { method := m, pc := pc + 3, locals := ls, stack := .ref T.heap.size :: rest, locked := none }) _
  jvm_step X₁.here [X₁.here.top, hexec, d3', Value.category]
  exact X₁.ldcString hexec (own := own) (text := text) (index := is) (a := sa) hown' hstr'.1 hstr'.2
    (g := { method := m, pc := pc + 4, locals := ls, stack := .ref T.heap.size :: .ref T.heap.size :: rest, locked := none }) rfl d4' _ hsteps
/-- 'throw new E("text")', the text by a wide index -/
theorem vx_throwSW {cc : ByteArray} {pc : Nat} (hexec : p.tables.exec = Jvm.exec) (hb : c.code = cc) (hl : l.stackTraces = false) {own cls text : String} {names : List String} {ik is ic mc ms sa : Nat} {A : Nat → Prop}
    (hown : s.vm.findClass own = some m.cls) (hcls : Bundle.fit cls = true) (hnames : ∀ n ∈ names, Bundle.fit n = true)
    (hk : (Cond.classLink own ik cls).before args s = true) (hini : (Cond.initialized cls).before args s = true) (hstr : vk_R own is text sa s) (hat : ∀ w ∈ vx_atS own ic cls names, w.before args s = true)
    (hgood : ∀ w ∈ Cond.classLink own ik cls :: Cond.initialized cls :: vx_atS own ic cls names, vx_ot w = true)
    (hU : vx_Zq Bundle.tN "UNASSIGNED_STACK" Bundle.steD A s s.heap) (hN : vx_Zq Bundle.tN "SUPPRESSED_SENTINEL" Bundle.listD A s s.heap) (hS : va_S A s.heap H locs) (hsize : ls.size = c.maxLocals)
    (d0 : decode cc pc = .ok (.new ik, 3)) (d3 : decode cc (pc + 3) = .ok (.dup, 1)) (d4 : decode cc (pc + 4) = .ok (.ldc_w is, 3)) (d7 : decode cc (pc + 7) = .ok (.invokespecial ic, 3)) (d10 : decode cc (pc + 10) = .ok (.athrow, 1))
    (hout : ∀ x ∈ c.exceptionTable.toList, covers x (pc + 10) = false)
    (hRframes : names.length + 3 < R.frames) (hRlocals : (rest.map fun v => v.category).sum + (13 * (names.length + 1) + 43) ≤ R.locals) (hRcells : cells + 1 ≤ R.cells) (hRslots : slots + 6 ≤ R.slots) (hlocks : meth.locks = false)
    (hx : ∀ t : State, s.vm.Alike t.vm → H.size ≤ t.heap.size → (∀ q : Nat, q < H.size → t.heap[q]? = H[q]?) → XC cls s t)
    (hf : ∀ z ∈ locs, free z.base) (hc : cells + 1 ≤ mc) (hs : slots + 6 ≤ ms) :
    W p l e R s m args below meth c H locs cells slots (vx_MQ below Qc XC args s mc ms free) (F0 m pc ls rest) := by
  intro T hT X
  have htr : e.platform.stackTraces = false := (show e.platform.stackTraces = l.stackTraces by rw [X.admits.platform]).trans hl
  have Y := vx_rebase X (R' := { frames := R.frames, locals := R.locals, cells := 1, slots := 6 }) (Nat.le_refl _) (Nat.le_refl _) hRcells hRslots
  obtain ⟨s', hA⟩ : ∃ z, z = (T.setVm s.vm).setFrames (.invoking m args :: below) := ⟨_, rfl⟩
  rw [← hA] at Y
  have hvm : s'.vm = s.vm := by rw [hA]; rfl
  have hhp : s'.heap = H := by rw [hA]; exact hT
  have hW0 : s.WarmedH s'.vm := by rw [hvm]; exact State.WarmedH.refl s
  have hat' : ∀ w ∈ vx_atS own ic cls names, w.before args s' = true := fun w hw => vx_ot_at hW0 hvm.symm (hgood w (List.mem_cons_of_mem _ (List.mem_cons_of_mem _ hw))) (hat w hw)
  have hk' : (Cond.classLink own ik cls).before args s' = true := vx_ot_at hW0 hvm.symm (hgood _ List.mem_cons_self) hk
  have hini' : (Cond.initialized cls).before args s' = true := vx_ot_at hW0 hvm.symm (hgood _ (List.mem_cons_of_mem _ List.mem_cons_self)) hini
  have hU' : vx_Zq Bundle.tN "UNASSIGNED_STACK" Bundle.steD A s' s'.heap := by rw [hhp]; exact vx_Zq.moved hW0.alike (hU.kept hS.2.1)
  have hN' : vx_Zq Bundle.tN "SUPPRESSED_SENTINEL" Bundle.listD A s' s'.heap := by rw [hhp]; exact vx_Zq.moved hW0.alike (hN.kept hS.2.1)
  have h : ∀ w ∈ Bundle.ownAtoms own ic cls names, w.before args s' = true := vx_own hat' (vx_isRefq hU'.1) (vx_isRefq hN'.1) hU'.2.word hN'.2.word
  have hown' : s'.vm.findClass own = some m.cls := by rw [hvm]; exact hown
  have hins : (Cond.instantiable cls 6).before args s' = true := h _ (by simp [Bundle.ownAtoms])
  obtain ⟨vm₁, cX, kX, hfX, hkX, -, -, X₁, st1⟩ := Y.newCold hexec (own := own) (C := cls) (index := ik) (n := 6) hown' hk' hins hini'
    (g := F0 m pc ls rest) rfl (by rw [hb]; exact d0) (Nat.le_refl _) (Nat.le_refl _)
  generalize hT1 : (T.setVm vm₁).pushCell { cls := cX, slots := kX.instanceTypes.map defaultValue, vm := .none } = T1 at X₁ st1
  have hcat : (Value.ref T.heap.size).category = 1 := rfl
  have hcellA : T1.heap[T.heap.size]? = some (freshCell cX kX) := by rw [← hT1]; exact State.heap_pushCell_size _ _
  have d3' : decode c.code (pc + 3) = .ok (.dup, 1) := by rw [hb]; exact d3
  have d4' : decode c.code (pc + 4) = .ok (.ldc_w is, 3) := by rw [hb]; exact d4
  have hstr' : vk_R own is text sa s' := vk_R.warm hW0 hstr
  obtain ⟨U, hsteps, hrun, hend, hW, hsame, ce, hce, hO⟩ := X₁.ctorThrowS hexec htr (own := own) (cls := cls) (names := names) (ic := ic) hown' hcls hnames h (fun x hx => nomatch hx) hfX hkX hcellA (by rw [hhp, hT]; exact Nat.le_refl _) (msg := .ref sa) rfl
    (g := { method := m, pc := pc + 7, locals := ls, stack := .ref sa :: .ref T.heap.size :: .ref T.heap.size :: rest, locked := none }) rfl hsize rfl rfl (rest := rest) rfl
    (by rw [hb]; exact d7) (by rw [hb]; exact d10) hout hRframes (by simp only [List.map_cons, List.sum_cons, hcat]; omega) hlocks
  obtain ⟨f1, f2⟩ := vx_frame hsame
  rw [hhp] at f1 f2
  have hWs : s.WarmedH U.vm := State.WarmedH.trans hW0 hW
  have hcl : s.vm.findClass cls = some ce.cls := by
    have h9 := hO.cls
    rw [hvm] at h9
    exact h9
  have hall : s.sameButNew ({ U with vm := s.vm } : State) locs mc ms := by
    subst hA
    obtain ⟨e1, e2⟩ := hsame
    rw [State.setFrames_setFrames] at e1
    have h2 : (T.setVm s.vm).sameButNew ({ U with vm := s.vm } : State) [] (0 + 1) (0 + 6) := ⟨e1, e2⟩
    have h3 := X.same.trans h2
    rw [List.append_nil] at h3
    exact h3.mono hc hs
  refine ⟨U, ?_, .threw T.heap.size, hrun, hend, Or.inr ⟨T.heap.size, rfl, cls, ce, locs, hx U hWs.alike f1 (fun q hq => f2 q hq (fun z hz => nomatch hz)), hce, hO.vm, hcl, hWs, hall, hf⟩⟩
  refine st1 _ ?_
  show Steps p.tables e below (T1.setTop { method := m, pc := pc + 3, locals := ls, stack := .ref T.heap.size :: rest, locked := none }) _
  jvm_step X₁.here [X₁.here.top, hexec, d3', Value.category]
  exact X₁.ldcStringW hexec (own := own) (text := text) (index := is) (a := sa) hown' hstr'.1 hstr'.2
    (g := { method := m, pc := pc + 4, locals := ls, stack := .ref T.heap.size :: .ref T.heap.size :: rest, locked := none }) rfl d4' _ hsteps
end Ends
section Bodies
variable {l : Launch}
theorem vx_ofW {y : MethodName} {ws ws' : List Cond} {rm : Room} {Pc : Array Value → State → Prop} {Qc : Array Value → State → Outcome → State → Prop} {XC : String → State → State → Prop} {mc ms : Nat} {free : Addr → Prop} {cc : ByteArray} {maxL : Nat} {ret : Option FieldType}
    (hy : plainName y.cls = true) (hw : ws = Cond.code y cc maxL ret :: ws')
    (body : ∀ p e s m args below meth c s₁, BodyLoose p l y (headSpec ws rm) cc maxL ret e s m args below meth c s₁ → c.maxLocals = maxL → (∀ x ∈ c.exceptionTable.toList, False) → Pc args s →
      W p l e (headSpec ws rm).room s m args below meth c s.heap [] 0 0 (vx_MQ below Qc XC args s mc ms free) (entryFrame m args maxL)) : vx_Met l y ws rm Pc Qc XC mc ms free := by
  refine MetFree.of_bodyS (code := cc) (maxLocals := maxL) (ret := ret) hy ?_ ?_
  · intro args s m h hn
    obtain ⟨meth, c, h1, h2, h3, h4, h5, h6, -, -⟩ := Cond.code_spec hn (atoms_spec (ws := ws) h _ (by rw [hw]; exact List.mem_cons_self))
    exact ⟨meth, c, h1, h2, h3, h4, h5, h6⟩
  · intro p e s m args below meth c s₁ B hml hP _
    have hh0 : s₁.heap = s.heap := by rw [B.state]; rfl
    have ht : ∀ x ∈ c.exceptionTable.toList, False := by
      obtain ⟨meth9, c9, h1, h2, -, -, -, -, h7, -⟩ := Cond.code_spec B.named (atoms_spec (ws := ws) B.pre _ (by rw [hw]; exact List.mem_cons_self))
      cases Option.some.inj (h1.symm.trans B.method)
      cases Option.some.inj (h2.symm.trans (Stand.of_body B).code)
      intro x hx
      rw [Array.isEmpty_iff.mp h7] at hx
      cases hx
    obtain ⟨t, a1, o, b1, b2, b3⟩ := body p e s m args below meth c s₁ B hml ht hP s₁ hh0 (Stand.of_body B)
    exact ⟨t, o, a1, b1, b2, b3⟩
/-- the table of a body with handlers -/
theorem vx_table {p : Program} {x y : MethodName} {S : Spec} {cc bytes : ByteArray} {maxL maxL' : Nat} {ret ret' : Option FieldType} {e : Env} {s s₁ : State} {m : MethodId} {args : Array Value} {below : List Frame} {meth : Method} {c : Code} {hh : List (Nat × Nat × Nat × Nat)}
    (B : BodyLoose p l y S cc maxL ret e s m args below meth c s₁) (h : (Cond.codeWith y bytes maxL' ret' hh).before args s = true) : c.exceptionTable.toList = tableOf hh := by
  obtain ⟨m9, meth9, c9, hn9, h1, h2, -, -, h6, -⟩ := Cond.codeWith_spec h
  cases Option.some.inj (hn9.symm.trans B.named)
  cases Option.some.inj (h1.symm.trans B.method)
  cases Option.some.inj (h2.symm.trans (Stand.of_body B).code)
  rw [← h6, table_eq]
end Bodies
end VXA
/-! ===== END ===== -/
/-! ===== BEGIN a static call of a method with an exception table ===== -/
section VXS
variable {p : Program} {l : Launch} {e : Env} {R : Room} {s : State} {m : MethodId} {args : Array Value} {below : List Frame} {meth : Method} {c : Code} {T : State} {H : Heap} {locs : List Loc} {cells slots : Nat}
abbrev vx_CSW (R : Room) (s : State) (args : Array Value) (own : String) (index : Nat) (y : MethodName) (bytes : ByteArray) (maxL : Nat) (ret : Option FieldType) (hh : List (Nat × Nat × Nat × Nat)) (ws : List Cond) (rm : Room) (mc ms n : Nat) : Prop :=
  (rm.cells = mc ∧ rm.slots = ms ∧ rm.frames + 1 ≤ R.frames ∧ 8 + (maxL + 11) + rm.locals ≤ R.locals ∧ (∀ w ∈ ws, ∀ (a' : Array Value) (U : State), s.WarmedH U.vm → w.before a' U = true) ∧ Cond.codeWith y bytes maxL ret hh ∈ ws) ∧
  (Cond.codeWith y bytes maxL ret hh).before args s = true ∧ (Cond.initialized y.cls).before args s = true ∧ (y.cls ≠ "java/lang/invoke/MethodHandle" ∧ y.cls ≠ "java/lang/invoke/VarHandle") ∧
  (∀ sig, parseMethodDescriptor y.desc = some sig → n = sig.parameters.length) ∧ (Cond.methodLink own index y).before args s = true ∧ (Cond.static y).before args s = true
theorem vx_cwSW {own : String} {index maxL mc ms : Nat} {y : MethodName} {bytes : ByteArray} {ret : Option FieldType} {hh : List (Nat × Nat × Nat × Nat)} {Ts ws ws' : List Cond} {rm : Room} (n : Nat) (ht : ∀ w ∈ Ts, w.before args s = true) (hT : GoodIn Ts (va_wsS own index y ws)) (hw : ws = Cond.codeWith y bytes maxL ret hh :: ws') (hrc : rm.cells = mc) (hrs : rm.slots = ms)
    (hd : y.cls ≠ "java/lang/invoke/MethodHandle" ∧ y.cls ≠ "java/lang/invoke/VarHandle" ∧ (parseMethodDescriptor y.desc).map (fun d => d.parameters.length) = some n) (hR : rm.frames + 1 ≤ R.frames ∧ 8 + (maxL + 11) + rm.locals ≤ R.locals) :
    vx_CSW R s args own index y bytes maxL ret hh ws rm mc ms n := by
  have ok : ∀ w ∈ va_wsS own index y ws, w.before args s = true := fun w h => ht w (hT w h).1
  have hG : GoodIn Ts ws := fun w h => hT w (by unfold va_wsS; exact List.mem_append_right _ h)
  have hc : Cond.codeWith y bytes maxL ret hh ∈ ws := by rw [hw]; exact List.mem_cons_self
  refine ⟨⟨hrc, hrs, hR.1, hR.2, pay_in ht hG, hc⟩, ht _ (hG _ hc).1, ok _ (by simp [va_wsS]), ⟨hd.1, hd.2.1⟩, fun sig h => ?_, ok _ (by simp [va_wsS]), ok _ (by simp [va_wsS])⟩
  have h2 := hd.2.2
  rw [h] at h2
  exact (Option.some.inj h2).symm
theorem vx_callSW (X : Stand p l e R s m args below meth c T locs cells slots) (hexec : p.tables.exec = Jvm.exec) {own : String} {index : Nat} {y : MethodName} {bytes : ByteArray} {maxL : Nat} {ret : Option FieldType} {hh : List (Nat × Nat × Nat × Nat)}
    (hown : s.vm.findClass own = some m.cls) (hlink : (Cond.methodLink own index y).before args s = true) (hstat : (Cond.static y).before args s = true) (hinit : (Cond.initialized y.cls).before args s = true)
    (hcode : (Cond.codeWith y bytes maxL ret hh).before args s = true) (hy : y.cls ≠ "java/lang/invoke/MethodHandle" ∧ y.cls ≠ "java/lang/invoke/VarHandle")
    {W9 : Nat} {Pre : Pt → Array Value → Prop} {Post : Pt → Array Value → Option Value → Pt → Prop} (hK : Back l R p e below s args y 3 W9 Pre Post)
    {g : JFrame} (hg : g.method = m) (hsize : g.locals.size = c.maxLocals) {argsL rest : List Value} (hlen : ∀ sig, parseMethodDescriptor y.desc = some sig → argsL.length = sig.parameters.length)
    (hstack : g.stack = argsL.reverse ++ rest) (hW : 2 * g.monitorRoom + (rest.map fun v => v.category).sum ≤ W9) (hdg : decode c.code g.pc = .ok (.invokestatic index, 3))
    (hpre : ∀ vm₁, s.WarmedH vm₁ → Pre ⟨T.setVm vm₁, locs, cells, slots⟩ argsL.toArray) :
    ∃ (v : Option Value) (vm₁ : Vm) (B : Pt), s.WarmedH vm₁ ∧ Stand p l e R s m args below meth c B.U B.locs B.cells B.slots ∧ Post ⟨T.setVm vm₁, locs, cells, slots⟩ argsL.toArray v B ∧
      ∀ target, Steps p.tables e below (B.U.setTop { g with pc := g.pc + 3, stack := v.toList ++ rest }) target → Steps p.tables e below (T.setTop g) target := by
  obtain ⟨mk, methM, cM, hnamed, hmethM, -, -, -, -, -, -, hsigM⟩ := Cond.codeWith_spec hcode
  have hstatic : methM.isStatic = true := Cond.static_spec hnamed hmethM hstat
  obtain ⟨kP, hkP, -⟩ := className_of_methodNamed hnamed
  have hinitP : kP.init = .initialized := Cond.initialized_spec (findClass_of_methodNamed hnamed) hkP hinit
  obtain ⟨vm₁, X₁, hstep₁⟩ := X.invokestatic hexec hown hlink hnamed hmethM hstatic hkP hinitP hy (g := g) hg (argsL := argsL) (rest := rest) (hlen _ hsigM) hstack hdg
  obtain ⟨v, B, X', hpost, hsteps⟩ := hK m meth c ⟨T.setVm vm₁, locs, cells, slots⟩ { g with stack := rest } (.invokestatic index) mk argsL.toArray X₁ hg hsize hdg hW (X₁.named hnamed) (hpre vm₁ X₁.warmed)
  exact ⟨v, vm₁, B, X₁.warmed, X', hpost, fun target h => hstep₁ _ fun acts => by rw [doInvoke_state]; exact hsteps.trans h⟩
theorem vx_runSW {y : MethodName} {bytes cc : ByteArray} {maxL nL mc ms n index : Nat} {ret : Option FieldType} {hh : List (Nat × Nat × Nat × Nat)} {ws : List Cond} {rm : Room} {Pc : Array Value → State → Prop} {Qc : Array Value → State → Outcome → State → Prop} {free : Addr → Prop} {Ts : List Cond} {own : String} {As rest : List Value} {g : JFrame}
    (S : CallFix p m c cc nL s args Ts own) (hM : Met l y ws rm Pc Qc mc ms free) (cw : vx_CSW R s args own index y bytes maxL ret hh ws rm mc ms n) (hp : PreS s H Pc As)
    (hg : g.method = m) (hn : As.length = n) (hsize : g.locals.size = nL) (hstack : g.stack = As.reverse ++ rest) (hW : 2 * g.monitorRoom + (rest.map fun v => v.category).sum ≤ 8) (hdg : decode cc g.pc = .ok (.invokestatic index, 3)) (hf : cells + mc ≤ R.cells ∧ slots + ms ≤ R.slots) :
    va_Run p l e R s m args below meth c H locs cells slots mc ms g rest (Qc As.toArray) (free) := by
  obtain ⟨⟨hrc, hrs, hfr, hlo, hws, hcw⟩, hcode, hini, hy, hlen, hl, hstt⟩ := cw
  have hK : Back l R p e below s args y 3 8 (PreOf R mc ms Pc) (PostOf Qc mc ms free) := va_backW (hh := hh) (bytes := bytes) (maxL := maxL) (ret := ret) hM hp.1 hrc hrs hfr hlo hws hcw (fun a' U hW => word_at hW (Or.inl (by first | rfl | simp [Cond.onTables, Cond.keeps, Cond.steady])) hini)
  obtain ⟨hx, hb, hml, ho, -⟩ := S
  intro T hT X
  obtain ⟨v, vm₁, ⟨U', l2, c2, s2⟩, hW₁, X', ⟨g', mk, t, L, e1, e2, hq, h1, hL, h2, h3⟩, st⟩ := vx_callSW X hx (hh := hh) (bytes := bytes) (maxL := maxL) (ret := ret) ho hl hstt hini hcode hy hK hg (hsize.trans hml.symm) (argsL := As) (rest := rest) (fun sig h => hn.trans (hlen sig h)) hstack hW (by rw [hb]; exact hdg)
    (fun vm₁ hW₁ => ⟨hf.1, hf.2, hp.2 (T.setVm vm₁) hT hW₁⟩)
  dsimp only [Pt.U, Pt.locs, Pt.cells, Pt.slots] at X' e1 e2 h1 h2 h3 st
  subst h1; subst h2; subst h3
  exact ⟨v, (T.setVm vm₁).calling g' mk As.toArray, t, U', L, hT, X', hL, e1, e2, hq, st⟩
/-- not caught here, past rows that name other classes: it goes on to the caller -/
theorem vx_lt {D : va_G} {cl : List vw_C} {ws : va_W} {H1 : Heap} (h : va_P D cl ws H1) {k : Nat} {q : Nat × va_E} (hk : ws[k]? = some q) : q.1 < H1.size := (h k q hk).lt
end VXS
/-! ===== END ===== -/
/-! ===== BEGIN methods with a table of their own: called by a name, returning or throwing ===== -/
section VXH
/-! vx_backW, vx_callVX, vx_callSX, vx_callVW, vx_runVW, vx_runVX, vx_runSX, vx_ofWH follow the same proofs as their sisters above (Free/Laws.lean, Shelf42/LK1.lean); vx_outP calls Shelf42/NT130.lean (outThrough). -/
section
variable {l : Launch} {R : Room} {p : Program} {e : Env} {below : List Frame} {s : State} {sargs : Array Value} {y : MethodName} {len W9 : Nat}
theorem vx_backW {ws : List Cond} {rm : Room} {Pc : Array Value → State → Prop} {Qc : Array Value → State → Outcome → State → Prop} {XC : String → State → State → Prop} {mc ms : Nat} {free : Addr → Prop} {bytes : ByteArray} {maxL : Nat} {ret : Option FieldType} {hh : List (Nat × Nat × Nat × Nat)}
    (hM : vx_Met l y ws rm Pc Qc XC mc ms free) (hblind : FrameBlind Pc) (hrc : rm.cells = mc) (hrs : rm.slots = ms)
    (hframes : rm.frames + 1 ≤ R.frames) (hlocals : W9 + (maxL + 11) + rm.locals ≤ R.locals)
    (hws : ∀ w ∈ ws, ∀ a' U, s.WarmedH U.vm → w.before a' U = true) (hcode : Cond.codeWith y bytes maxL ret hh ∈ ws) (hinit : ∀ a' U, s.WarmedH U.vm → (Cond.initialized y.cls).before a' U = true) :
    vx_Back l R p e below s sargs y len W9 (PreOf R mc ms Pc) (PostOf Qc mc ms free) (vx_Post XC mc ms free) := by
  intro m meth c A g ig mk a X hg hsize hdg hW hn hp
  have h1 : (headSpec ws rm).pre.before a A.U = true := atoms_intro fun w hw => hws w hw _ _ X.warmed
  have h2 : (Cond.codeWith y bytes maxL ret hh).before a A.U = true := hws _ hcode _ _ X.warmed
  have h3 : (Cond.initialized y.cls).before a A.U = true := hinit _ _ X.warmed
  have h4 : A.cells + (headSpec ws rm).room.cells ≤ R.cells := by rw [show (headSpec ws rm).room.cells = mc from hrc]; exact hp.1
  have h5 : A.slots + (headSpec ws rm).room.slots ≤ R.slots := by rw [show (headSpec ws rm).room.slots = ms from hrs]; exact hp.2.1
  have hPc : Pc a (A.U.calling g mk a) := hblind _ _ _ _ hp.2.2
  obtain ⟨U, Ls, c0, s0⟩ := A
  dsimp only [Pt.U, Pt.locs, Pt.cells, Pt.slots] at h1 h2 h3 h4 h5 X hn hPc ⊢
  obtain ⟨m9, methY, cY, hn9, hmY, hcY, -, hlY, -⟩ := Cond.codeWith_spec h2
  cases Option.some.inj (hn9.symm.trans hn)
  obtain ⟨kY, hkY, -⟩ := className_of_methodNamed hn
  have hinitY : kY.init = .initialized := Cond.initialized_spec (findClass_of_methodNamed hn) hkY h3
  have h : At U g.method c below := by rw [hg]; exact X.here
  have hlocals9 : W9 + (maxL + 11) + (headSpec ws rm).room.locals ≤ R.locals := hlocals
  have happ : (headSpec ws rm).appliesLoose y e.platform (U.calling g mk a) = true :=
    Spec.appliesLoose_calling (g := g) h hdg hn hkY hinitY
      (X.room_calling (g := g) (R' := (headSpec ws rm).room) hsize hmY hcY hframes (by rw [hlY]; omega) h4 h5) h1
  obtain ⟨mid, hmid⟩ := h.above
  have hfr : (U.setTop g).frames = (.java g :: mid) ++ below := by rw [State.frames_setTop' g h.top, hmid]; rfl
  obtain ⟨o, s₂, hsteps, -, hend, hq⟩ := Steps.callFree hM p X.admits X.cas X.clock (acts := []) hfr happ hPc trivial
  have hq' : vx_Q Qc XC mc ms free a (U.calling g mk a) o s₂ := hq
  rw [State.frames_setTop' g h.top] at hend
  obtain ⟨g₀, hg0⟩ := Option.isSome_iff_exists.mp h.top
  obtain ⟨r, hr⟩ := State.topJava?_eq_some.mp hg0
  have hr' : (({ U with heap := s₂.heap, slotsUsed := s₂.slotsUsed } : State).setVm s₂.vm).frames = .java g₀ :: r := hr
  rcases hq' with ⟨hqc, L, hfe, hL⟩ | ⟨q, rfl, E, ce, L, hx, hce, hcv, hcl, hW₂, hsm, hL⟩
  · obtain ⟨⟨v, rfl⟩, hW₂, e2, q2, q3, q4, q5, q6⟩ := id hfe
    have e3 : s₂ = ({ (U.calling g mk a).setFrames s₂.frames with heap := s₂.heap, slotsUsed := s₂.slotsUsed } : State).setVm s₂.vm := by
      have : s₂ = ({ s₂ with vm := (U.calling g mk a).vm } : State).setVm s₂.vm := rfl
      rw [e2] at this
      exact this
    obtain ⟨c₂, i₂, len₂, hc₂, hd₂, hf₂⟩ := hend
    have hW' : U.WarmedH s₂.vm := hW₂
    have hcc : c₂ = c := by
      have h1 : s₂.code? g.method = U.code? g.method := by
        rw [State.code?_eq, State.code?_eq, hW'.alike.method?]
      exact Option.some.inj (hc₂.symm.trans (h1.trans h.code))
    subst hcc
    have hlen : len₂ = len := by rw [hdg] at hd₂; cases hd₂; rfl
    subst hlen
    have hs₂ : s₂ = (({ U with heap := s₂.heap, slotsUsed := s₂.slotsUsed } : State).setVm s₂.vm).setTop { g with pc := g.pc + len₂, stack := v.toList ++ g.stack } := by
      refine e3.trans ?_
      rw [hf₂, State.calling_eq h.top, State.setFrames_setFrames, State.setTop_of_frames _ hr', hr]
      rfl
    have hsame : U.sameButNew ({ U with heap := s₂.heap, slotsUsed := s₂.slotsUsed } : State) L mc ms := by
      refine ⟨?_, q2, q3, q4, q5, q6⟩
      obtain ⟨t, ht, -⟩ := State.frames_cons hr
      show ({ U with heap := s₂.heap, slotsUsed := s₂.slotsUsed } : State) = { U.setFrames U.frames with heap := s₂.heap, slotsUsed := s₂.slotsUsed }
      rw [State.setFrames_self ht]
    subst hg
    refine Or.inl ⟨v, ⟨(({ U with heap := s₂.heap, slotsUsed := s₂.slotsUsed } : State).setVm s₂.vm), Ls ++ L, c0 + mc, s0 + ms⟩,
      ⟨X.admits, X.cas, X.clock, X.frames, X.room, X.hears, X.method, X.code, (X.here.setHeapUsed s₂.heap s₂.slotsUsed).setVm hW'.alike, X.tail, State.WarmedH.trans X.warmed hW', X.limits, X.bytes, X.same.trans (hsame.setVm s.vm)⟩,
      ⟨g, mk, s₂, L, rfl, rfl, hqc, rfl, hL, rfl, rfl⟩, ?_⟩
    show Steps p.tables e below _ ((({ U with heap := s₂.heap, slotsUsed := s₂.slotsUsed } : State).setVm s₂.vm).setTop { g with pc := g.pc + len₂, stack := v.toList ++ g.stack })
    rw [← hs₂]
    exact hsteps
  · obtain ⟨e2, q2, q3, q4, q5, q6⟩ := id hsm
    have e3 : s₂ = ({ (U.calling g mk a).setFrames s₂.frames with heap := s₂.heap, slotsUsed := s₂.slotsUsed } : State).setVm s₂.vm := by
      have : s₂ = ({ s₂ with vm := (U.calling g mk a).vm } : State).setVm s₂.vm := rfl
      rw [e2] at this
      exact this
    have hf₂ : s₂.frames = .throwing q :: .java g :: U.frames.tail := hend
    have hW' : U.WarmedH s₂.vm := hW₂
    have hs₂ : s₂ = ((({ U with heap := s₂.heap, slotsUsed := s₂.slotsUsed } : State).setVm s₂.vm).setTop g).pushFrame (.throwing q) := by
      refine e3.trans ?_
      rw [hf₂, State.calling_eq h.top, State.setFrames_setFrames, State.pushFrame, State.frames_setTop _ hr', State.setTop_of_frames _ hr', State.setFrames_setFrames, hr]
      rfl
    have hsame : U.sameButNew ({ U with heap := s₂.heap, slotsUsed := s₂.slotsUsed } : State) L mc ms := by
      refine ⟨?_, q2, q3, q4, q5, q6⟩
      obtain ⟨t, ht, -⟩ := State.frames_cons hr
      show ({ U with heap := s₂.heap, slotsUsed := s₂.slotsUsed } : State) = { U.setFrames U.frames with heap := s₂.heap, slotsUsed := s₂.slotsUsed }
      rw [State.setFrames_self ht]
    subst hg
    refine Or.inr ⟨q, ⟨(({ U with heap := s₂.heap, slotsUsed := s₂.slotsUsed } : State).setVm s₂.vm), Ls ++ L, c0 + mc, s0 + ms⟩,
      ⟨X.admits, X.cas, X.clock, X.frames, X.room, X.hears, X.method, X.code, (X.here.setHeapUsed s₂.heap s₂.slotsUsed).setVm hW'.alike, X.tail, State.WarmedH.trans X.warmed hW', X.limits, X.bytes, X.same.trans (hsame.setVm s.vm)⟩,
      ⟨g, mk, s₂, L, E, ce, rfl, rfl, hx, hce, hcv, hcl, rfl, hL, rfl, rfl⟩, ?_⟩
    show Steps p.tables e below _ (((({ U with heap := s₂.heap, slotsUsed := s₂.slotsUsed } : State).setVm s₂.vm).setTop g).pushFrame (.throwing q))
    rw [← hs₂]
    exact hsteps
end
variable {p : Program} {l : Launch} {e : Env} {R : Room} {s : State} {m : MethodId} {args : Array Value} {below : List Frame} {meth : Method} {c : Code} {T : State} {H : Heap} {locs : List Loc} {cells slots : Nat}
theorem vx_callVX (X : Stand p l e R s m args below meth c T locs cells slots) (hexec : p.tables.exec = Jvm.exec) {own C : String} {index : Nat} {y : MethodName} {bytes : ByteArray} {maxL : Nat} {ret : Option FieldType} {hh : List (Nat × Nat × Nat × Nat)}
    (hown : s.vm.findClass own = some m.cls) (hlink : (Cond.methodLink own index y).before args s = true) (hinst : (Cond.instanceMethod y).before args s = true) (hsel : (Cond.selects C y y).before args s = true)
    (hcode : (Cond.codeWith y bytes maxL ret hh).before args s = true) (hy : y.cls ≠ "java/lang/invoke/MethodHandle" ∧ y.cls ≠ "java/lang/invoke/VarHandle")
    {W9 : Nat} {Pre : Pt → Array Value → Prop} {Post : Pt → Array Value → Option Value → Pt → Prop} {PostX : Pt → Array Value → Addr → Pt → Prop} (hK : vx_Back l R p e below s args y 3 W9 Pre Post PostX)
    {b : Addr} {cellB : Cell} (hcell : T.heap[b]? = some cellB) (hobj : cellB.vm.isStatics = false) (hcls : s.vm.findClass C = some cellB.cls)
    {g : JFrame} (hg : g.method = m) (hsize : g.locals.size = c.maxLocals) {argsL rest : List Value} (hlen : ∀ sig, parseMethodDescriptor y.desc = some sig → argsL.length = sig.parameters.length)
    (hstack : g.stack = argsL.reverse ++ .ref b :: rest) (hW : 2 * g.monitorRoom + (rest.map fun v => v.category).sum ≤ W9) (hdg : decode c.code g.pc = .ok (.invokevirtual index, 3))
    (hpre : ∀ vm₁, s.WarmedH vm₁ → Pre ⟨T.setVm vm₁, locs, cells, slots⟩ (Value.ref b :: argsL).toArray) :
    (∃ (v : Option Value) (vm₁ : Vm) (B : Pt), s.WarmedH vm₁ ∧ Stand p l e R s m args below meth c B.U B.locs B.cells B.slots ∧ Post ⟨T.setVm vm₁, locs, cells, slots⟩ (Value.ref b :: argsL).toArray v B ∧
      ∀ target, Steps p.tables e below (B.U.setTop { g with pc := g.pc + 3, stack := v.toList ++ rest }) target → Steps p.tables e below (T.setTop g) target) ∨
    (∃ (q : Addr) (vm₁ : Vm) (B : Pt), s.WarmedH vm₁ ∧ Stand p l e R s m args below meth c B.U B.locs B.cells B.slots ∧ PostX ⟨T.setVm vm₁, locs, cells, slots⟩ (Value.ref b :: argsL).toArray q B ∧
      Steps p.tables e below (T.setTop g) ((B.U.setTop { g with stack := rest }).pushFrame (.throwing q))) := by
  obtain ⟨mk, methM, hnamed, hmethM, hstM, habM⟩ := Cond.instanceMethod_spec hinst
  obtain ⟨m8, methM', cM, hn8, hmethM', -, -, -, -, -, -, hsigM⟩ := Cond.codeWith_spec hcode
  cases Option.some.inj (hn8.symm.trans hnamed)
  cases hmethM.symm.trans hmethM'
  obtain ⟨c2, r2, m2, q1, q2, q3, q4, kP, hkP, hkPi⟩ := Cond.selects_spec hsel
  cases hcls.symm.trans q1
  cases (State.methodFound?_of_named hnamed hy).symm.trans q2
  cases hnamed.symm.trans q3
  have hselP : selectMethod e.platform s.vm cellB.cls mk = .method mk := by rw [Launch.admits_selectMethod X.admits]; exact q4
  obtain ⟨vm₁, X₁, hstep₁⟩ := X.invokevirtual hexec hown hlink hnamed hmethM hstM hkP hkPi hy (a := b) (cell := cellB) hcell
    (fun z h => by rw [h] at hobj; cases hobj) hselP hmethM habM hkP hkPi (g := g) hg (argsL := argsL) (rest := rest) (hlen _ hsigM) hstack hdg
  rcases hK m meth c ⟨T.setVm vm₁, locs, cells, slots⟩ { g with stack := rest } (.invokevirtual index) mk (Value.ref b :: argsL).toArray X₁ hg hsize hdg hW (X₁.named hnamed) (hpre vm₁ X₁.warmed) with ⟨v, B, X', hpost, hsteps⟩ | ⟨q, B, X', hpost, hsteps⟩
  · exact Or.inl ⟨v, vm₁, B, X₁.warmed, X', hpost, fun target h => hstep₁ _ fun acts => by rw [doInvoke_state]; exact hsteps.trans h⟩
  · exact Or.inr ⟨q, vm₁, B, X₁.warmed, X', hpost, hstep₁ _ fun acts => by rw [doInvoke_state]; exact hsteps⟩
theorem vx_callSX (X : Stand p l e R s m args below meth c T locs cells slots) (hexec : p.tables.exec = Jvm.exec) {own : String} {index : Nat} {y : MethodName} {bytes : ByteArray} {maxL : Nat} {ret : Option FieldType} {hh : List (Nat × Nat × Nat × Nat)}
    (hown : s.vm.findClass own = some m.cls) (hlink : (Cond.methodLink own index y).before args s = true) (hstat : (Cond.static y).before args s = true) (hinit : (Cond.initialized y.cls).before args s = true)
    (hcode : (Cond.codeWith y bytes maxL ret hh).before args s = true) (hy : y.cls ≠ "java/lang/invoke/MethodHandle" ∧ y.cls ≠ "java/lang/invoke/VarHandle")
    {W9 : Nat} {Pre : Pt → Array Value → Prop} {Post : Pt → Array Value → Option Value → Pt → Prop} {PostX : Pt → Array Value → Addr → Pt → Prop} (hK : vx_Back l R p e below s args y 3 W9 Pre Post PostX)
    {g : JFrame} (hg : g.method = m) (hsize : g.locals.size = c.maxLocals) {argsL rest : List Value} (hlen : ∀ sig, parseMethodDescriptor y.desc = some sig → argsL.length = sig.parameters.length)
    (hstack : g.stack = argsL.reverse ++ rest) (hW : 2 * g.monitorRoom + (rest.map fun v => v.category).sum ≤ W9) (hdg : decode c.code g.pc = .ok (.invokestatic index, 3))
    (hpre : ∀ vm₁, s.WarmedH vm₁ → Pre ⟨T.setVm vm₁, locs, cells, slots⟩ argsL.toArray) :
    (∃ (v : Option Value) (vm₁ : Vm) (B : Pt), s.WarmedH vm₁ ∧ Stand p l e R s m args below meth c B.U B.locs B.cells B.slots ∧ Post ⟨T.setVm vm₁, locs, cells, slots⟩ argsL.toArray v B ∧
      ∀ target, Steps p.tables e below (B.U.setTop { g with pc := g.pc + 3, stack := v.toList ++ rest }) target → Steps p.tables e below (T.setTop g) target) ∨
    (∃ (q : Addr) (vm₁ : Vm) (B : Pt), s.WarmedH vm₁ ∧ Stand p l e R s m args below meth c B.U B.locs B.cells B.slots ∧ PostX ⟨T.setVm vm₁, locs, cells, slots⟩ argsL.toArray q B ∧
      Steps p.tables e below (T.setTop g) ((B.U.setTop { g with stack := rest }).pushFrame (.throwing q))) := by
  obtain ⟨mk, methM, cM, hnamed, hmethM, -, -, -, -, -, -, hsigM⟩ := Cond.codeWith_spec hcode
  have hstatic : methM.isStatic = true := Cond.static_spec hnamed hmethM hstat
  obtain ⟨kP, hkP, -⟩ := className_of_methodNamed hnamed
  have hinitP : kP.init = .initialized := Cond.initialized_spec (findClass_of_methodNamed hnamed) hkP hinit
  obtain ⟨vm₁, X₁, hstep₁⟩ := X.invokestatic hexec hown hlink hnamed hmethM hstatic hkP hinitP hy (g := g) hg (argsL := argsL) (rest := rest) (hlen _ hsigM) hstack hdg
  rcases hK m meth c ⟨T.setVm vm₁, locs, cells, slots⟩ { g with stack := rest } (.invokestatic index) mk argsL.toArray X₁ hg hsize hdg hW (X₁.named hnamed) (hpre vm₁ X₁.warmed) with ⟨v, B, X', hpost, hsteps⟩ | ⟨q, B, X', hpost, hsteps⟩
  · exact Or.inl ⟨v, vm₁, B, X₁.warmed, X', hpost, fun target h => hstep₁ _ fun acts => by rw [doInvoke_state]; exact hsteps.trans h⟩
  · exact Or.inr ⟨q, vm₁, B, X₁.warmed, X', hpost, hstep₁ _ fun acts => by rw [doInvoke_state]; exact hsteps⟩
theorem vx_callVW (X : Stand p l e R s m args below meth c T locs cells slots) (hexec : p.tables.exec = Jvm.exec) {own C : String} {index : Nat} {y : MethodName} {bytes : ByteArray} {maxL : Nat} {ret : Option FieldType} {hh : List (Nat × Nat × Nat × Nat)}
    (hown : s.vm.findClass own = some m.cls) (hlink : (Cond.methodLink own index y).before args s = true) (hinst : (Cond.instanceMethod y).before args s = true) (hsel : (Cond.selects C y y).before args s = true)
    (hcode : (Cond.codeWith y bytes maxL ret hh).before args s = true) (hy : y.cls ≠ "java/lang/invoke/MethodHandle" ∧ y.cls ≠ "java/lang/invoke/VarHandle")
    {W9 : Nat} {Pre : Pt → Array Value → Prop} {Post : Pt → Array Value → Option Value → Pt → Prop} (hK : Back l R p e below s args y 3 W9 Pre Post)
    {b : Addr} {cellB : Cell} (hcell : T.heap[b]? = some cellB) (hobj : cellB.vm.isStatics = false) (hcls : s.vm.findClass C = some cellB.cls)
    {g : JFrame} (hg : g.method = m) (hsize : g.locals.size = c.maxLocals) {argsL rest : List Value} (hlen : ∀ sig, parseMethodDescriptor y.desc = some sig → argsL.length = sig.parameters.length)
    (hstack : g.stack = argsL.reverse ++ .ref b :: rest) (hW : 2 * g.monitorRoom + (rest.map fun v => v.category).sum ≤ W9) (hdg : decode c.code g.pc = .ok (.invokevirtual index, 3))
    (hpre : ∀ vm₁, s.WarmedH vm₁ → Pre ⟨T.setVm vm₁, locs, cells, slots⟩ (Value.ref b :: argsL).toArray) :
    ∃ (v : Option Value) (vm₁ : Vm) (B : Pt), s.WarmedH vm₁ ∧ Stand p l e R s m args below meth c B.U B.locs B.cells B.slots ∧ Post ⟨T.setVm vm₁, locs, cells, slots⟩ (Value.ref b :: argsL).toArray v B ∧
      ∀ target, Steps p.tables e below (B.U.setTop { g with pc := g.pc + 3, stack := v.toList ++ rest }) target → Steps p.tables e below (T.setTop g) target := by
  obtain ⟨mk, methM, hnamed, hmethM, hstM, habM⟩ := Cond.instanceMethod_spec hinst
  obtain ⟨m8, methM', cM, hn8, hmethM', -, -, -, -, -, -, hsigM⟩ := Cond.codeWith_spec hcode
  cases Option.some.inj (hn8.symm.trans hnamed)
  cases hmethM.symm.trans hmethM'
  obtain ⟨c2, r2, m2, q1, q2, q3, q4, kP, hkP, hkPi⟩ := Cond.selects_spec hsel
  cases hcls.symm.trans q1
  cases (State.methodFound?_of_named hnamed hy).symm.trans q2
  cases hnamed.symm.trans q3
  have hselP : selectMethod e.platform s.vm cellB.cls mk = .method mk := by rw [Launch.admits_selectMethod X.admits]; exact q4
  obtain ⟨vm₁, X₁, hstep₁⟩ := X.invokevirtual hexec hown hlink hnamed hmethM hstM hkP hkPi hy (a := b) (cell := cellB) hcell
    (fun z h => by rw [h] at hobj; cases hobj) hselP hmethM habM hkP hkPi (g := g) hg (argsL := argsL) (rest := rest) (hlen _ hsigM) hstack hdg
  obtain ⟨v, B, X', hpost, hsteps⟩ := hK m meth c ⟨T.setVm vm₁, locs, cells, slots⟩ { g with stack := rest } (.invokevirtual index) mk (Value.ref b :: argsL).toArray X₁ hg hsize hdg hW (X₁.named hnamed) (hpre vm₁ X₁.warmed)
  exact ⟨v, vm₁, B, X₁.warmed, X', hpost, fun target h => hstep₁ _ fun acts => by rw [doInvoke_state]; exact hsteps.trans h⟩
abbrev vx_CVW (R : Room) (s : State) (args : Array Value) (own C : String) (index : Nat) (y : MethodName) (bytes : ByteArray) (maxL : Nat) (ret : Option FieldType) (hh : List (Nat × Nat × Nat × Nat)) (ws : List Cond) (rm : Room) (mc ms n : Nat) : Prop :=
  (rm.cells = mc ∧ rm.slots = ms ∧ rm.frames + 1 ≤ R.frames ∧ 8 + (maxL + 11) + rm.locals ≤ R.locals ∧ (∀ w ∈ ws, ∀ (a' : Array Value) (U : State), s.WarmedH U.vm → w.before a' U = true) ∧ Cond.codeWith y bytes maxL ret hh ∈ ws) ∧
  (Cond.codeWith y bytes maxL ret hh).before args s = true ∧ (Cond.initialized y.cls).before args s = true ∧ (y.cls ≠ "java/lang/invoke/MethodHandle" ∧ y.cls ≠ "java/lang/invoke/VarHandle") ∧
  (∀ sig, parseMethodDescriptor y.desc = some sig → n = sig.parameters.length) ∧ (Cond.methodLink own index y).before args s = true ∧ (Cond.instanceMethod y).before args s = true ∧ (Cond.selects C y y).before args s = true
theorem vx_cwVW {own C : String} {index maxL mc ms : Nat} {y : MethodName} {bytes : ByteArray} {ret : Option FieldType} {hh : List (Nat × Nat × Nat × Nat)} {Ts ws ws' : List Cond} {rm : Room} (n : Nat) (ht : ∀ w ∈ Ts, w.before args s = true) (hT : GoodIn Ts (wsV own index C y ws)) (hw : ws = Cond.codeWith y bytes maxL ret hh :: ws') (hrc : rm.cells = mc) (hrs : rm.slots = ms)
    (hd : y.cls = C ∧ y.cls ≠ "java/lang/invoke/MethodHandle" ∧ y.cls ≠ "java/lang/invoke/VarHandle" ∧ (parseMethodDescriptor y.desc).map (fun d => d.parameters.length) = some n) (hR : rm.frames + 1 ≤ R.frames ∧ 8 + (maxL + 11) + rm.locals ≤ R.locals) :
    vx_CVW R s args own C index y bytes maxL ret hh ws rm mc ms n := by
  obtain ⟨hC, hd⟩ := hd
  subst hC
  have ok : ∀ w ∈ wsV own index y.cls y ws, w.before args s = true := fun w h => ht w (hT w h).1
  have hG : GoodIn Ts ws := fun w h => hT w (by unfold wsV; exact List.mem_append_right _ h)
  have hc : Cond.codeWith y bytes maxL ret hh ∈ ws := by rw [hw]; exact List.mem_cons_self
  refine ⟨⟨hrc, hrs, hR.1, hR.2, pay_in ht hG, hc⟩, ht _ (hG _ hc).1, ok _ (by simp [wsV]), ⟨hd.1, hd.2.1⟩, fun sig h => ?_, ok _ (by simp [wsV]), ok _ (by simp [wsV]), ok _ (by simp [wsV])⟩
  have h2 := hd.2.2
  rw [h] at h2
  exact (Option.some.inj h2).symm
theorem vx_runVW {y : MethodName} {bytes cc : ByteArray} {maxL nL mc ms n index : Nat} {ret : Option FieldType} {hh : List (Nat × Nat × Nat × Nat)} {ws : List Cond} {rm : Room} {Pc : Array Value → State → Prop} {Qc : Array Value → State → Outcome → State → Prop} {free : Addr → Prop} {Ts : List Cond} {own C : String} {b : Addr} {As rest : List Value} {g : JFrame}
    (S : CallFix p m c cc nL s args Ts own) (hM : Met l y ws rm Pc Qc mc ms free) (cw : vx_CVW R s args own C index y bytes maxL ret hh ws rm mc ms n) (hp : PreV s H C b Pc As)
    (hg : g.method = m) (hn : As.length = n) (hsize : g.locals.size = nL) (hstack : g.stack = As.reverse ++ .ref b :: rest) (hW : 2 * g.monitorRoom + (rest.map fun v => v.category).sum ≤ 8) (hdg : decode cc g.pc = .ok (.invokevirtual index, 3)) (hf : cells + mc ≤ R.cells ∧ slots + ms ≤ R.slots) :
    va_Run p l e R s m args below meth c H locs cells slots mc ms g rest (Qc (Value.ref b :: As).toArray) free := by
  obtain ⟨⟨hrc, hrs, hfr, hlo, hws, hcw⟩, hcode, hini, hy, hlen, hl, hin, hse⟩ := cw
  have hK : Back l R p e below s args y 3 8 (PreOf R mc ms Pc) (PostOf Qc mc ms free) := va_backW (hh := hh) (bytes := bytes) (maxL := maxL) (ret := ret) hM hp.1 hrc hrs hfr hlo hws hcw (fun a' U hW => word_at hW (Or.inl (by first | rfl | simp [Cond.onTables, Cond.keeps, Cond.steady])) hini)
  obtain ⟨hx, hb, hml, ho, -⟩ := S
  obtain ⟨-, ⟨cellB, hcB, hoB, hclB⟩, hPc⟩ := hp
  intro T hT X
  obtain ⟨v, vm₁, ⟨U', l2, c2, s2⟩, hW₁, X', ⟨g', mk, t, L, e1, e2, hq, h1, hL, h2, h3⟩, st⟩ := vx_callVW X hx (C := C) (hh := hh) (bytes := bytes) (maxL := maxL) (ret := ret) ho hl hin hse hcode hy hK (by rw [hT]; exact hcB) hoB hclB hg (hsize.trans hml.symm) (argsL := As) (rest := rest) (fun sig h => hn.trans (hlen sig h)) hstack hW (by rw [hb]; exact hdg)
    (fun vm₁ hW₁ => ⟨hf.1, hf.2, hPc (T.setVm vm₁) hT hW₁⟩)
  dsimp only [Pt.U, Pt.locs, Pt.cells, Pt.slots] at X' e1 e2 h1 h2 h3 st
  subst h1; subst h2; subst h3
  exact ⟨v, (T.setVm vm₁).calling g' mk (Value.ref b :: As).toArray, t, U', L, hT, X', hL, e1, e2, hq, st⟩
section
variable {y : MethodName} {bytes cc : ByteArray} {maxL nL mc ms n index : Nat} {ret : Option FieldType} {ws : List Cond} {rm : Room} {Pc : Array Value → State → Prop} {Qc : Array Value → State → Outcome → State → Prop} {XC : String → State → State → Prop} {free : Addr → Prop} {Ts : List Cond} {own C : String} {b : Addr} {As rest : List Value} {g : JFrame}
theorem vx_runVX {hh : List (Nat × Nat × Nat × Nat)} (S : CallFix p m c cc nL s args Ts own) (hM : vx_Met l y ws rm Pc Qc XC mc ms free) (cw : vx_CVW R s args own C index y bytes maxL ret hh ws rm mc ms n) (hp : PreV s H C b Pc As)
    (hg : g.method = m) (hn : As.length = n) (hsize : g.locals.size = nL) (hstack : g.stack = As.reverse ++ .ref b :: rest) (hW : 2 * g.monitorRoom + (rest.map fun v => v.category).sum ≤ 8) (hdg : decode cc g.pc = .ok (.invokevirtual index, 3)) (hf : cells + mc ≤ R.cells ∧ slots + ms ≤ R.slots) :
    vx_Run p l e R s m args below meth c H locs cells slots mc ms g rest (Qc (Value.ref b :: As).toArray) XC free := by
  obtain ⟨⟨hrc, hrs, hfr, hlo, hws, hcw⟩, hcode, hini, hy, hlen, hl, hin, hse⟩ := cw
  have hK : vx_Back l R p e below s args y 3 8 (PreOf R mc ms Pc) (PostOf Qc mc ms free) (vx_Post XC mc ms free) := vx_backW (hh := hh) (bytes := bytes) (maxL := maxL) (ret := ret) hM hp.1 hrc hrs hfr hlo hws hcw (fun a' U hW => word_at hW (Or.inl (by first | rfl | simp [Cond.onTables, Cond.keeps, Cond.steady])) hini)
  obtain ⟨hx, hb, hml, ho, -⟩ := S
  obtain ⟨-, ⟨cellB, hcB, hoB, hclB⟩, hPc⟩ := hp
  intro T hT X
  rcases vx_callVX X hx (C := C) (hh := hh) (bytes := bytes) (maxL := maxL) (ret := ret) ho hl hin hse hcode hy hK (by rw [hT]; exact hcB) hoB hclB hg (hsize.trans hml.symm) (argsL := As) (rest := rest) (fun sig h => hn.trans (hlen sig h)) hstack hW (by rw [hb]; exact hdg)
    (fun vm₁ hW₁ => ⟨hf.1, hf.2, hPc (T.setVm vm₁) hT hW₁⟩) with ⟨v, vm₁, ⟨U', l2, c2, s2⟩, hW₁, X', ⟨g', mk, t, L, e1, e2, hq, h1, hL, h2, h3⟩, st⟩ | ⟨q, vm₁, ⟨U', l2, c2, s2⟩, hW₁, X', ⟨g', mk, t, L, E, ce, e1, e2, hq, hce, hcv, hcl, h1, hL, h2, h3⟩, st⟩
  · dsimp only [Pt.U, Pt.locs, Pt.cells, Pt.slots] at X' e1 e2 h1 h2 h3 st
    subst h1; subst h2; subst h3
    exact Or.inl ⟨v, (T.setVm vm₁).calling g' mk (Value.ref b :: As).toArray, t, U', L, hT, X', hL, e1, e2, hq, st⟩
  · dsimp only [Pt.U, Pt.locs, Pt.cells, Pt.slots] at X' e1 e2 h1 h2 h3 st hcl
    subst h1; subst h2; subst h3
    exact Or.inr ⟨q, (T.setVm vm₁).calling g' mk (Value.ref b :: As).toArray, t, U', L, E, ce, hT, X', hL, e1, e2, hq, hce, hcv, vx_cls hW₁ hcl, st⟩
theorem vx_runSX {hh : List (Nat × Nat × Nat × Nat)} (S : CallFix p m c cc nL s args Ts own) (hM : vx_Met l y ws rm Pc Qc XC mc ms free) (cw : vx_CSW R s args own index y bytes maxL ret hh ws rm mc ms n) (hp : PreS s H Pc As)
    (hg : g.method = m) (hn : As.length = n) (hsize : g.locals.size = nL) (hstack : g.stack = As.reverse ++ rest) (hW : 2 * g.monitorRoom + (rest.map fun v => v.category).sum ≤ 8) (hdg : decode cc g.pc = .ok (.invokestatic index, 3)) (hf : cells + mc ≤ R.cells ∧ slots + ms ≤ R.slots) :
    vx_Run p l e R s m args below meth c H locs cells slots mc ms g rest (Qc As.toArray) XC free := by
  obtain ⟨⟨hrc, hrs, hfr, hlo, hws, hcw⟩, hcode, hini, hy, hlen, hl, hstt⟩ := cw
  have hK : vx_Back l R p e below s args y 3 8 (PreOf R mc ms Pc) (PostOf Qc mc ms free) (vx_Post XC mc ms free) := vx_backW (hh := hh) (bytes := bytes) (maxL := maxL) (ret := ret) hM hp.1 hrc hrs hfr hlo hws hcw (fun a' U hW => word_at hW (Or.inl (by first | rfl | simp [Cond.onTables, Cond.keeps, Cond.steady])) hini)
  obtain ⟨hx, hb, hml, ho, -⟩ := S
  intro T hT X
  rcases vx_callSX X hx (hh := hh) (bytes := bytes) (maxL := maxL) (ret := ret) ho hl hstt hini hcode hy hK hg (hsize.trans hml.symm) (argsL := As) (rest := rest) (fun sig h => hn.trans (hlen sig h)) hstack hW (by rw [hb]; exact hdg)
    (fun vm₁ hW₁ => ⟨hf.1, hf.2, hp.2 (T.setVm vm₁) hT hW₁⟩) with ⟨v, vm₁, ⟨U', l2, c2, s2⟩, hW₁, X', ⟨g', mk, t, L, e1, e2, hq, h1, hL, h2, h3⟩, st⟩ | ⟨q, vm₁, ⟨U', l2, c2, s2⟩, hW₁, X', ⟨g', mk, t, L, E, ce, e1, e2, hq, hce, hcv, hcl, h1, hL, h2, h3⟩, st⟩
  · dsimp only [Pt.U, Pt.locs, Pt.cells, Pt.slots] at X' e1 e2 h1 h2 h3 st
    subst h1; subst h2; subst h3
    exact Or.inl ⟨v, (T.setVm vm₁).calling g' mk As.toArray, t, U', L, hT, X', hL, e1, e2, hq, st⟩
  · dsimp only [Pt.U, Pt.locs, Pt.cells, Pt.slots] at X' e1 e2 h1 h2 h3 st hcl
    subst h1; subst h2; subst h3
    exact Or.inr ⟨q, (T.setVm vm₁).calling g' mk As.toArray, t, U', L, E, ce, hT, X', hL, e1, e2, hq, hce, hcv, vx_cls hW₁ hcl, st⟩
end
end VXH
theorem vx_ofWH {l : Launch} {y : MethodName} {ws ws' : List Cond} {rm : Room} {Pc : Array Value → State → Prop} {Qc : Array Value → State → Outcome → State → Prop} {XC : String → State → State → Prop} {mc ms : Nat} {free : Addr → Prop} {cc : ByteArray} {maxL : Nat} {ret : Option FieldType} {hh : List (Nat × Nat × Nat × Nat)}
    (hy : plainName y.cls = true) (hw : ws = Cond.codeWith y cc maxL ret hh :: ws')
    (body : ∀ p e s m args below meth c s₁, BodyLoose p l y (headSpec ws rm) cc maxL ret e s m args below meth c s₁ → c.maxLocals = maxL → Pc args s →
      W p l e (headSpec ws rm).room s m args below meth c s.heap [] 0 0 (vx_MQ below Qc XC args s mc ms free) (entryFrame m args maxL)) : vx_Met l y ws rm Pc Qc XC mc ms free := by
  refine MetFree.of_bodyS (code := cc) (maxLocals := maxL) (ret := ret) hy ?_ ?_
  · intro args s m h hn
    obtain ⟨m9, meth, c, hn9, h1, h2, h3, h4, -, h5, h6, -⟩ := Cond.codeWith_spec (atoms_spec (ws := ws) h _ (by rw [hw]; exact List.mem_cons_self))
    cases hn.symm.trans hn9
    exact ⟨meth, c, h1, h2, h3, h4, h5, h6⟩
  · intro p e s m args below meth c s₁ B hml hP _
    have hh0 : s₁.heap = s.heap := by rw [B.state]; rfl
    obtain ⟨t, a1, o, b1, b2, b3⟩ := body p e s m args below meth c s₁ B hml hP s₁ hh0 (Stand.of_body B)
    exact ⟨t, o, a1, b1, b2, b3⟩
/-! ===== END ===== -/
end
section
/-! ===== BEGIN printed: names, fields, word lists, decode rows ===== -/
def RX0 : String := "CertificateSums$Equations"
def TX0 : u_T := fun k => match k with
  | 0 => ("CertificateSums$Equations", "columns", "[LCertificateSums$Polynomial;", true)
  | 1 => ("CertificateSums$Equations", "target", "LCertificateSums$Polynomial;", true)
  | 2 => ("CertificateSums$Equations", "growing", "LCertificateSums$Polynomial;", true)
  | 3 => ("CertificateSums$Equations", "staying", "LCertificateSums$Polynomial;", true)
  | 4 => ("CertificateSums$Equations", "movedBase", "LCertificateSums$Polynomial;", true)
  | 5 => ("CertificateSums$Equations", "work", "LCertificateSums$Polynomial;", true)
  | 6 => ("CertificateSums$Equations", "equationOf", "[I", true)
  | _ => ("CertificateSums$Equations", "taken", "[Z", true)
def tyX0 : Nat → FieldType := fun k => match k with
  | 0 => .array (.object "CertificateSums$Polynomial")
  | 1 => .object "CertificateSums$Polynomial"
  | 2 => .object "CertificateSums$Polynomial"
  | 3 => .object "CertificateSums$Polynomial"
  | 4 => .object "CertificateSums$Polynomial"
  | 5 => .object "CertificateSums$Polynomial"
  | 6 => .array .int
  | _ => .array .boolean
abbrev wsX00 : List Cond := u_ws RX0 TX0 8
theorem nmX0 : ∀ a, a < 8 → ∀ b, b < 8 → a ≠ b → (TX0 a).2.1 ≠ (TX0 b).2.1 := by decide +kernel
theorem tyX0_ok : ∀ k, k < 8 → parseFieldDescriptor (TX0 k).2.2.1 = some (tyX0 k) := by decide +kernel
abbrev cX0_init : ByteArray := prog_2_method_1_code
def yX0_init : MethodName := ⟨RX0, "<init>", "()V"⟩
abbrev cX0_set : ByteArray := prog_2_method_2_code
def yX0_set : MethodName := ⟨RX0, "set", "(LCertificateSums$Fraction;LCertificateSums$Polynomial;LCertificateSums$Polynomial;LCertificateSums$Polynomial;)V"⟩
abbrev cX0_eliminate : ByteArray := prog_2_method_3_code
def yX0_eliminate : MethodName := ⟨RX0, "eliminate", "()V"⟩
abbrev cX0_firstUntaken : ByteArray := prog_2_method_4_code
def yX0_firstUntaken : MethodName := ⟨RX0, "firstUntaken", "(LCertificateSums$Polynomial;)I"⟩
abbrev cX0_solveFor : ByteArray := prog_2_method_5_code
def yX0_solveFor : MethodName := ⟨RX0, "solveFor", "(II)V"⟩
abbrev cX0_putInto : ByteArray := prog_2_method_6_code
def yX0_putInto : MethodName := ⟨RX0, "putInto", "(LCertificateSums$Polynomial;LCertificateSums$Polynomial;II)V"⟩
abbrev cX0_areSolvable : ByteArray := prog_2_method_7_code
def yX0_areSolvable : MethodName := ⟨RX0, "areSolvable", "()Z"⟩
abbrev cX0_writeSolution : ByteArray := prog_2_method_8_code
def yX0_writeSolution : MethodName := ⟨RX0, "writeSolution", "(LCertificateSums$Polynomial;)V"⟩
abbrev cX0_freeUpTo : ByteArray := prog_2_method_9_code
def yX0_freeUpTo : MethodName := ⟨RX0, "freeUpTo", "(I)I"⟩
def RX1 : String := "CertificateSums$Fraction"
def TX1 : u_T := fun k => match k with
  | 0 => ("CertificateSums$Fraction", "top", "LCertificateSums$Polynomial;", true)
  | _ => ("CertificateSums$Fraction", "bottom", "LCertificateSums$Polynomial;", true)
def tyX1 : Nat → FieldType := fun k => match k with
  | 0 => .object "CertificateSums$Polynomial"
  | _ => .object "CertificateSums$Polynomial"
abbrev wsX10 : List Cond := u_ws RX1 TX1 2
theorem nmX1 : ∀ a, a < 2 → ∀ b, b < 2 → a ≠ b → (TX1 a).2.1 ≠ (TX1 b).2.1 := by decide +kernel
theorem tyX1_ok : ∀ k, k < 2 → parseFieldDescriptor (TX1 k).2.2.1 = some (tyX1 k) := by decide +kernel
abbrev cX1_init : ByteArray := prog_3_method_1_code
def yX1_init : MethodName := ⟨RX1, "<init>", "(LCertificateSums$Polynomial;LCertificateSums$Polynomial;)V"⟩
abbrev cX1_part : ByteArray := prog_3_method_2_code
def yX1_part : MethodName := ⟨RX1, "part", "(Z)LCertificateSums$Polynomial;"⟩
def RX2 : String := "CertificateSums$Numbers"
def TX2 : u_T := fun k => match k with
  | _ => ("", "", "", false)
def tyX2 : Nat → FieldType := fun k => match k with
  | _ => .int
abbrev wsX20 : List Cond := u_ws RX2 TX2 0
theorem nmX2 : ∀ a, a < 0 → ∀ b, b < 0 → a ≠ b → (TX2 a).2.1 ≠ (TX2 b).2.1 := by decide +kernel
theorem tyX2_ok : ∀ k, k < 0 → parseFieldDescriptor (TX2 k).2.2.1 = some (tyX2 k) := by decide +kernel
abbrev cX2_reduced : ByteArray := prog_4_method_2_code
def yX2_reduced : MethodName := ⟨RX2, "reduced", "(J)I"⟩
abbrev cX2_product : ByteArray := prog_4_method_3_code
def yX2_product : MethodName := ⟨RX2, "product", "(II)I"⟩
abbrev cX2_inverse : ByteArray := prog_4_method_4_code
def yX2_inverse : MethodName := ⟨RX2, "inverse", "(I)I"⟩
def RX3 : String := "CertificateSums$Polynomial"
def TX3 : u_T := fun k => match k with
  | 0 => ("CertificateSums$Polynomial", "row", "[I", true)
  | _ => ("CertificateSums$Polynomial", "highest", "I", false)
def tyX3 : Nat → FieldType := fun k => match k with
  | 0 => .array .int
  | _ => .int
abbrev wsX30 : List Cond := u_ws RX3 TX3 2
theorem nmX3 : ∀ a, a < 2 → ∀ b, b < 2 → a ≠ b → (TX3 a).2.1 ≠ (TX3 b).2.1 := by decide +kernel
theorem tyX3_ok : ∀ k, k < 2 → parseFieldDescriptor (TX3 k).2.2.1 = some (tyX3 k) := by decide +kernel
abbrev cX3_init : ByteArray := prog_5_method_1_code
def yX3_init : MethodName := ⟨RX3, "<init>", "(I)V"⟩
abbrev cX3_init_ : ByteArray := prog_5_method_2_code
def yX3_init_ : MethodName := ⟨RX3, "<init>", "(LCertificateSums$Polynomial;)V"⟩
abbrev cX3_isZero : ByteArray := prog_5_method_3_code
def yX3_isZero : MethodName := ⟨RX3, "isZero", "()Z"⟩
abbrev cX3_coefficient : ByteArray := prog_5_method_4_code
def yX3_coefficient : MethodName := ⟨RX3, "coefficient", "(I)I"⟩
abbrev cX3_leading : ByteArray := prog_5_method_5_code
def yX3_leading : MethodName := ⟨RX3, "leading", "()I"⟩
abbrev cX3_put : ByteArray := prog_5_method_6_code
def yX3_put : MethodName := ⟨RX3, "put", "(II)V"⟩
abbrev cX3_clear : ByteArray := prog_5_method_7_code
def yX3_clear : MethodName := ⟨RX3, "clear", "()V"⟩
abbrev cX3_copy : ByteArray := prog_5_method_8_code
def yX3_copy : MethodName := ⟨RX3, "copy", "(LCertificateSums$Polynomial;)V"⟩
abbrev cX3_setProduct : ByteArray := prog_5_method_9_code
def yX3_setProduct : MethodName := ⟨RX3, "setProduct", "(LCertificateSums$Polynomial;LCertificateSums$Polynomial;)V"⟩
abbrev cX3_gather : ByteArray := prog_5_method_10_code
def yX3_gather : MethodName := ⟨RX3, "gather", "(LCertificateSums$Polynomial;II)V"⟩
abbrev cX3_scale : ByteArray := prog_5_method_11_code
def yX3_scale : MethodName := ⟨RX3, "scale", "(I)V"⟩
abbrev cX3_multiplyByLinear : ByteArray := prog_5_method_12_code
def yX3_multiplyByLinear : MethodName := ⟨RX3, "multiplyByLinear", "(I)V"⟩
abbrev cX3_moveByOne : ByteArray := prog_5_method_13_code
def yX3_moveByOne : MethodName := ⟨RX3, "moveByOne", "()V"⟩
abbrev cX3_divide : ByteArray := prog_5_method_14_code
def yX3_divide : MethodName := ⟨RX3, "divide", "(LCertificateSums$Polynomial;LCertificateSums$Polynomial;)V"⟩
abbrev cX3_evaluate : ByteArray := prog_5_method_15_code
def yX3_evaluate : MethodName := ⟨RX3, "evaluate", "(I)I"⟩
abbrev cX3_matches : ByteArray := prog_5_method_16_code
def yX3_matches : MethodName := ⟨RX3, "matches", "(LCertificateSums$Polynomial;)Z"⟩
def RX4 : String := "CertificateSums"
def TX4 : u_T := fun k => match k with
  | 0 => ("CertificateSums", "ratioTop", "LCertificateSums$Polynomial;", true)
  | 1 => ("CertificateSums", "ratioBottom", "LCertificateSums$Polynomial;", true)
  | 2 => ("CertificateSums", "functions", "[LCertificateSums$Fraction;", true)
  | 3 => ("CertificateSums", "made", "I", false)
  | 4 => ("CertificateSums", "top", "LCertificateSums$Polynomial;", true)
  | 5 => ("CertificateSums", "bottom", "LCertificateSums$Polynomial;", true)
  | 6 => ("CertificateSums", "left", "LCertificateSums$Polynomial;", true)
  | 7 => ("CertificateSums", "right", "LCertificateSums$Polynomial;", true)
  | 8 => ("CertificateSums", "quotient", "LCertificateSums$Polynomial;", true)
  | _ => ("CertificateSums", "equations", "LCertificateSums$Equations;", true)
def tyX4 : Nat → FieldType := fun k => match k with
  | 0 => .object "CertificateSums$Polynomial"
  | 1 => .object "CertificateSums$Polynomial"
  | 2 => .array (.object "CertificateSums$Fraction")
  | 3 => .int
  | 4 => .object "CertificateSums$Polynomial"
  | 5 => .object "CertificateSums$Polynomial"
  | 6 => .object "CertificateSums$Polynomial"
  | 7 => .object "CertificateSums$Polynomial"
  | 8 => .object "CertificateSums$Polynomial"
  | _ => .object "CertificateSums$Equations"
abbrev wsX40 : List Cond := u_ws RX4 TX4 10
theorem nmX4 : ∀ a, a < 10 → ∀ b, b < 10 → a ≠ b → (TX4 a).2.1 ≠ (TX4 b).2.1 := by decide +kernel
theorem tyX4_ok : ∀ k, k < 10 → parseFieldDescriptor (TX4 k).2.2.1 = some (tyX4 k) := by decide +kernel
abbrev cX4_init : ByteArray := prog_1_method_1_code
def yX4_init : MethodName := ⟨RX4, "<init>", "()V"⟩
abbrev cX4_ratio : ByteArray := prog_1_method_2_code
def yX4_ratio : MethodName := ⟨RX4, "ratio", "(ZIJ)Z"⟩
abbrev cX4_number : ByteArray := prog_1_method_3_code
def yX4_number : MethodName := ⟨RX4, "number", "(J)I"⟩
abbrev cX4_letter : ByteArray := prog_1_method_4_code
def yX4_letter : MethodName := ⟨RX4, "letter", "()I"⟩
abbrev cX4_add : ByteArray := prog_1_method_5_code
def yX4_add : MethodName := ⟨RX4, "add", "(II)I"⟩
abbrev cX4_times : ByteArray := prog_1_method_6_code
def yX4_times : MethodName := ⟨RX4, "times", "(II)I"⟩
abbrev cX4_over : ByteArray := prog_1_method_7_code
def yX4_over : MethodName := ⟨RX4, "over", "(II)I"⟩
abbrev cX4_moved : ByteArray := prog_1_method_8_code
def yX4_moved : MethodName := ⟨RX4, "moved", "(I)I"⟩
abbrev cX4_step : ByteArray := prog_1_method_9_code
def yX4_step : MethodName := ⟨RX4, "step", "(I)I"⟩
abbrev cX4_proves : ByteArray := prog_1_method_10_code
def yX4_proves : MethodName := ⟨RX4, "proves", "(II)Z"⟩
abbrev cX4_find : ByteArray := prog_1_method_11_code
def yX4_find : MethodName := ⟨RX4, "find", "(III)I"⟩
abbrev cX4_least : ByteArray := prog_1_method_12_code
def yX4_least : MethodName := ⟨RX4, "least", "(II)I"⟩
abbrev cX4_free : ByteArray := prog_1_method_13_code
def yX4_free : MethodName := ⟨RX4, "free", "(II)I"⟩
abbrev cX4_degree : ByteArray := prog_1_method_14_code
def yX4_degree : MethodName := ⟨RX4, "degree", "(IZ)I"⟩
abbrev cX4_at : ByteArray := prog_1_method_15_code
def yX4_at : MethodName := ⟨RX4, "at", "(IZI)I"⟩
abbrev cX4_value : ByteArray := prog_1_method_16_code
def yX4_value : MethodName := ⟨RX4, "value", "(IJ)I"⟩
abbrev cX4_same : ByteArray := prog_1_method_17_code
def yX4_same : MethodName := ⟨RX4, "same", "(II)Z"⟩
abbrev cX4_count : ByteArray := prog_1_method_18_code
def yX4_count : MethodName := ⟨RX4, "count", "()I"⟩
abbrev cX4_known : ByteArray := prog_1_method_19_code
def yX4_known : MethodName := ⟨RX4, "known", "(I)LCertificateSums$Fraction;"⟩
abbrev cX4_refuseWhenFull : ByteArray := prog_1_method_20_code
def yX4_refuseWhenFull : MethodName := ⟨RX4, "refuseWhenFull", "()V"⟩
abbrev cX4_refuseZeroRatioBottom : ByteArray := prog_1_method_21_code
def yX4_refuseZeroRatioBottom : MethodName := ⟨RX4, "refuseZeroRatioBottom", "()V"⟩
abbrev cX4_refuseZeroDivisors : ByteArray := prog_1_method_22_code
def yX4_refuseZeroDivisors : MethodName := ⟨RX4, "refuseZeroDivisors", "(LCertificateSums$Fraction;)V"⟩
abbrev cX4_refuseWrongBound : ByteArray := prog_1_method_23_code
def yX4_refuseWrongBound : MethodName := ⟨RX4, "refuseWrongBound", "(I)V"⟩
abbrev cX4_setToStep : ByteArray := prog_1_method_24_code
def yX4_setToStep : MethodName := ⟨RX4, "setToStep", "(LCertificateSums$Fraction;)V"⟩
abbrev cX4_findPlain : ByteArray := prog_1_method_25_code
def yX4_findPlain : MethodName := ⟨RX4, "findPlain", "(LCertificateSums$Fraction;LCertificateSums$Fraction;)Z"⟩
abbrev cX4_keepResult : ByteArray := prog_1_method_26_code
def yX4_keepResult : MethodName := ⟨RX4, "keepResult", "()I"⟩
abbrev cX4_toLowestTerms : ByteArray := prog_1_method_27_code
def yX4_toLowestTerms : MethodName := ⟨RX4, "toLowestTerms", "()V"⟩
abbrev cX4_greatestDivisor : ByteArray := prog_1_method_28_code
def yX4_greatestDivisor : MethodName := ⟨RX4, "greatestDivisor", "(LCertificateSums$Polynomial;LCertificateSums$Polynomial;LCertificateSums$Polynomial;)LCertificateSums$Polynomial;"⟩
def RX5 : String := "CertificateSumsModel"
def TX5 : u_T := fun k => match k with
  | 0 => ("CertificateSumsModel", "code", "I", false)
  | 1 => ("CertificateSumsModel", "many", "I", false)
  | 2 => ("CertificateSumsModel", "tops", "[I", true)
  | 3 => ("CertificateSumsModel", "bottoms", "[I", true)
  | 4 => ("CertificateSumsModel", "ratioTop", "[I", true)
  | 5 => ("CertificateSumsModel", "ratioBottom", "[I", true)
  | 6 => ("CertificateSumsModel", "a", "[J", true)
  | 7 => ("CertificateSumsModel", "b", "[J", true)
  | 8 => ("CertificateSumsModel", "c", "[J", true)
  | 9 => ("CertificateSumsModel", "d", "[J", true)
  | 10 => ("CertificateSumsModel", "e", "[J", true)
  | 11 => ("CertificateSumsModel", "x", "[J", true)
  | 12 => ("CertificateSumsModel", "y", "[J", true)
  | 13 => ("CertificateSumsModel", "quotient", "[J", true)
  | 14 => ("CertificateSumsModel", "table", "[J", true)
  | 15 => ("CertificateSumsModel", "row", "[I", true)
  | 16 => ("CertificateSumsModel", "q1", "[J", true)
  | 17 => ("CertificateSumsModel", "q2", "[J", true)
  | 18 => ("CertificateSumsModel", "q3", "[J", true)
  | _ => ("CertificateSumsModel", "meets", "Z", false)
def tyX5 : Nat → FieldType := fun k => match k with
  | 0 => .int
  | 1 => .int
  | 2 => .array .int
  | 3 => .array .int
  | 4 => .array .int
  | 5 => .array .int
  | 6 => .array .long
  | 7 => .array .long
  | 8 => .array .long
  | 9 => .array .long
  | 10 => .array .long
  | 11 => .array .long
  | 12 => .array .long
  | 13 => .array .long
  | 14 => .array .long
  | 15 => .array .int
  | 16 => .array .long
  | 17 => .array .long
  | 18 => .array .long
  | _ => .boolean
abbrev wsX50 : List Cond := u_ws RX5 TX5 20
theorem nmX5 : ∀ a, a < 20 → ∀ b, b < 20 → a ≠ b → (TX5 a).2.1 ≠ (TX5 b).2.1 := by decide +kernel
theorem tyX5_ok : ∀ k, k < 20 → parseFieldDescriptor (TX5 k).2.2.1 = some (tyX5 k) := by decide +kernel
abbrev cX5_init : ByteArray := prog_7_method_1_code
def yX5_init : MethodName := ⟨RX5, "<init>", "()V"⟩
abbrev cX5_thrown : ByteArray := prog_7_method_2_code
def yX5_thrown : MethodName := ⟨RX5, "thrown", "()I"⟩
abbrev cX5_raise : ByteArray := prog_7_method_3_code
def yX5_raise : MethodName := ⟨RX5, "raise", "(I)I"⟩
abbrev cX5_in : ByteArray := prog_7_method_4_code
def yX5_in : MethodName := ⟨RX5, "in", "(JJJ)Z"⟩
abbrev cX5_modulo : ByteArray := prog_7_method_5_code
def yX5_modulo : MethodName := ⟨RX5, "modulo", "(J)J"⟩
abbrev cX5_inverse : ByteArray := prog_7_method_6_code
def yX5_inverse : MethodName := ⟨RX5, "inverse", "(J)J"⟩
abbrev cX5_empty : ByteArray := prog_7_method_7_code
def yX5_empty : MethodName := ⟨RX5, "empty", "([J)V"⟩
abbrev cX5_copy : ByteArray := prog_7_method_8_code
def yX5_copy : MethodName := ⟨RX5, "copy", "([J[J)V"⟩
abbrev cX5_high : ByteArray := prog_7_method_9_code
def yX5_high : MethodName := ⟨RX5, "high", "([J)I"⟩
abbrev cX5_load : ByteArray := prog_7_method_10_code
def yX5_load : MethodName := ⟨RX5, "load", "([J[III)V"⟩
abbrev cX5_multiply : ByteArray := prog_7_method_11_code
def yX5_multiply : MethodName := ⟨RX5, "multiply", "([J[J)V"⟩
abbrev cX5_divide : ByteArray := prog_7_method_12_code
def yX5_divide : MethodName := ⟨RX5, "divide", "([J[J)V"⟩
abbrev cX5_move : ByteArray := prog_7_method_13_code
def yX5_move : MethodName := ⟨RX5, "move", "([J)V"⟩
abbrev cX5_lowest : ByteArray := prog_7_method_14_code
def yX5_lowest : MethodName := ⟨RX5, "lowest", "()V"⟩
abbrev cX5_isThere : ByteArray := prog_7_method_15_code
def yX5_isThere : MethodName := ⟨RX5, "isThere", "(I)Z"⟩
abbrev cX5_keep : ByteArray := prog_7_method_16_code
def yX5_keep : MethodName := ⟨RX5, "keep", "(I)I"⟩
abbrev cX5_loadTop : ByteArray := prog_7_method_17_code
def yX5_loadTop : MethodName := ⟨RX5, "loadTop", "([JI)V"⟩
abbrev cX5_loadBottom : ByteArray := prog_7_method_18_code
def yX5_loadBottom : MethodName := ⟨RX5, "loadBottom", "([JI)V"⟩
abbrev cX5_ratio : ByteArray := prog_7_method_19_code
def yX5_ratio : MethodName := ⟨RX5, "ratio", "(ZIJ)Z"⟩
abbrev cX5_isNoRatio : ByteArray := prog_7_method_20_code
def yX5_isNoRatio : MethodName := ⟨RX5, "isNoRatio", "()Z"⟩
abbrev cX5_number : ByteArray := prog_7_method_21_code
def yX5_number : MethodName := ⟨RX5, "number", "(J)I"⟩
abbrev cX5_letter : ByteArray := prog_7_method_22_code
def yX5_letter : MethodName := ⟨RX5, "letter", "()I"⟩
abbrev cX5_are : ByteArray := prog_7_method_23_code
def yX5_are : MethodName := ⟨RX5, "are", "(II)Z"⟩
abbrev cX5_add : ByteArray := prog_7_method_24_code
def yX5_add : MethodName := ⟨RX5, "add", "(II)I"⟩
abbrev cX5_sum : ByteArray := prog_7_method_25_code
def yX5_sum : MethodName := ⟨RX5, "sum", "(II)V"⟩
abbrev cX5_times : ByteArray := prog_7_method_26_code
def yX5_times : MethodName := ⟨RX5, "times", "(II)I"⟩
abbrev cX5_over : ByteArray := prog_7_method_27_code
def yX5_over : MethodName := ⟨RX5, "over", "(II)I"⟩
abbrev cX5_moved : ByteArray := prog_7_method_28_code
def yX5_moved : MethodName := ⟨RX5, "moved", "(I)I"⟩
abbrev cX5_makeStep : ByteArray := prog_7_method_29_code
def yX5_makeStep : MethodName := ⟨RX5, "makeStep", "()V"⟩
abbrev cX5_step : ByteArray := prog_7_method_30_code
def yX5_step : MethodName := ⟨RX5, "step", "(I)I"⟩
abbrev cX5_proves : ByteArray := prog_7_method_31_code
def yX5_proves : MethodName := ⟨RX5, "proves", "(II)Z"⟩
abbrev cX5_fill : ByteArray := prog_7_method_32_code
def yX5_fill : MethodName := ⟨RX5, "fill", "(II)V"⟩
abbrev cX5_clear : ByteArray := prog_7_method_33_code
def yX5_clear : MethodName := ⟨RX5, "clear", "(I)I"⟩
abbrev cX5_mayBe : ByteArray := prog_7_method_34_code
def yX5_mayBe : MethodName := ⟨RX5, "mayBe", "(II)Z"⟩
abbrev cX5_find : ByteArray := prog_7_method_35_code
def yX5_find : MethodName := ⟨RX5, "find", "(III)I"⟩
abbrev cX5_least : ByteArray := prog_7_method_36_code
def yX5_least : MethodName := ⟨RX5, "least", "(II)I"⟩
abbrev cX5_free : ByteArray := prog_7_method_37_code
def yX5_free : MethodName := ⟨RX5, "free", "(II)I"⟩
abbrev cX5_loadPart : ByteArray := prog_7_method_38_code
def yX5_loadPart : MethodName := ⟨RX5, "loadPart", "(IZ)V"⟩
abbrev cX5_degree : ByteArray := prog_7_method_39_code
def yX5_degree : MethodName := ⟨RX5, "degree", "(IZ)I"⟩
abbrev cX5_at : ByteArray := prog_7_method_40_code
def yX5_at : MethodName := ⟨RX5, "at", "(IZI)I"⟩
abbrev cX5_valueAt : ByteArray := prog_7_method_41_code
def yX5_valueAt : MethodName := ⟨RX5, "valueAt", "([JJ)J"⟩
abbrev cX5_value : ByteArray := prog_7_method_42_code
def yX5_value : MethodName := ⟨RX5, "value", "(IJ)I"⟩
abbrev cX5_same : ByteArray := prog_7_method_43_code
def yX5_same : MethodName := ⟨RX5, "same", "(II)Z"⟩
abbrev cX5_count : ByteArray := prog_7_method_44_code
def yX5_count : MethodName := ⟨RX5, "count", "()I"⟩
def RJ9 : String := "java/lang/Math"
def TJ9 : u_T := fun k => match k with
  | _ => ("", "", "", false)
def tyJ9 : Nat → FieldType := fun k => match k with
  | _ => .int
abbrev wsJ90 : List Cond := u_ws RJ9 TJ9 0
theorem nmJ9 : ∀ a, a < 0 → ∀ b, b < 0 → a ≠ b → (TJ9 a).2.1 ≠ (TJ9 b).2.1 := by decide +kernel
theorem tyJ9_ok : ∀ k, k < 0 → parseFieldDescriptor (TJ9 k).2.2.1 = some (tyJ9 k) := by decide +kernel
abbrev cJ9_max_7cf53 : ByteArray := prog_13_method_65_code
def yJ9_max_7cf53 : MethodName := ⟨RJ9, "max", "(II)I"⟩
abbrev cJ9_min_7cf53 : ByteArray := prog_13_method_69_code
def yJ9_min_7cf53 : MethodName := ⟨RJ9, "min", "(II)I"⟩
def RJ0 : String := "java/lang/String"
def TJ0 : u_T := fun k => match k with
  | _ => ("", "", "", false)
def tyJ0 : Nat → FieldType := fun k => match k with
  | _ => .int
abbrev wsJ00 : List Cond := u_ws RJ0 TJ0 0
theorem nmJ0 : ∀ a, a < 0 → ∀ b, b < 0 → a ≠ b → (TJ0 a).2.1 ≠ (TJ0 b).2.1 := by decide +kernel
theorem tyJ0_ok : ∀ k, k < 0 → parseFieldDescriptor (TJ0 k).2.2.1 = some (tyJ0 k) := by decide +kernel
def RL : String := "CertificateSumsLaw"
abbrev cL_ratio : ByteArray := method_3_code
def yL_ratio : MethodName := ⟨RL, "ratio", "(LCertificateSums;ZIJ[J)I"⟩
abbrev cL_number : ByteArray := method_4_code
def yL_number : MethodName := ⟨RL, "number", "(LCertificateSums;J[J)I"⟩
abbrev cL_letter : ByteArray := method_5_code
def yL_letter : MethodName := ⟨RL, "letter", "(LCertificateSums;[J)I"⟩
abbrev cL_add : ByteArray := method_6_code
def yL_add : MethodName := ⟨RL, "add", "(LCertificateSums;II[J)I"⟩
abbrev cL_times : ByteArray := method_7_code
def yL_times : MethodName := ⟨RL, "times", "(LCertificateSums;II[J)I"⟩
abbrev cL_over : ByteArray := method_8_code
def yL_over : MethodName := ⟨RL, "over", "(LCertificateSums;II[J)I"⟩
abbrev cL_moved : ByteArray := method_9_code
def yL_moved : MethodName := ⟨RL, "moved", "(LCertificateSums;I[J)I"⟩
abbrev cL_step : ByteArray := method_10_code
def yL_step : MethodName := ⟨RL, "step", "(LCertificateSums;I[J)I"⟩
abbrev cL_proves : ByteArray := method_11_code
def yL_proves : MethodName := ⟨RL, "proves", "(LCertificateSums;II[J)I"⟩
abbrev cL_find : ByteArray := method_12_code
def yL_find : MethodName := ⟨RL, "find", "(LCertificateSums;III[J)I"⟩
abbrev cL_least : ByteArray := method_13_code
def yL_least : MethodName := ⟨RL, "least", "(LCertificateSums;II[J)I"⟩
abbrev cL_free : ByteArray := method_14_code
def yL_free : MethodName := ⟨RL, "free", "(LCertificateSums;II[J)I"⟩
abbrev cL_degree : ByteArray := method_15_code
def yL_degree : MethodName := ⟨RL, "degree", "(LCertificateSums;IZ[J)I"⟩
abbrev cL_at : ByteArray := method_16_code
def yL_at : MethodName := ⟨RL, "at", "(LCertificateSums;IZI[J)I"⟩
abbrev cL_value : ByteArray := method_17_code
def yL_value : MethodName := ⟨RL, "value", "(LCertificateSums;IJ[J)I"⟩
abbrev cL_same : ByteArray := method_18_code
def yL_same : MethodName := ⟨RL, "same", "(LCertificateSums;II[J)I"⟩
abbrev cL_law : ByteArray := code
def yL_law : MethodName := ⟨RL, "law", "([I)Z"⟩
def wsX3_init : List Cond := .code yX3_init cX3_init 2 none :: ([.methodLink RX3 3 objectInit, .instanceMethod objectInit, .code objectInit ⟨#[0xb1]⟩ 1 none, .methodLink RX3 9 Lib.Math.max.name, .static Lib.Math.max.name, .initialized "java/lang/Math", .code Lib.Math.max.name Lib.Math.max.code 2 (some .int), .arrayClass .int, .fieldLink RX3 15 "CertificateSums$Polynomial" "row" "[I", .fieldLink RX3 21 "CertificateSums$Polynomial" "highest" "I"] ++ wsX30)
def wsX0_init_r1 : List Cond := [Cond.methodLink RX0 3 objectInit, Cond.instanceMethod objectInit, Cond.code objectInit ⟨#[0xb1]⟩ 1 none, Cond.classLink RX0 9 RX3, Cond.fieldLink RX0 11 "CertificateSums$Equations" "columns" "[LCertificateSums$Polynomial;", Cond.instantiable RX3 2, Cond.initialized RX3, Cond.fieldLink RX0 20 "CertificateSums$Equations" "target" "LCertificateSums$Polynomial;", Cond.fieldLink RX0 24 "CertificateSums$Equations" "growing" "LCertificateSums$Polynomial;", Cond.fieldLink RX0 27 "CertificateSums$Equations" "staying" "LCertificateSums$Polynomial;", Cond.fieldLink RX0 30 "CertificateSums$Equations" "movedBase" "LCertificateSums$Polynomial;", Cond.fieldLink RX0 33 "CertificateSums$Equations" "work" "LCertificateSums$Polynomial;", Cond.arrayClass .int, Cond.fieldLink RX0 36 "CertificateSums$Equations" "equationOf" "[I", Cond.arrayClass .boolean, Cond.fieldLink RX0 40 "CertificateSums$Equations" "taken" "[Z", Cond.methodLink RX0 17 yX3_init, Cond.instanceMethod yX3_init, Cond.code yX3_init cX3_init 2 none, Cond.methodLink RX3 3 objectInit, Cond.methodLink RX3 9 Lib.Math.max.name, Cond.static Lib.Math.max.name, Cond.initialized "java/lang/Math", Cond.code Lib.Math.max.name Lib.Math.max.code 2 (some .int)]
def wsX0_init_r2 : List Cond := [Cond.fieldLink RX3 15 "CertificateSums$Polynomial" "row" "[I", Cond.fieldLink RX3 21 "CertificateSums$Polynomial" "highest" "I"]
def wsX0_init : List Cond := .code yX0_init cX0_init 2 none :: ((wsX0_init_r1 ++ wsX0_init_r2) ++ wsX00 ++ wsX30)
def wsX3_put : List Cond := .code yX3_put cX3_put 4 none :: ([.fieldLink RX3 15 "CertificateSums$Polynomial" "row" "[I", .fieldLink RX3 21 "CertificateSums$Polynomial" "highest" "I"] ++ wsX30)
def wsX3_clear : List Cond := .code yX3_clear cX3_clear 2 none :: ([.fieldLink RX3 21 "CertificateSums$Polynomial" "highest" "I", .methodLink RX3 33 yX3_put, .instanceMethod yX3_put, .selects RX3 yX3_put yX3_put, .initialized RX3, .code yX3_put cX3_put 4 none, .fieldLink RX3 15 "CertificateSums$Polynomial" "row" "[I"] ++ wsX30)
def wsX3_coefficient : List Cond := .code yX3_coefficient cX3_coefficient 2 (some .int) :: ([.fieldLink RX3 15 "CertificateSums$Polynomial" "row" "[I"] ++ wsX30)
def wsX3_copy : List Cond := .code yX3_copy cX3_copy 3 none :: ([.fieldLink RX3 21 "CertificateSums$Polynomial" "highest" "I", .methodLink RX3 37 yX3_clear, .instanceMethod yX3_clear, .selects RX3 yX3_clear yX3_clear, .initialized RX3, .code yX3_clear cX3_clear 2 none, .methodLink RX3 33 yX3_put, .instanceMethod yX3_put, .selects RX3 yX3_put yX3_put, .code yX3_put cX3_put 4 none, .fieldLink RX3 15 "CertificateSums$Polynomial" "row" "[I", .methodLink RX3 29 yX3_coefficient, .instanceMethod yX3_coefficient, .selects RX3 yX3_coefficient yX3_coefficient, .code yX3_coefficient cX3_coefficient 2 (some .int)] ++ wsX30)
def wsX2_reduced : List Cond := .code yX2_reduced cX2_reduced 3 (some .int) :: ([.constantLong RX2 9 (32003)])
def wsX3_moveByOne : List Cond := .code yX3_moveByOne cX3_moveByOne 3 none :: ([.fieldLink RX3 21 "CertificateSums$Polynomial" "highest" "I", .methodLink RX3 29 yX3_coefficient, .instanceMethod yX3_coefficient, .selects RX3 yX3_coefficient yX3_coefficient, .initialized RX3, .code yX3_coefficient cX3_coefficient 2 (some .int), .fieldLink RX3 15 "CertificateSums$Polynomial" "row" "[I", .methodLink RX3 43 yX2_reduced, .static yX2_reduced, .initialized RX2, .code yX2_reduced cX2_reduced 3 (some .int), .constantLong RX2 9 (32003), .methodLink RX3 33 yX3_put, .instanceMethod yX3_put, .selects RX3 yX3_put yX3_put, .code yX3_put cX3_put 4 none] ++ wsX30)
def wsX3_setProduct_r1 : List Cond := [Cond.fieldLink RX3 21 "CertificateSums$Polynomial" "highest" "I", Cond.methodLink RX3 40 Lib.Math.min.name, Cond.static Lib.Math.min.name, Cond.initialized "java/lang/Math", Cond.code Lib.Math.min.name Lib.Math.min.code 2 (some .int), Cond.methodLink RX3 9 Lib.Math.max.name, Cond.static Lib.Math.max.name, Cond.code Lib.Math.max.name Lib.Math.max.code 2 (some .int), Cond.methodLink RX3 37 yX3_clear, Cond.instanceMethod yX3_clear, Cond.selects RX3 yX3_clear yX3_clear, Cond.initialized RX3, Cond.code yX3_clear cX3_clear 2 none, Cond.methodLink RX3 33 yX3_put, Cond.instanceMethod yX3_put, Cond.selects RX3 yX3_put yX3_put, Cond.code yX3_put cX3_put 4 none, Cond.fieldLink RX3 15 "CertificateSums$Polynomial" "row" "[I", Cond.methodLink RX3 29 yX3_coefficient, Cond.instanceMethod yX3_coefficient, Cond.selects RX3 yX3_coefficient yX3_coefficient, Cond.code yX3_coefficient cX3_coefficient 2 (some .int), Cond.methodLink RX3 43 yX2_reduced, Cond.static yX2_reduced]
def wsX3_setProduct_r2 : List Cond := [Cond.initialized RX2, Cond.code yX2_reduced cX2_reduced 3 (some .int), Cond.constantLong RX2 9 (32003)]
def wsX3_setProduct : List Cond := .code yX3_setProduct cX3_setProduct 8 none :: ((wsX3_setProduct_r1 ++ wsX3_setProduct_r2) ++ wsX30)
def wsX3_gather : List Cond := .code yX3_gather cX3_gather 7 none :: ([.fieldLink RX3 21 "CertificateSums$Polynomial" "highest" "I", .methodLink RX3 29 yX3_coefficient, .instanceMethod yX3_coefficient, .selects RX3 yX3_coefficient yX3_coefficient, .initialized RX3, .code yX3_coefficient cX3_coefficient 2 (some .int), .fieldLink RX3 15 "CertificateSums$Polynomial" "row" "[I", .methodLink RX3 43 yX2_reduced, .static yX2_reduced, .initialized RX2, .code yX2_reduced cX2_reduced 3 (some .int), .constantLong RX2 9 (32003), .methodLink RX3 33 yX3_put, .instanceMethod yX3_put, .selects RX3 yX3_put yX3_put, .code yX3_put cX3_put 4 none] ++ wsX30)
def wsX3_multiplyByLinear : List Cond := .code yX3_multiplyByLinear cX3_multiplyByLinear 5 none :: ([.fieldLink RX3 21 "CertificateSums$Polynomial" "highest" "I", .methodLink RX3 29 yX3_coefficient, .instanceMethod yX3_coefficient, .selects RX3 yX3_coefficient yX3_coefficient, .initialized RX3, .code yX3_coefficient cX3_coefficient 2 (some .int), .fieldLink RX3 15 "CertificateSums$Polynomial" "row" "[I", .methodLink RX3 43 yX2_reduced, .static yX2_reduced, .initialized RX2, .code yX2_reduced cX2_reduced 3 (some .int), .constantLong RX2 9 (32003), .methodLink RX3 33 yX3_put, .instanceMethod yX3_put, .selects RX3 yX3_put yX3_put, .code yX3_put cX3_put 4 none] ++ wsX30)
def wsX0_set_r1 : List Cond := [Cond.fieldLink RX0 30 "CertificateSums$Equations" "movedBase" "LCertificateSums$Polynomial;", Cond.fieldLink RX0 33 "CertificateSums$Equations" "work" "LCertificateSums$Polynomial;", Cond.fieldLink RX0 51 "CertificateSums$Fraction" "top" "LCertificateSums$Polynomial;", Cond.fieldLink RX0 24 "CertificateSums$Equations" "growing" "LCertificateSums$Polynomial;", Cond.fieldLink RX0 20 "CertificateSums$Equations" "target" "LCertificateSums$Polynomial;", Cond.fieldLink RX0 60 "CertificateSums$Fraction" "bottom" "LCertificateSums$Polynomial;", Cond.fieldLink RX0 27 "CertificateSums$Equations" "staying" "LCertificateSums$Polynomial;", Cond.fieldLink RX0 11 "CertificateSums$Equations" "columns" "[LCertificateSums$Polynomial;", Cond.methodLink RX0 44 yX3_copy, Cond.instanceMethod yX3_copy, Cond.selects RX3 yX3_copy yX3_copy, Cond.initialized RX3, Cond.code yX3_copy cX3_copy 3 none, Cond.fieldLink RX3 21 "CertificateSums$Polynomial" "highest" "I", Cond.methodLink RX3 37 yX3_clear, Cond.instanceMethod yX3_clear, Cond.selects RX3 yX3_clear yX3_clear, Cond.code yX3_clear cX3_clear 2 none, Cond.methodLink RX3 33 yX3_put, Cond.instanceMethod yX3_put, Cond.selects RX3 yX3_put yX3_put, Cond.code yX3_put cX3_put 4 none, Cond.fieldLink RX3 15 "CertificateSums$Polynomial" "row" "[I", Cond.methodLink RX3 29 yX3_coefficient]
def wsX0_set_r2 : List Cond := [Cond.instanceMethod yX3_coefficient, Cond.selects RX3 yX3_coefficient yX3_coefficient, Cond.code yX3_coefficient cX3_coefficient 2 (some .int), Cond.methodLink RX0 48 yX3_moveByOne, Cond.instanceMethod yX3_moveByOne, Cond.selects RX3 yX3_moveByOne yX3_moveByOne, Cond.code yX3_moveByOne cX3_moveByOne 3 none, Cond.methodLink RX3 43 yX2_reduced, Cond.static yX2_reduced, Cond.initialized RX2, Cond.code yX2_reduced cX2_reduced 3 (some .int), Cond.constantLong RX2 9 (32003), Cond.methodLink RX0 56 yX3_setProduct, Cond.instanceMethod yX3_setProduct, Cond.selects RX3 yX3_setProduct yX3_setProduct, Cond.code yX3_setProduct cX3_setProduct 8 none, Cond.methodLink RX3 40 Lib.Math.min.name, Cond.static Lib.Math.min.name, Cond.initialized "java/lang/Math", Cond.code Lib.Math.min.name Lib.Math.min.code 2 (some .int), Cond.methodLink RX3 9 Lib.Math.max.name, Cond.static Lib.Math.max.name, Cond.code Lib.Math.max.name Lib.Math.max.code 2 (some .int), Cond.methodLink RX0 63 yX3_gather]
def wsX0_set_r3 : List Cond := [Cond.instanceMethod yX3_gather, Cond.selects RX3 yX3_gather yX3_gather, Cond.code yX3_gather cX3_gather 7 none, Cond.methodLink RX0 67 yX3_multiplyByLinear, Cond.instanceMethod yX3_multiplyByLinear, Cond.selects RX3 yX3_multiplyByLinear yX3_multiplyByLinear, Cond.code yX3_multiplyByLinear cX3_multiplyByLinear 5 none]
def wsX0_set : List Cond := .code yX0_set cX0_set 6 none :: ((wsX0_set_r1 ++ (wsX0_set_r2 ++ wsX0_set_r3)) ++ wsX00 ++ wsX10 ++ wsX30)
def wsX0_firstUntaken : List Cond := .code yX0_firstUntaken cX0_firstUntaken 3 (some .int) :: ([.fieldLink RX0 40 "CertificateSums$Equations" "taken" "[Z", .methodLink RX0 78 yX3_coefficient, .instanceMethod yX3_coefficient, .selects RX3 yX3_coefficient yX3_coefficient, .initialized RX3, .code yX3_coefficient cX3_coefficient 2 (some .int), .fieldLink RX3 15 "CertificateSums$Polynomial" "row" "[I"] ++ wsX00 ++ wsX30)
def wsX2_inverse : List Cond := .code yX2_inverse cX2_inverse 4 (some .int) :: ([.methodLink RX2 11 yX2_reduced, .static yX2_reduced, .initialized RX2, .code yX2_reduced cX2_reduced 3 (some .int), .constantLong RX2 9 (32003)])
def wsX2_product : List Cond := .code yX2_product cX2_product 2 (some .int) :: ([.methodLink RX2 11 yX2_reduced, .static yX2_reduced, .initialized RX2, .code yX2_reduced cX2_reduced 3 (some .int), .constantLong RX2 9 (32003)])
def wsX0_putInto_r1 : List Cond := [Cond.methodLink RX0 78 yX3_coefficient, Cond.instanceMethod yX3_coefficient, Cond.selects RX3 yX3_coefficient yX3_coefficient, Cond.initialized RX3, Cond.code yX3_coefficient cX3_coefficient 2 (some .int), Cond.fieldLink RX3 15 "CertificateSums$Polynomial" "row" "[I", Cond.methodLink RX0 91 yX2_product, Cond.static yX2_product, Cond.initialized RX2, Cond.code yX2_product cX2_product 2 (some .int), Cond.methodLink RX2 11 yX2_reduced, Cond.static yX2_reduced, Cond.code yX2_reduced cX2_reduced 3 (some .int), Cond.constantLong RX2 9 (32003), Cond.methodLink RX0 63 yX3_gather, Cond.instanceMethod yX3_gather, Cond.selects RX3 yX3_gather yX3_gather, Cond.code yX3_gather cX3_gather 7 none, Cond.fieldLink RX3 21 "CertificateSums$Polynomial" "highest" "I", Cond.methodLink RX3 29 yX3_coefficient, Cond.methodLink RX3 43 yX2_reduced, Cond.methodLink RX3 33 yX3_put, Cond.instanceMethod yX3_put, Cond.selects RX3 yX3_put yX3_put]
def wsX0_putInto_r2 : List Cond := [Cond.code yX3_put cX3_put 4 none, Cond.methodLink RX0 95 yX3_put]
def wsX0_putInto : List Cond := .code yX0_putInto cX0_putInto 5 none :: ((wsX0_putInto_r1 ++ wsX0_putInto_r2) ++ wsX30)
def wsX0_solveFor_r1 : List Cond := [Cond.fieldLink RX0 11 "CertificateSums$Equations" "columns" "[LCertificateSums$Polynomial;", Cond.fieldLink RX0 20 "CertificateSums$Equations" "target" "LCertificateSums$Polynomial;", Cond.methodLink RX0 78 yX3_coefficient, Cond.instanceMethod yX3_coefficient, Cond.selects RX3 yX3_coefficient yX3_coefficient, Cond.initialized RX3, Cond.code yX3_coefficient cX3_coefficient 2 (some .int), Cond.fieldLink RX3 15 "CertificateSums$Polynomial" "row" "[I", Cond.methodLink RX0 82 yX2_inverse, Cond.static yX2_inverse, Cond.initialized RX2, Cond.code yX2_inverse cX2_inverse 4 (some .int), Cond.methodLink RX2 11 yX2_reduced, Cond.static yX2_reduced, Cond.code yX2_reduced cX2_reduced 3 (some .int), Cond.constantLong RX2 9 (32003), Cond.methodLink RX0 87 yX0_putInto, Cond.static yX0_putInto, Cond.initialized RX0, Cond.code yX0_putInto cX0_putInto 5 none, Cond.methodLink RX0 91 yX2_product, Cond.static yX2_product, Cond.code yX2_product cX2_product 2 (some .int), Cond.methodLink RX0 63 yX3_gather]
def wsX0_solveFor_r2 : List Cond := [Cond.instanceMethod yX3_gather, Cond.selects RX3 yX3_gather yX3_gather, Cond.code yX3_gather cX3_gather 7 none, Cond.fieldLink RX3 21 "CertificateSums$Polynomial" "highest" "I", Cond.methodLink RX3 29 yX3_coefficient, Cond.methodLink RX3 43 yX2_reduced, Cond.methodLink RX3 33 yX3_put, Cond.instanceMethod yX3_put, Cond.selects RX3 yX3_put yX3_put, Cond.code yX3_put cX3_put 4 none, Cond.methodLink RX0 95 yX3_put]
def wsX0_solveFor : List Cond := .code yX0_solveFor cX0_solveFor 5 none :: ((wsX0_solveFor_r1 ++ wsX0_solveFor_r2) ++ wsX00 ++ wsX30)
def wsX0_eliminate_r1 : List Cond := [Cond.fieldLink RX0 40 "CertificateSums$Equations" "taken" "[Z", Cond.fieldLink RX0 11 "CertificateSums$Equations" "columns" "[LCertificateSums$Polynomial;", Cond.fieldLink RX0 36 "CertificateSums$Equations" "equationOf" "[I", Cond.methodLink RX0 70 yX0_firstUntaken, Cond.instanceMethod yX0_firstUntaken, Cond.selects RX0 yX0_firstUntaken yX0_firstUntaken, Cond.initialized RX0, Cond.code yX0_firstUntaken cX0_firstUntaken 3 (some .int), Cond.methodLink RX0 78 yX3_coefficient, Cond.instanceMethod yX3_coefficient, Cond.selects RX3 yX3_coefficient yX3_coefficient, Cond.initialized RX3, Cond.code yX3_coefficient cX3_coefficient 2 (some .int), Cond.fieldLink RX3 15 "CertificateSums$Polynomial" "row" "[I", Cond.methodLink RX0 74 yX0_solveFor, Cond.instanceMethod yX0_solveFor, Cond.selects RX0 yX0_solveFor yX0_solveFor, Cond.code yX0_solveFor cX0_solveFor 5 none, Cond.fieldLink RX0 20 "CertificateSums$Equations" "target" "LCertificateSums$Polynomial;", Cond.methodLink RX0 82 yX2_inverse, Cond.static yX2_inverse, Cond.initialized RX2, Cond.code yX2_inverse cX2_inverse 4 (some .int), Cond.methodLink RX2 11 yX2_reduced]
def wsX0_eliminate_r2 : List Cond := [Cond.static yX2_reduced, Cond.code yX2_reduced cX2_reduced 3 (some .int), Cond.constantLong RX2 9 (32003), Cond.methodLink RX0 87 yX0_putInto, Cond.static yX0_putInto, Cond.code yX0_putInto cX0_putInto 5 none, Cond.methodLink RX0 91 yX2_product, Cond.static yX2_product, Cond.code yX2_product cX2_product 2 (some .int), Cond.methodLink RX0 63 yX3_gather, Cond.instanceMethod yX3_gather, Cond.selects RX3 yX3_gather yX3_gather, Cond.code yX3_gather cX3_gather 7 none, Cond.fieldLink RX3 21 "CertificateSums$Polynomial" "highest" "I", Cond.methodLink RX3 29 yX3_coefficient, Cond.methodLink RX3 43 yX2_reduced, Cond.methodLink RX3 33 yX3_put, Cond.instanceMethod yX3_put, Cond.selects RX3 yX3_put yX3_put, Cond.code yX3_put cX3_put 4 none, Cond.methodLink RX0 95 yX3_put]
def wsX0_eliminate : List Cond := .code yX0_eliminate cX0_eliminate 3 none :: ((wsX0_eliminate_r1 ++ wsX0_eliminate_r2) ++ wsX00 ++ wsX30)
def wsX0_areSolvable : List Cond := .code yX0_areSolvable cX0_areSolvable 1 (some .boolean) :: ([.fieldLink RX0 20 "CertificateSums$Equations" "target" "LCertificateSums$Polynomial;", .methodLink RX0 70 yX0_firstUntaken, .instanceMethod yX0_firstUntaken, .selects RX0 yX0_firstUntaken yX0_firstUntaken, .initialized RX0, .code yX0_firstUntaken cX0_firstUntaken 3 (some .int), .fieldLink RX0 40 "CertificateSums$Equations" "taken" "[Z", .methodLink RX0 78 yX3_coefficient, .instanceMethod yX3_coefficient, .selects RX3 yX3_coefficient yX3_coefficient, .initialized RX3, .code yX3_coefficient cX3_coefficient 2 (some .int), .fieldLink RX3 15 "CertificateSums$Polynomial" "row" "[I"] ++ wsX00 ++ wsX30)
def wsX0_writeSolution : List Cond := .code yX0_writeSolution cX0_writeSolution 3 none :: ([.fieldLink RX0 36 "CertificateSums$Equations" "equationOf" "[I", .fieldLink RX0 20 "CertificateSums$Equations" "target" "LCertificateSums$Polynomial;", .methodLink RX0 98 yX3_clear, .instanceMethod yX3_clear, .selects RX3 yX3_clear yX3_clear, .initialized RX3, .code yX3_clear cX3_clear 2 none, .fieldLink RX3 21 "CertificateSums$Polynomial" "highest" "I", .methodLink RX3 33 yX3_put, .instanceMethod yX3_put, .selects RX3 yX3_put yX3_put, .code yX3_put cX3_put 4 none, .fieldLink RX3 15 "CertificateSums$Polynomial" "row" "[I", .methodLink RX0 78 yX3_coefficient, .instanceMethod yX3_coefficient, .selects RX3 yX3_coefficient yX3_coefficient, .code yX3_coefficient cX3_coefficient 2 (some .int), .methodLink RX0 95 yX3_put] ++ wsX00 ++ wsX30)
def wsX0_freeUpTo : List Cond := .code yX0_freeUpTo cX0_freeUpTo 4 (some .int) :: ([.fieldLink RX0 36 "CertificateSums$Equations" "equationOf" "[I"] ++ wsX00)
def wsX3_init__r1 : List Cond := [Cond.methodLink RX3 3 objectInit, Cond.instanceMethod objectInit, Cond.code objectInit ⟨#[0xb1]⟩ 1 none, Cond.fieldLink RX3 21 "CertificateSums$Polynomial" "highest" "I", Cond.methodLink RX3 9 Lib.Math.max.name, Cond.static Lib.Math.max.name, Cond.initialized "java/lang/Math", Cond.code Lib.Math.max.name Lib.Math.max.code 2 (some .int), Cond.arrayClass .int, Cond.fieldLink RX3 15 "CertificateSums$Polynomial" "row" "[I", Cond.methodLink RX3 25 yX3_copy, Cond.instanceMethod yX3_copy, Cond.selects RX3 yX3_copy yX3_copy, Cond.initialized RX3, Cond.code yX3_copy cX3_copy 3 none, Cond.methodLink RX3 37 yX3_clear, Cond.instanceMethod yX3_clear, Cond.selects RX3 yX3_clear yX3_clear, Cond.code yX3_clear cX3_clear 2 none, Cond.methodLink RX3 33 yX3_put, Cond.instanceMethod yX3_put, Cond.selects RX3 yX3_put yX3_put, Cond.code yX3_put cX3_put 4 none, Cond.methodLink RX3 29 yX3_coefficient]
def wsX3_init__r2 : List Cond := [Cond.instanceMethod yX3_coefficient, Cond.selects RX3 yX3_coefficient yX3_coefficient, Cond.code yX3_coefficient cX3_coefficient 2 (some .int)]
def wsX3_init_ : List Cond := .code yX3_init_ cX3_init_ 2 none :: ((wsX3_init__r1 ++ wsX3_init__r2) ++ wsX30)
def wsX1_init_r1 : List Cond := [Cond.methodLink RX1 1 objectInit, Cond.instanceMethod objectInit, Cond.code objectInit ⟨#[0xb1]⟩ 1 none, Cond.classLink RX1 7 RX3, Cond.instantiable RX3 2, Cond.initialized RX3, Cond.fieldLink RX1 12 "CertificateSums$Fraction" "top" "LCertificateSums$Polynomial;", Cond.fieldLink RX1 18 "CertificateSums$Fraction" "bottom" "LCertificateSums$Polynomial;", Cond.methodLink RX1 9 yX3_init_, Cond.instanceMethod yX3_init_, Cond.code yX3_init_ cX3_init_ 2 none, Cond.methodLink RX3 3 objectInit, Cond.fieldLink RX3 21 "CertificateSums$Polynomial" "highest" "I", Cond.methodLink RX3 9 Lib.Math.max.name, Cond.static Lib.Math.max.name, Cond.initialized "java/lang/Math", Cond.code Lib.Math.max.name Lib.Math.max.code 2 (some .int), Cond.arrayClass .int, Cond.fieldLink RX3 15 "CertificateSums$Polynomial" "row" "[I", Cond.methodLink RX3 25 yX3_copy, Cond.instanceMethod yX3_copy, Cond.selects RX3 yX3_copy yX3_copy, Cond.code yX3_copy cX3_copy 3 none, Cond.methodLink RX3 37 yX3_clear]
def wsX1_init_r2 : List Cond := [Cond.instanceMethod yX3_clear, Cond.selects RX3 yX3_clear yX3_clear, Cond.code yX3_clear cX3_clear 2 none, Cond.methodLink RX3 33 yX3_put, Cond.instanceMethod yX3_put, Cond.selects RX3 yX3_put yX3_put, Cond.code yX3_put cX3_put 4 none, Cond.methodLink RX3 29 yX3_coefficient, Cond.instanceMethod yX3_coefficient, Cond.selects RX3 yX3_coefficient yX3_coefficient, Cond.code yX3_coefficient cX3_coefficient 2 (some .int)]
def wsX1_init : List Cond := .code yX1_init cX1_init 3 none :: ((wsX1_init_r1 ++ wsX1_init_r2) ++ wsX30 ++ wsX10)
def wsX1_part : List Cond := .code yX1_part cX1_part 2 (some (.object "CertificateSums$Polynomial")) :: ([.fieldLink RX1 12 "CertificateSums$Fraction" "top" "LCertificateSums$Polynomial;", .fieldLink RX1 18 "CertificateSums$Fraction" "bottom" "LCertificateSums$Polynomial;"] ++ wsX10)
def wsX3_isZero : List Cond := .code yX3_isZero cX3_isZero 1 (some .boolean) :: ([.fieldLink RX3 21 "CertificateSums$Polynomial" "highest" "I"] ++ wsX30)
def wsX3_leading : List Cond := .code yX3_leading cX3_leading 1 (some .int) :: ([.fieldLink RX3 21 "CertificateSums$Polynomial" "highest" "I", .methodLink RX3 29 yX3_coefficient, .instanceMethod yX3_coefficient, .selects RX3 yX3_coefficient yX3_coefficient, .initialized RX3, .code yX3_coefficient cX3_coefficient 2 (some .int), .fieldLink RX3 15 "CertificateSums$Polynomial" "row" "[I"] ++ wsX30)
def wsX3_scale : List Cond := .code yX3_scale cX3_scale 3 none :: ([.fieldLink RX3 21 "CertificateSums$Polynomial" "highest" "I", .methodLink RX3 29 yX3_coefficient, .instanceMethod yX3_coefficient, .selects RX3 yX3_coefficient yX3_coefficient, .initialized RX3, .code yX3_coefficient cX3_coefficient 2 (some .int), .fieldLink RX3 15 "CertificateSums$Polynomial" "row" "[I", .methodLink RX3 49 yX2_product, .static yX2_product, .initialized RX2, .code yX2_product cX2_product 2 (some .int), .methodLink RX2 11 yX2_reduced, .static yX2_reduced, .code yX2_reduced cX2_reduced 3 (some .int), .constantLong RX2 9 (32003), .methodLink RX3 33 yX3_put, .instanceMethod yX3_put, .selects RX3 yX3_put yX3_put, .code yX3_put cX3_put 4 none] ++ wsX30)
def wsX3_divide_r1 : List Cond := [Cond.fieldLink RX3 21 "CertificateSums$Polynomial" "highest" "I", Cond.methodLink RX3 37 yX3_clear, Cond.instanceMethod yX3_clear, Cond.selects RX3 yX3_clear yX3_clear, Cond.initialized RX3, Cond.code yX3_clear cX3_clear 2 none, Cond.methodLink RX3 33 yX3_put, Cond.instanceMethod yX3_put, Cond.selects RX3 yX3_put yX3_put, Cond.code yX3_put cX3_put 4 none, Cond.fieldLink RX3 15 "CertificateSums$Polynomial" "row" "[I", Cond.methodLink RX3 52 yX3_isZero, Cond.instanceMethod yX3_isZero, Cond.selects RX3 yX3_isZero yX3_isZero, Cond.code yX3_isZero cX3_isZero 1 (some .boolean), Cond.methodLink RX3 56 yX3_leading, Cond.instanceMethod yX3_leading, Cond.selects RX3 yX3_leading yX3_leading, Cond.code yX3_leading cX3_leading 1 (some .int), Cond.methodLink RX3 29 yX3_coefficient, Cond.instanceMethod yX3_coefficient, Cond.selects RX3 yX3_coefficient yX3_coefficient, Cond.code yX3_coefficient cX3_coefficient 2 (some .int), Cond.methodLink RX3 60 yX2_inverse]
def wsX3_divide_r2 : List Cond := [Cond.static yX2_inverse, Cond.initialized RX2, Cond.code yX2_inverse cX2_inverse 4 (some .int), Cond.methodLink RX2 11 yX2_reduced, Cond.static yX2_reduced, Cond.code yX2_reduced cX2_reduced 3 (some .int), Cond.constantLong RX2 9 (32003), Cond.methodLink RX3 49 yX2_product, Cond.static yX2_product, Cond.code yX2_product cX2_product 2 (some .int), Cond.methodLink RX3 63 yX3_gather, Cond.instanceMethod yX3_gather, Cond.selects RX3 yX3_gather yX3_gather, Cond.code yX3_gather cX3_gather 7 none, Cond.methodLink RX3 43 yX2_reduced]
def wsX3_divide : List Cond := .code yX3_divide cX3_divide 6 none :: ((wsX3_divide_r1 ++ wsX3_divide_r2) ++ wsX30)
def wsX3_evaluate : List Cond := .code yX3_evaluate cX3_evaluate 4 (some .int) :: ([.fieldLink RX3 21 "CertificateSums$Polynomial" "highest" "I", .methodLink RX3 29 yX3_coefficient, .instanceMethod yX3_coefficient, .selects RX3 yX3_coefficient yX3_coefficient, .initialized RX3, .code yX3_coefficient cX3_coefficient 2 (some .int), .fieldLink RX3 15 "CertificateSums$Polynomial" "row" "[I", .methodLink RX3 43 yX2_reduced, .static yX2_reduced, .initialized RX2, .code yX2_reduced cX2_reduced 3 (some .int), .constantLong RX2 9 (32003)] ++ wsX30)
def wsX3_matches : List Cond := .code yX3_matches cX3_matches 3 (some .boolean) :: ([.fieldLink RX3 21 "CertificateSums$Polynomial" "highest" "I", .methodLink RX3 29 yX3_coefficient, .instanceMethod yX3_coefficient, .selects RX3 yX3_coefficient yX3_coefficient, .initialized RX3, .code yX3_coefficient cX3_coefficient 2 (some .int), .fieldLink RX3 15 "CertificateSums$Polynomial" "row" "[I"] ++ wsX30)
def wsX4_init_r1 : List Cond := [Cond.methodLink RX4 3 objectInit, Cond.instanceMethod objectInit, Cond.code objectInit ⟨#[0xb1]⟩ 1 none, Cond.classLink RX4 9 RX3, Cond.instantiable RX3 2, Cond.initialized RX3, Cond.fieldLink RX4 14 "CertificateSums" "ratioTop" "LCertificateSums$Polynomial;", Cond.fieldLink RX4 22 "CertificateSums" "ratioBottom" "LCertificateSums$Polynomial;", Cond.classLink RX4 25 RX1, Cond.fieldLink RX4 27 "CertificateSums" "functions" "[LCertificateSums$Fraction;", Cond.fieldLink RX4 31 "CertificateSums" "made" "I", Cond.fieldLink RX4 35 "CertificateSums" "top" "LCertificateSums$Polynomial;", Cond.fieldLink RX4 38 "CertificateSums" "bottom" "LCertificateSums$Polynomial;", Cond.fieldLink RX4 41 "CertificateSums" "left" "LCertificateSums$Polynomial;", Cond.fieldLink RX4 44 "CertificateSums" "right" "LCertificateSums$Polynomial;", Cond.fieldLink RX4 47 "CertificateSums" "quotient" "LCertificateSums$Polynomial;", Cond.classLink RX4 50 RX0, Cond.instantiable RX0 8, Cond.initialized RX0, Cond.fieldLink RX4 53 "CertificateSums" "equations" "LCertificateSums$Equations;", Cond.methodLink RX4 11 yX3_init, Cond.instanceMethod yX3_init, Cond.code yX3_init cX3_init 2 none, Cond.methodLink RX3 3 objectInit]
def wsX4_init_r2 : List Cond := [Cond.methodLink RX3 9 Lib.Math.max.name, Cond.static Lib.Math.max.name, Cond.initialized "java/lang/Math", Cond.code Lib.Math.max.name Lib.Math.max.code 2 (some .int), Cond.arrayClass .int, Cond.fieldLink RX3 15 "CertificateSums$Polynomial" "row" "[I", Cond.fieldLink RX3 21 "CertificateSums$Polynomial" "highest" "I", Cond.methodLink RX4 18 yX3_put, Cond.instanceMethod yX3_put, Cond.selects RX3 yX3_put yX3_put, Cond.code yX3_put cX3_put 4 none, Cond.methodLink RX4 52 yX0_init, Cond.instanceMethod yX0_init, Cond.code yX0_init cX0_init 2 none, Cond.methodLink RX0 3 objectInit, Cond.classLink RX0 9 RX3, Cond.fieldLink RX0 11 "CertificateSums$Equations" "columns" "[LCertificateSums$Polynomial;", Cond.fieldLink RX0 20 "CertificateSums$Equations" "target" "LCertificateSums$Polynomial;", Cond.fieldLink RX0 24 "CertificateSums$Equations" "growing" "LCertificateSums$Polynomial;", Cond.fieldLink RX0 27 "CertificateSums$Equations" "staying" "LCertificateSums$Polynomial;", Cond.fieldLink RX0 30 "CertificateSums$Equations" "movedBase" "LCertificateSums$Polynomial;", Cond.fieldLink RX0 33 "CertificateSums$Equations" "work" "LCertificateSums$Polynomial;", Cond.fieldLink RX0 36 "CertificateSums$Equations" "equationOf" "[I", Cond.arrayClass .boolean]
def wsX4_init_r3 : List Cond := [Cond.fieldLink RX0 40 "CertificateSums$Equations" "taken" "[Z", Cond.methodLink RX0 17 yX3_init]
def wsX4_init : List Cond := .code yX4_init cX4_init 1 none :: ((wsX4_init_r1 ++ (wsX4_init_r2 ++ wsX4_init_r3)) ++ wsX30 ++ wsX40 ++ wsX00)
def wsX4_ratio : List Cond := .code yX4_ratio cX4_ratio 8 (some .boolean) :: ([.classLink RX4 57 "java/lang/IllegalArgumentException", .initialized "java/lang/IllegalArgumentException", .fieldLink RX4 14 "CertificateSums" "ratioTop" "LCertificateSums$Polynomial;", .fieldLink RX4 22 "CertificateSums" "ratioBottom" "LCertificateSums$Polynomial;", .methodLink RX4 64 yX2_reduced, .static yX2_reduced, .initialized RX2, .code yX2_reduced cX2_reduced 3 (some .int), .constantLong RX2 9 (32003), .methodLink RX4 70 yX3_coefficient, .instanceMethod yX3_coefficient, .selects RX3 yX3_coefficient yX3_coefficient, .initialized RX3, .code yX3_coefficient cX3_coefficient 2 (some .int), .fieldLink RX3 15 "CertificateSums$Polynomial" "row" "[I", .methodLink RX4 18 yX3_put, .instanceMethod yX3_put, .selects RX3 yX3_put yX3_put, .code yX3_put cX3_put 4 none, .fieldLink RX3 21 "CertificateSums$Polynomial" "highest" "I"] ++ wsX40 ++ wsX30 ++ (vx_atS RX4 61 "java/lang/IllegalArgumentException" ["java/lang/RuntimeException", "java/lang/Exception"]).filter goodWord)
def wsX4_refuseWhenFull : List Cond := .code yX4_refuseWhenFull cX4_refuseWhenFull 1 none :: ([.classLink RX4 172 "java/lang/IllegalStateException", .initialized "java/lang/IllegalStateException", .fieldLink RX4 31 "CertificateSums" "made" "I", .fieldLink RX4 27 "CertificateSums" "functions" "[LCertificateSums$Fraction;"] ++ wsX40 ++ (vx_atS RX4 176 "java/lang/IllegalStateException" ["java/lang/RuntimeException", "java/lang/Exception"]).filter goodWord)
def wsX4_greatestDivisor_r1 : List Cond := [Cond.methodLink RX4 95 yX3_isZero, Cond.instanceMethod yX3_isZero, Cond.selects RX3 yX3_isZero yX3_isZero, Cond.initialized RX3, Cond.code yX3_isZero cX3_isZero 1 (some .boolean), Cond.fieldLink RX3 21 "CertificateSums$Polynomial" "highest" "I", Cond.methodLink RX4 200 yX3_divide, Cond.instanceMethod yX3_divide, Cond.selects RX3 yX3_divide yX3_divide, Cond.code yX3_divide cX3_divide 6 none, Cond.methodLink RX3 37 yX3_clear, Cond.instanceMethod yX3_clear, Cond.selects RX3 yX3_clear yX3_clear, Cond.code yX3_clear cX3_clear 2 none, Cond.methodLink RX3 33 yX3_put, Cond.instanceMethod yX3_put, Cond.selects RX3 yX3_put yX3_put, Cond.code yX3_put cX3_put 4 none, Cond.fieldLink RX3 15 "CertificateSums$Polynomial" "row" "[I", Cond.methodLink RX3 52 yX3_isZero, Cond.methodLink RX3 56 yX3_leading, Cond.instanceMethod yX3_leading, Cond.selects RX3 yX3_leading yX3_leading, Cond.code yX3_leading cX3_leading 1 (some .int)]
def wsX4_greatestDivisor_r2 : List Cond := [Cond.methodLink RX3 29 yX3_coefficient, Cond.instanceMethod yX3_coefficient, Cond.selects RX3 yX3_coefficient yX3_coefficient, Cond.code yX3_coefficient cX3_coefficient 2 (some .int), Cond.methodLink RX3 60 yX2_inverse, Cond.static yX2_inverse, Cond.initialized RX2, Cond.code yX2_inverse cX2_inverse 4 (some .int), Cond.methodLink RX2 11 yX2_reduced, Cond.static yX2_reduced, Cond.code yX2_reduced cX2_reduced 3 (some .int), Cond.constantLong RX2 9 (32003), Cond.methodLink RX3 49 yX2_product, Cond.static yX2_product, Cond.code yX2_product cX2_product 2 (some .int), Cond.methodLink RX3 63 yX3_gather, Cond.instanceMethod yX3_gather, Cond.selects RX3 yX3_gather yX3_gather, Cond.code yX3_gather cX3_gather 7 none, Cond.methodLink RX3 43 yX2_reduced]
def wsX4_greatestDivisor : List Cond := .code yX4_greatestDivisor cX4_greatestDivisor 7 (some (.object "CertificateSums$Polynomial")) :: ((wsX4_greatestDivisor_r1 ++ wsX4_greatestDivisor_r2) ++ wsX30)
def wsX4_toLowestTerms_r1 : List Cond := [Cond.fieldLink RX4 41 "CertificateSums" "left" "LCertificateSums$Polynomial;", Cond.fieldLink RX4 35 "CertificateSums" "top" "LCertificateSums$Polynomial;", Cond.fieldLink RX4 44 "CertificateSums" "right" "LCertificateSums$Polynomial;", Cond.fieldLink RX4 38 "CertificateSums" "bottom" "LCertificateSums$Polynomial;", Cond.fieldLink RX4 47 "CertificateSums" "quotient" "LCertificateSums$Polynomial;", Cond.methodLink RX4 104 yX3_copy, Cond.instanceMethod yX3_copy, Cond.selects RX3 yX3_copy yX3_copy, Cond.initialized RX3, Cond.code yX3_copy cX3_copy 3 none, Cond.fieldLink RX3 21 "CertificateSums$Polynomial" "highest" "I", Cond.methodLink RX3 37 yX3_clear, Cond.instanceMethod yX3_clear, Cond.selects RX3 yX3_clear yX3_clear, Cond.code yX3_clear cX3_clear 2 none, Cond.methodLink RX3 33 yX3_put, Cond.instanceMethod yX3_put, Cond.selects RX3 yX3_put yX3_put, Cond.code yX3_put cX3_put 4 none, Cond.fieldLink RX3 15 "CertificateSums$Polynomial" "row" "[I", Cond.methodLink RX3 29 yX3_coefficient, Cond.instanceMethod yX3_coefficient, Cond.selects RX3 yX3_coefficient yX3_coefficient, Cond.code yX3_coefficient cX3_coefficient 2 (some .int)]
def wsX4_toLowestTerms_r2 : List Cond := [Cond.methodLink RX4 196 yX4_greatestDivisor, Cond.static yX4_greatestDivisor, Cond.initialized RX4, Cond.code yX4_greatestDivisor cX4_greatestDivisor 7 (some (.object "CertificateSums$Polynomial")), Cond.methodLink RX4 95 yX3_isZero, Cond.instanceMethod yX3_isZero, Cond.selects RX3 yX3_isZero yX3_isZero, Cond.code yX3_isZero cX3_isZero 1 (some .boolean), Cond.methodLink RX4 200 yX3_divide, Cond.instanceMethod yX3_divide, Cond.selects RX3 yX3_divide yX3_divide, Cond.code yX3_divide cX3_divide 6 none, Cond.methodLink RX3 52 yX3_isZero, Cond.methodLink RX3 56 yX3_leading, Cond.instanceMethod yX3_leading, Cond.selects RX3 yX3_leading yX3_leading, Cond.code yX3_leading cX3_leading 1 (some .int), Cond.methodLink RX3 60 yX2_inverse, Cond.static yX2_inverse, Cond.initialized RX2, Cond.code yX2_inverse cX2_inverse 4 (some .int), Cond.methodLink RX2 11 yX2_reduced, Cond.static yX2_reduced, Cond.code yX2_reduced cX2_reduced 3 (some .int)]
def wsX4_toLowestTerms_r3 : List Cond := [Cond.constantLong RX2 9 (32003), Cond.methodLink RX3 49 yX2_product, Cond.static yX2_product, Cond.code yX2_product cX2_product 2 (some .int), Cond.methodLink RX3 63 yX3_gather, Cond.instanceMethod yX3_gather, Cond.selects RX3 yX3_gather yX3_gather, Cond.code yX3_gather cX3_gather 7 none, Cond.methodLink RX3 43 yX2_reduced, Cond.methodLink RX4 203 yX3_leading, Cond.methodLink RX4 161 yX2_inverse, Cond.methodLink RX4 206 yX3_scale, Cond.instanceMethod yX3_scale, Cond.selects RX3 yX3_scale yX3_scale, Cond.code yX3_scale cX3_scale 3 none]
def wsX4_toLowestTerms : List Cond := .code yX4_toLowestTerms cX4_toLowestTerms 3 none :: ((wsX4_toLowestTerms_r1 ++ (wsX4_toLowestTerms_r2 ++ wsX4_toLowestTerms_r3)) ++ wsX40 ++ wsX30)
def wsX4_keepResult_r1 : List Cond := [Cond.classLink RX4 172 "java/lang/IllegalStateException", Cond.initialized "java/lang/IllegalStateException", Cond.fieldLink RX4 35 "CertificateSums" "top" "LCertificateSums$Polynomial;", Cond.fieldLink RX4 135 "CertificateSums$Polynomial" "highest" "I", Cond.fieldLink RX4 38 "CertificateSums" "bottom" "LCertificateSums$Polynomial;", Cond.fieldLink RX4 31 "CertificateSums" "made" "I", Cond.fieldLink RX4 27 "CertificateSums" "functions" "[LCertificateSums$Fraction;", Cond.classLink RX4 25 RX1, Cond.instantiable RX1 2, Cond.initialized RX1, Cond.methodLink RX4 128 yX4_refuseWhenFull, Cond.instanceMethod yX4_refuseWhenFull, Cond.selects RX4 yX4_refuseWhenFull yX4_refuseWhenFull, Cond.initialized RX4, Cond.code yX4_refuseWhenFull cX4_refuseWhenFull 1 none, Cond.methodLink RX4 189 yX4_toLowestTerms, Cond.instanceMethod yX4_toLowestTerms, Cond.selects RX4 yX4_toLowestTerms yX4_toLowestTerms, Cond.code yX4_toLowestTerms cX4_toLowestTerms 3 none, Cond.fieldLink RX4 41 "CertificateSums" "left" "LCertificateSums$Polynomial;", Cond.fieldLink RX4 44 "CertificateSums" "right" "LCertificateSums$Polynomial;", Cond.fieldLink RX4 47 "CertificateSums" "quotient" "LCertificateSums$Polynomial;", Cond.methodLink RX4 104 yX3_copy, Cond.instanceMethod yX3_copy]
def wsX4_keepResult_r2 : List Cond := [Cond.selects RX3 yX3_copy yX3_copy, Cond.initialized RX3, Cond.code yX3_copy cX3_copy 3 none, Cond.fieldLink RX3 21 "CertificateSums$Polynomial" "highest" "I", Cond.methodLink RX3 37 yX3_clear, Cond.instanceMethod yX3_clear, Cond.selects RX3 yX3_clear yX3_clear, Cond.code yX3_clear cX3_clear 2 none, Cond.methodLink RX3 33 yX3_put, Cond.instanceMethod yX3_put, Cond.selects RX3 yX3_put yX3_put, Cond.code yX3_put cX3_put 4 none, Cond.fieldLink RX3 15 "CertificateSums$Polynomial" "row" "[I", Cond.methodLink RX3 29 yX3_coefficient, Cond.instanceMethod yX3_coefficient, Cond.selects RX3 yX3_coefficient yX3_coefficient, Cond.code yX3_coefficient cX3_coefficient 2 (some .int), Cond.methodLink RX4 196 yX4_greatestDivisor, Cond.static yX4_greatestDivisor, Cond.code yX4_greatestDivisor cX4_greatestDivisor 7 (some (.object "CertificateSums$Polynomial")), Cond.methodLink RX4 95 yX3_isZero, Cond.instanceMethod yX3_isZero, Cond.selects RX3 yX3_isZero yX3_isZero, Cond.code yX3_isZero cX3_isZero 1 (some .boolean)]
def wsX4_keepResult_r3 : List Cond := [Cond.methodLink RX4 200 yX3_divide, Cond.instanceMethod yX3_divide, Cond.selects RX3 yX3_divide yX3_divide, Cond.code yX3_divide cX3_divide 6 none, Cond.methodLink RX3 52 yX3_isZero, Cond.methodLink RX3 56 yX3_leading, Cond.instanceMethod yX3_leading, Cond.selects RX3 yX3_leading yX3_leading, Cond.code yX3_leading cX3_leading 1 (some .int), Cond.methodLink RX3 60 yX2_inverse, Cond.static yX2_inverse, Cond.initialized RX2, Cond.code yX2_inverse cX2_inverse 4 (some .int), Cond.methodLink RX2 11 yX2_reduced, Cond.static yX2_reduced, Cond.code yX2_reduced cX2_reduced 3 (some .int), Cond.constantLong RX2 9 (32003), Cond.methodLink RX3 49 yX2_product, Cond.static yX2_product, Cond.code yX2_product cX2_product 2 (some .int), Cond.methodLink RX3 63 yX3_gather, Cond.instanceMethod yX3_gather, Cond.selects RX3 yX3_gather yX3_gather, Cond.code yX3_gather cX3_gather 7 none]
def wsX4_keepResult_r4 : List Cond := [Cond.methodLink RX3 43 yX2_reduced, Cond.methodLink RX4 203 yX3_leading, Cond.methodLink RX4 161 yX2_inverse, Cond.methodLink RX4 206 yX3_scale, Cond.instanceMethod yX3_scale, Cond.selects RX3 yX3_scale yX3_scale, Cond.code yX3_scale cX3_scale 3 none, Cond.methodLink RX4 194 yX1_init, Cond.instanceMethod yX1_init, Cond.code yX1_init cX1_init 3 none, Cond.methodLink RX1 1 objectInit, Cond.instanceMethod objectInit, Cond.code objectInit ⟨#[0xb1]⟩ 1 none, Cond.classLink RX1 7 RX3, Cond.instantiable RX3 2, Cond.fieldLink RX1 12 "CertificateSums$Fraction" "top" "LCertificateSums$Polynomial;", Cond.fieldLink RX1 18 "CertificateSums$Fraction" "bottom" "LCertificateSums$Polynomial;", Cond.methodLink RX1 9 yX3_init_, Cond.instanceMethod yX3_init_, Cond.code yX3_init_ cX3_init_ 2 none, Cond.methodLink RX3 3 objectInit, Cond.methodLink RX3 9 Lib.Math.max.name, Cond.static Lib.Math.max.name, Cond.initialized "java/lang/Math"]
def wsX4_keepResult_r5 : List Cond := [Cond.code Lib.Math.max.name Lib.Math.max.code 2 (some .int), Cond.arrayClass .int, Cond.methodLink RX3 25 yX3_copy]
def wsX4_keepResult : List Cond := .code yX4_keepResult cX4_keepResult 2 (some .int) :: ((wsX4_keepResult_r1 ++ (wsX4_keepResult_r2 ++ (wsX4_keepResult_r3 ++ (wsX4_keepResult_r4 ++ wsX4_keepResult_r5)))) ++ wsX40 ++ wsX30 ++ wsX10 ++ (vx_atS RX4 176 "java/lang/IllegalStateException" ["java/lang/RuntimeException", "java/lang/Exception"]).filter goodWord)
def wsX4_number_r1 : List Cond := [Cond.fieldLink RX4 35 "CertificateSums" "top" "LCertificateSums$Polynomial;", Cond.fieldLink RX4 38 "CertificateSums" "bottom" "LCertificateSums$Polynomial;", Cond.methodLink RX4 74 yX3_clear, Cond.instanceMethod yX3_clear, Cond.selects RX3 yX3_clear yX3_clear, Cond.initialized RX3, Cond.code yX3_clear cX3_clear 2 none, Cond.fieldLink RX3 21 "CertificateSums$Polynomial" "highest" "I", Cond.methodLink RX3 33 yX3_put, Cond.instanceMethod yX3_put, Cond.selects RX3 yX3_put yX3_put, Cond.code yX3_put cX3_put 4 none, Cond.fieldLink RX3 15 "CertificateSums$Polynomial" "row" "[I", Cond.methodLink RX4 64 yX2_reduced, Cond.static yX2_reduced, Cond.initialized RX2, Cond.code yX2_reduced cX2_reduced 3 (some .int), Cond.constantLong RX2 9 (32003), Cond.methodLink RX4 18 yX3_put, Cond.methodLink RX4 77 yX4_keepResult, Cond.instanceMethod yX4_keepResult, Cond.selects RX4 yX4_keepResult yX4_keepResult, Cond.initialized RX4, Cond.code yX4_keepResult cX4_keepResult 2 (some .int)]
def wsX4_number_r2 : List Cond := [Cond.classLink RX4 172 "java/lang/IllegalStateException", Cond.initialized "java/lang/IllegalStateException", Cond.fieldLink RX4 135 "CertificateSums$Polynomial" "highest" "I", Cond.fieldLink RX4 31 "CertificateSums" "made" "I", Cond.fieldLink RX4 27 "CertificateSums" "functions" "[LCertificateSums$Fraction;", Cond.classLink RX4 25 RX1, Cond.instantiable RX1 2, Cond.initialized RX1, Cond.methodLink RX4 128 yX4_refuseWhenFull, Cond.instanceMethod yX4_refuseWhenFull, Cond.selects RX4 yX4_refuseWhenFull yX4_refuseWhenFull, Cond.code yX4_refuseWhenFull cX4_refuseWhenFull 1 none, Cond.methodLink RX4 189 yX4_toLowestTerms, Cond.instanceMethod yX4_toLowestTerms, Cond.selects RX4 yX4_toLowestTerms yX4_toLowestTerms, Cond.code yX4_toLowestTerms cX4_toLowestTerms 3 none, Cond.fieldLink RX4 41 "CertificateSums" "left" "LCertificateSums$Polynomial;", Cond.fieldLink RX4 44 "CertificateSums" "right" "LCertificateSums$Polynomial;", Cond.fieldLink RX4 47 "CertificateSums" "quotient" "LCertificateSums$Polynomial;", Cond.methodLink RX4 104 yX3_copy, Cond.instanceMethod yX3_copy, Cond.selects RX3 yX3_copy yX3_copy, Cond.code yX3_copy cX3_copy 3 none, Cond.methodLink RX3 37 yX3_clear]
def wsX4_number_r3 : List Cond := [Cond.methodLink RX3 29 yX3_coefficient, Cond.instanceMethod yX3_coefficient, Cond.selects RX3 yX3_coefficient yX3_coefficient, Cond.code yX3_coefficient cX3_coefficient 2 (some .int), Cond.methodLink RX4 196 yX4_greatestDivisor, Cond.static yX4_greatestDivisor, Cond.code yX4_greatestDivisor cX4_greatestDivisor 7 (some (.object "CertificateSums$Polynomial")), Cond.methodLink RX4 95 yX3_isZero, Cond.instanceMethod yX3_isZero, Cond.selects RX3 yX3_isZero yX3_isZero, Cond.code yX3_isZero cX3_isZero 1 (some .boolean), Cond.methodLink RX4 200 yX3_divide, Cond.instanceMethod yX3_divide, Cond.selects RX3 yX3_divide yX3_divide, Cond.code yX3_divide cX3_divide 6 none, Cond.methodLink RX3 52 yX3_isZero, Cond.methodLink RX3 56 yX3_leading, Cond.instanceMethod yX3_leading, Cond.selects RX3 yX3_leading yX3_leading, Cond.code yX3_leading cX3_leading 1 (some .int), Cond.methodLink RX3 60 yX2_inverse, Cond.static yX2_inverse, Cond.code yX2_inverse cX2_inverse 4 (some .int), Cond.methodLink RX2 11 yX2_reduced]
def wsX4_number_r4 : List Cond := [Cond.methodLink RX3 49 yX2_product, Cond.static yX2_product, Cond.code yX2_product cX2_product 2 (some .int), Cond.methodLink RX3 63 yX3_gather, Cond.instanceMethod yX3_gather, Cond.selects RX3 yX3_gather yX3_gather, Cond.code yX3_gather cX3_gather 7 none, Cond.methodLink RX3 43 yX2_reduced, Cond.methodLink RX4 203 yX3_leading, Cond.methodLink RX4 161 yX2_inverse, Cond.methodLink RX4 206 yX3_scale, Cond.instanceMethod yX3_scale, Cond.selects RX3 yX3_scale yX3_scale, Cond.code yX3_scale cX3_scale 3 none, Cond.methodLink RX4 194 yX1_init, Cond.instanceMethod yX1_init, Cond.code yX1_init cX1_init 3 none, Cond.methodLink RX1 1 objectInit, Cond.instanceMethod objectInit, Cond.code objectInit ⟨#[0xb1]⟩ 1 none, Cond.classLink RX1 7 RX3, Cond.instantiable RX3 2, Cond.fieldLink RX1 12 "CertificateSums$Fraction" "top" "LCertificateSums$Polynomial;", Cond.fieldLink RX1 18 "CertificateSums$Fraction" "bottom" "LCertificateSums$Polynomial;"]
def wsX4_number_r5 : List Cond := [Cond.methodLink RX1 9 yX3_init_, Cond.instanceMethod yX3_init_, Cond.code yX3_init_ cX3_init_ 2 none, Cond.methodLink RX3 3 objectInit, Cond.methodLink RX3 9 Lib.Math.max.name, Cond.static Lib.Math.max.name, Cond.initialized "java/lang/Math", Cond.code Lib.Math.max.name Lib.Math.max.code 2 (some .int), Cond.arrayClass .int, Cond.methodLink RX3 25 yX3_copy]
def wsX4_number : List Cond := .code yX4_number cX4_number 3 (some .int) :: ((wsX4_number_r1 ++ (wsX4_number_r2 ++ (wsX4_number_r3 ++ (wsX4_number_r4 ++ wsX4_number_r5)))) ++ wsX40 ++ wsX30 ++ wsX10 ++ (vx_atS RX4 176 "java/lang/IllegalStateException" ["java/lang/RuntimeException", "java/lang/Exception"]).filter goodWord)
def wsX4_letter_r1 : List Cond := [Cond.fieldLink RX4 35 "CertificateSums" "top" "LCertificateSums$Polynomial;", Cond.fieldLink RX4 38 "CertificateSums" "bottom" "LCertificateSums$Polynomial;", Cond.methodLink RX4 74 yX3_clear, Cond.instanceMethod yX3_clear, Cond.selects RX3 yX3_clear yX3_clear, Cond.initialized RX3, Cond.code yX3_clear cX3_clear 2 none, Cond.fieldLink RX3 21 "CertificateSums$Polynomial" "highest" "I", Cond.methodLink RX3 33 yX3_put, Cond.instanceMethod yX3_put, Cond.selects RX3 yX3_put yX3_put, Cond.code yX3_put cX3_put 4 none, Cond.fieldLink RX3 15 "CertificateSums$Polynomial" "row" "[I", Cond.methodLink RX4 18 yX3_put, Cond.methodLink RX4 77 yX4_keepResult, Cond.instanceMethod yX4_keepResult, Cond.selects RX4 yX4_keepResult yX4_keepResult, Cond.initialized RX4, Cond.code yX4_keepResult cX4_keepResult 2 (some .int), Cond.classLink RX4 172 "java/lang/IllegalStateException", Cond.initialized "java/lang/IllegalStateException", Cond.fieldLink RX4 135 "CertificateSums$Polynomial" "highest" "I", Cond.fieldLink RX4 31 "CertificateSums" "made" "I", Cond.fieldLink RX4 27 "CertificateSums" "functions" "[LCertificateSums$Fraction;"]
def wsX4_letter_r2 : List Cond := [Cond.classLink RX4 25 RX1, Cond.instantiable RX1 2, Cond.initialized RX1, Cond.methodLink RX4 128 yX4_refuseWhenFull, Cond.instanceMethod yX4_refuseWhenFull, Cond.selects RX4 yX4_refuseWhenFull yX4_refuseWhenFull, Cond.code yX4_refuseWhenFull cX4_refuseWhenFull 1 none, Cond.methodLink RX4 189 yX4_toLowestTerms, Cond.instanceMethod yX4_toLowestTerms, Cond.selects RX4 yX4_toLowestTerms yX4_toLowestTerms, Cond.code yX4_toLowestTerms cX4_toLowestTerms 3 none, Cond.fieldLink RX4 41 "CertificateSums" "left" "LCertificateSums$Polynomial;", Cond.fieldLink RX4 44 "CertificateSums" "right" "LCertificateSums$Polynomial;", Cond.fieldLink RX4 47 "CertificateSums" "quotient" "LCertificateSums$Polynomial;", Cond.methodLink RX4 104 yX3_copy, Cond.instanceMethod yX3_copy, Cond.selects RX3 yX3_copy yX3_copy, Cond.code yX3_copy cX3_copy 3 none, Cond.methodLink RX3 37 yX3_clear, Cond.methodLink RX3 29 yX3_coefficient, Cond.instanceMethod yX3_coefficient, Cond.selects RX3 yX3_coefficient yX3_coefficient, Cond.code yX3_coefficient cX3_coefficient 2 (some .int), Cond.methodLink RX4 196 yX4_greatestDivisor]
def wsX4_letter_r3 : List Cond := [Cond.static yX4_greatestDivisor, Cond.code yX4_greatestDivisor cX4_greatestDivisor 7 (some (.object "CertificateSums$Polynomial")), Cond.methodLink RX4 95 yX3_isZero, Cond.instanceMethod yX3_isZero, Cond.selects RX3 yX3_isZero yX3_isZero, Cond.code yX3_isZero cX3_isZero 1 (some .boolean), Cond.methodLink RX4 200 yX3_divide, Cond.instanceMethod yX3_divide, Cond.selects RX3 yX3_divide yX3_divide, Cond.code yX3_divide cX3_divide 6 none, Cond.methodLink RX3 52 yX3_isZero, Cond.methodLink RX3 56 yX3_leading, Cond.instanceMethod yX3_leading, Cond.selects RX3 yX3_leading yX3_leading, Cond.code yX3_leading cX3_leading 1 (some .int), Cond.methodLink RX3 60 yX2_inverse, Cond.static yX2_inverse, Cond.initialized RX2, Cond.code yX2_inverse cX2_inverse 4 (some .int), Cond.methodLink RX2 11 yX2_reduced, Cond.static yX2_reduced, Cond.code yX2_reduced cX2_reduced 3 (some .int), Cond.constantLong RX2 9 (32003), Cond.methodLink RX3 49 yX2_product]
def wsX4_letter_r4 : List Cond := [Cond.static yX2_product, Cond.code yX2_product cX2_product 2 (some .int), Cond.methodLink RX3 63 yX3_gather, Cond.instanceMethod yX3_gather, Cond.selects RX3 yX3_gather yX3_gather, Cond.code yX3_gather cX3_gather 7 none, Cond.methodLink RX3 43 yX2_reduced, Cond.methodLink RX4 203 yX3_leading, Cond.methodLink RX4 161 yX2_inverse, Cond.methodLink RX4 206 yX3_scale, Cond.instanceMethod yX3_scale, Cond.selects RX3 yX3_scale yX3_scale, Cond.code yX3_scale cX3_scale 3 none, Cond.methodLink RX4 194 yX1_init, Cond.instanceMethod yX1_init, Cond.code yX1_init cX1_init 3 none, Cond.methodLink RX1 1 objectInit, Cond.instanceMethod objectInit, Cond.code objectInit ⟨#[0xb1]⟩ 1 none, Cond.classLink RX1 7 RX3, Cond.instantiable RX3 2, Cond.fieldLink RX1 12 "CertificateSums$Fraction" "top" "LCertificateSums$Polynomial;", Cond.fieldLink RX1 18 "CertificateSums$Fraction" "bottom" "LCertificateSums$Polynomial;", Cond.methodLink RX1 9 yX3_init_]
def wsX4_letter_r5 : List Cond := [Cond.instanceMethod yX3_init_, Cond.code yX3_init_ cX3_init_ 2 none, Cond.methodLink RX3 3 objectInit, Cond.methodLink RX3 9 Lib.Math.max.name, Cond.static Lib.Math.max.name, Cond.initialized "java/lang/Math", Cond.code Lib.Math.max.name Lib.Math.max.code 2 (some .int), Cond.arrayClass .int, Cond.methodLink RX3 25 yX3_copy]
def wsX4_letter : List Cond := .code yX4_letter cX4_letter 1 (some .int) :: ((wsX4_letter_r1 ++ (wsX4_letter_r2 ++ (wsX4_letter_r3 ++ (wsX4_letter_r4 ++ wsX4_letter_r5)))) ++ wsX40 ++ wsX30 ++ wsX10 ++ (vx_atS RX4 176 "java/lang/IllegalStateException" ["java/lang/RuntimeException", "java/lang/Exception"]).filter goodWord)
def wsX4_known : List Cond := .code yX4_known cX4_known 3 (some (.object "CertificateSums$Fraction")) :: ([.classLink RX4 167 "java/lang/IndexOutOfBoundsException", .initialized "java/lang/IndexOutOfBoundsException", .fieldLink RX4 27 "CertificateSums" "functions" "[LCertificateSums$Fraction;"] ++ wsX40 ++ (vx_atS RX4 171 "java/lang/IndexOutOfBoundsException" ["java/lang/RuntimeException", "java/lang/Exception"]).filter goodWord)
def wsX4_add_r1 : List Cond := [Cond.fieldLink RX4 35 "CertificateSums" "top" "LCertificateSums$Polynomial;", Cond.fieldLink RX4 85 "CertificateSums$Fraction" "top" "LCertificateSums$Polynomial;", Cond.fieldLink RX4 86 "CertificateSums$Fraction" "bottom" "LCertificateSums$Polynomial;", Cond.fieldLink RX4 41 "CertificateSums" "left" "LCertificateSums$Polynomial;", Cond.fieldLink RX4 38 "CertificateSums" "bottom" "LCertificateSums$Polynomial;", Cond.methodLink RX4 81 yX4_known, Cond.instanceMethod yX4_known, Cond.selects RX4 yX4_known yX4_known, Cond.initialized RX4, Cond.code yX4_known cX4_known 3 (some (.object "CertificateSums$Fraction")), Cond.classLink RX4 167 "java/lang/IndexOutOfBoundsException", Cond.initialized "java/lang/IndexOutOfBoundsException", Cond.fieldLink RX4 27 "CertificateSums" "functions" "[LCertificateSums$Fraction;", Cond.methodLink RX4 87 yX3_setProduct, Cond.instanceMethod yX3_setProduct, Cond.selects RX3 yX3_setProduct yX3_setProduct, Cond.initialized RX3, Cond.code yX3_setProduct cX3_setProduct 8 none, Cond.fieldLink RX3 21 "CertificateSums$Polynomial" "highest" "I", Cond.methodLink RX3 40 Lib.Math.min.name, Cond.static Lib.Math.min.name, Cond.initialized "java/lang/Math", Cond.code Lib.Math.min.name Lib.Math.min.code 2 (some .int), Cond.methodLink RX3 9 Lib.Math.max.name]
def wsX4_add_r2 : List Cond := [Cond.static Lib.Math.max.name, Cond.code Lib.Math.max.name Lib.Math.max.code 2 (some .int), Cond.methodLink RX3 37 yX3_clear, Cond.instanceMethod yX3_clear, Cond.selects RX3 yX3_clear yX3_clear, Cond.code yX3_clear cX3_clear 2 none, Cond.methodLink RX3 33 yX3_put, Cond.instanceMethod yX3_put, Cond.selects RX3 yX3_put yX3_put, Cond.code yX3_put cX3_put 4 none, Cond.fieldLink RX3 15 "CertificateSums$Polynomial" "row" "[I", Cond.methodLink RX3 29 yX3_coefficient, Cond.instanceMethod yX3_coefficient, Cond.selects RX3 yX3_coefficient yX3_coefficient, Cond.code yX3_coefficient cX3_coefficient 2 (some .int), Cond.methodLink RX3 43 yX2_reduced, Cond.static yX2_reduced, Cond.initialized RX2, Cond.code yX2_reduced cX2_reduced 3 (some .int), Cond.constantLong RX2 9 (32003), Cond.methodLink RX4 91 yX3_gather, Cond.instanceMethod yX3_gather, Cond.selects RX3 yX3_gather yX3_gather, Cond.code yX3_gather cX3_gather 7 none]
def wsX4_add_r3 : List Cond := [Cond.methodLink RX4 77 yX4_keepResult, Cond.instanceMethod yX4_keepResult, Cond.selects RX4 yX4_keepResult yX4_keepResult, Cond.code yX4_keepResult cX4_keepResult 2 (some .int), Cond.classLink RX4 172 "java/lang/IllegalStateException", Cond.initialized "java/lang/IllegalStateException", Cond.fieldLink RX4 135 "CertificateSums$Polynomial" "highest" "I", Cond.fieldLink RX4 31 "CertificateSums" "made" "I", Cond.classLink RX4 25 RX1, Cond.instantiable RX1 2, Cond.initialized RX1, Cond.methodLink RX4 128 yX4_refuseWhenFull, Cond.instanceMethod yX4_refuseWhenFull, Cond.selects RX4 yX4_refuseWhenFull yX4_refuseWhenFull, Cond.code yX4_refuseWhenFull cX4_refuseWhenFull 1 none, Cond.methodLink RX4 189 yX4_toLowestTerms, Cond.instanceMethod yX4_toLowestTerms, Cond.selects RX4 yX4_toLowestTerms yX4_toLowestTerms, Cond.code yX4_toLowestTerms cX4_toLowestTerms 3 none, Cond.fieldLink RX4 44 "CertificateSums" "right" "LCertificateSums$Polynomial;", Cond.fieldLink RX4 47 "CertificateSums" "quotient" "LCertificateSums$Polynomial;", Cond.methodLink RX4 104 yX3_copy, Cond.instanceMethod yX3_copy, Cond.selects RX3 yX3_copy yX3_copy]
def wsX4_add_r4 : List Cond := [Cond.code yX3_copy cX3_copy 3 none, Cond.methodLink RX4 196 yX4_greatestDivisor, Cond.static yX4_greatestDivisor, Cond.code yX4_greatestDivisor cX4_greatestDivisor 7 (some (.object "CertificateSums$Polynomial")), Cond.methodLink RX4 95 yX3_isZero, Cond.instanceMethod yX3_isZero, Cond.selects RX3 yX3_isZero yX3_isZero, Cond.code yX3_isZero cX3_isZero 1 (some .boolean), Cond.methodLink RX4 200 yX3_divide, Cond.instanceMethod yX3_divide, Cond.selects RX3 yX3_divide yX3_divide, Cond.code yX3_divide cX3_divide 6 none, Cond.methodLink RX3 52 yX3_isZero, Cond.methodLink RX3 56 yX3_leading, Cond.instanceMethod yX3_leading, Cond.selects RX3 yX3_leading yX3_leading, Cond.code yX3_leading cX3_leading 1 (some .int), Cond.methodLink RX3 60 yX2_inverse, Cond.static yX2_inverse, Cond.code yX2_inverse cX2_inverse 4 (some .int), Cond.methodLink RX2 11 yX2_reduced, Cond.methodLink RX3 49 yX2_product, Cond.static yX2_product, Cond.code yX2_product cX2_product 2 (some .int)]
def wsX4_add_r5 : List Cond := [Cond.methodLink RX3 63 yX3_gather, Cond.methodLink RX4 203 yX3_leading, Cond.methodLink RX4 161 yX2_inverse, Cond.methodLink RX4 206 yX3_scale, Cond.instanceMethod yX3_scale, Cond.selects RX3 yX3_scale yX3_scale, Cond.code yX3_scale cX3_scale 3 none, Cond.methodLink RX4 194 yX1_init, Cond.instanceMethod yX1_init, Cond.code yX1_init cX1_init 3 none, Cond.methodLink RX1 1 objectInit, Cond.instanceMethod objectInit, Cond.code objectInit ⟨#[0xb1]⟩ 1 none, Cond.classLink RX1 7 RX3, Cond.instantiable RX3 2, Cond.fieldLink RX1 12 "CertificateSums$Fraction" "top" "LCertificateSums$Polynomial;", Cond.fieldLink RX1 18 "CertificateSums$Fraction" "bottom" "LCertificateSums$Polynomial;", Cond.methodLink RX1 9 yX3_init_, Cond.instanceMethod yX3_init_, Cond.code yX3_init_ cX3_init_ 2 none, Cond.methodLink RX3 3 objectInit, Cond.arrayClass .int, Cond.methodLink RX3 25 yX3_copy]
def wsX4_add : List Cond := .code yX4_add cX4_add 5 (some .int) :: ((wsX4_add_r1 ++ (wsX4_add_r2 ++ (wsX4_add_r3 ++ (wsX4_add_r4 ++ wsX4_add_r5)))) ++ wsX40 ++ wsX10 ++ wsX30 ++ (vx_atS RX4 171 "java/lang/IndexOutOfBoundsException" ["java/lang/RuntimeException", "java/lang/Exception"]).filter goodWord ++ (vx_atS RX4 176 "java/lang/IllegalStateException" ["java/lang/RuntimeException", "java/lang/Exception"]).filter goodWord)
def wsX4_times_r1 : List Cond := [Cond.fieldLink RX4 35 "CertificateSums" "top" "LCertificateSums$Polynomial;", Cond.fieldLink RX4 85 "CertificateSums$Fraction" "top" "LCertificateSums$Polynomial;", Cond.fieldLink RX4 38 "CertificateSums" "bottom" "LCertificateSums$Polynomial;", Cond.fieldLink RX4 86 "CertificateSums$Fraction" "bottom" "LCertificateSums$Polynomial;", Cond.methodLink RX4 81 yX4_known, Cond.instanceMethod yX4_known, Cond.selects RX4 yX4_known yX4_known, Cond.initialized RX4, Cond.code yX4_known cX4_known 3 (some (.object "CertificateSums$Fraction")), Cond.classLink RX4 167 "java/lang/IndexOutOfBoundsException", Cond.initialized "java/lang/IndexOutOfBoundsException", Cond.fieldLink RX4 27 "CertificateSums" "functions" "[LCertificateSums$Fraction;", Cond.methodLink RX4 87 yX3_setProduct, Cond.instanceMethod yX3_setProduct, Cond.selects RX3 yX3_setProduct yX3_setProduct, Cond.initialized RX3, Cond.code yX3_setProduct cX3_setProduct 8 none, Cond.fieldLink RX3 21 "CertificateSums$Polynomial" "highest" "I", Cond.methodLink RX3 40 Lib.Math.min.name, Cond.static Lib.Math.min.name, Cond.initialized "java/lang/Math", Cond.code Lib.Math.min.name Lib.Math.min.code 2 (some .int), Cond.methodLink RX3 9 Lib.Math.max.name, Cond.static Lib.Math.max.name]
def wsX4_times_r2 : List Cond := [Cond.code Lib.Math.max.name Lib.Math.max.code 2 (some .int), Cond.methodLink RX3 37 yX3_clear, Cond.instanceMethod yX3_clear, Cond.selects RX3 yX3_clear yX3_clear, Cond.code yX3_clear cX3_clear 2 none, Cond.methodLink RX3 33 yX3_put, Cond.instanceMethod yX3_put, Cond.selects RX3 yX3_put yX3_put, Cond.code yX3_put cX3_put 4 none, Cond.fieldLink RX3 15 "CertificateSums$Polynomial" "row" "[I", Cond.methodLink RX3 29 yX3_coefficient, Cond.instanceMethod yX3_coefficient, Cond.selects RX3 yX3_coefficient yX3_coefficient, Cond.code yX3_coefficient cX3_coefficient 2 (some .int), Cond.methodLink RX3 43 yX2_reduced, Cond.static yX2_reduced, Cond.initialized RX2, Cond.code yX2_reduced cX2_reduced 3 (some .int), Cond.constantLong RX2 9 (32003), Cond.methodLink RX4 77 yX4_keepResult, Cond.instanceMethod yX4_keepResult, Cond.selects RX4 yX4_keepResult yX4_keepResult, Cond.code yX4_keepResult cX4_keepResult 2 (some .int), Cond.classLink RX4 172 "java/lang/IllegalStateException"]
def wsX4_times_r3 : List Cond := [Cond.initialized "java/lang/IllegalStateException", Cond.fieldLink RX4 135 "CertificateSums$Polynomial" "highest" "I", Cond.fieldLink RX4 31 "CertificateSums" "made" "I", Cond.classLink RX4 25 RX1, Cond.instantiable RX1 2, Cond.initialized RX1, Cond.methodLink RX4 128 yX4_refuseWhenFull, Cond.instanceMethod yX4_refuseWhenFull, Cond.selects RX4 yX4_refuseWhenFull yX4_refuseWhenFull, Cond.code yX4_refuseWhenFull cX4_refuseWhenFull 1 none, Cond.methodLink RX4 189 yX4_toLowestTerms, Cond.instanceMethod yX4_toLowestTerms, Cond.selects RX4 yX4_toLowestTerms yX4_toLowestTerms, Cond.code yX4_toLowestTerms cX4_toLowestTerms 3 none, Cond.fieldLink RX4 41 "CertificateSums" "left" "LCertificateSums$Polynomial;", Cond.fieldLink RX4 44 "CertificateSums" "right" "LCertificateSums$Polynomial;", Cond.fieldLink RX4 47 "CertificateSums" "quotient" "LCertificateSums$Polynomial;", Cond.methodLink RX4 104 yX3_copy, Cond.instanceMethod yX3_copy, Cond.selects RX3 yX3_copy yX3_copy, Cond.code yX3_copy cX3_copy 3 none, Cond.methodLink RX4 196 yX4_greatestDivisor, Cond.static yX4_greatestDivisor, Cond.code yX4_greatestDivisor cX4_greatestDivisor 7 (some (.object "CertificateSums$Polynomial"))]
def wsX4_times_r4 : List Cond := [Cond.methodLink RX4 95 yX3_isZero, Cond.instanceMethod yX3_isZero, Cond.selects RX3 yX3_isZero yX3_isZero, Cond.code yX3_isZero cX3_isZero 1 (some .boolean), Cond.methodLink RX4 200 yX3_divide, Cond.instanceMethod yX3_divide, Cond.selects RX3 yX3_divide yX3_divide, Cond.code yX3_divide cX3_divide 6 none, Cond.methodLink RX3 52 yX3_isZero, Cond.methodLink RX3 56 yX3_leading, Cond.instanceMethod yX3_leading, Cond.selects RX3 yX3_leading yX3_leading, Cond.code yX3_leading cX3_leading 1 (some .int), Cond.methodLink RX3 60 yX2_inverse, Cond.static yX2_inverse, Cond.code yX2_inverse cX2_inverse 4 (some .int), Cond.methodLink RX2 11 yX2_reduced, Cond.methodLink RX3 49 yX2_product, Cond.static yX2_product, Cond.code yX2_product cX2_product 2 (some .int), Cond.methodLink RX3 63 yX3_gather, Cond.instanceMethod yX3_gather, Cond.selects RX3 yX3_gather yX3_gather, Cond.code yX3_gather cX3_gather 7 none]
def wsX4_times_r5 : List Cond := [Cond.methodLink RX4 203 yX3_leading, Cond.methodLink RX4 161 yX2_inverse, Cond.methodLink RX4 206 yX3_scale, Cond.instanceMethod yX3_scale, Cond.selects RX3 yX3_scale yX3_scale, Cond.code yX3_scale cX3_scale 3 none, Cond.methodLink RX4 194 yX1_init, Cond.instanceMethod yX1_init, Cond.code yX1_init cX1_init 3 none, Cond.methodLink RX1 1 objectInit, Cond.instanceMethod objectInit, Cond.code objectInit ⟨#[0xb1]⟩ 1 none, Cond.classLink RX1 7 RX3, Cond.instantiable RX3 2, Cond.fieldLink RX1 12 "CertificateSums$Fraction" "top" "LCertificateSums$Polynomial;", Cond.fieldLink RX1 18 "CertificateSums$Fraction" "bottom" "LCertificateSums$Polynomial;", Cond.methodLink RX1 9 yX3_init_, Cond.instanceMethod yX3_init_, Cond.code yX3_init_ cX3_init_ 2 none, Cond.methodLink RX3 3 objectInit, Cond.arrayClass .int, Cond.methodLink RX3 25 yX3_copy]
def wsX4_times : List Cond := .code yX4_times cX4_times 5 (some .int) :: ((wsX4_times_r1 ++ (wsX4_times_r2 ++ (wsX4_times_r3 ++ (wsX4_times_r4 ++ wsX4_times_r5)))) ++ wsX40 ++ wsX10 ++ wsX30 ++ (vx_atS RX4 171 "java/lang/IndexOutOfBoundsException" ["java/lang/RuntimeException", "java/lang/Exception"]).filter goodWord ++ (vx_atS RX4 176 "java/lang/IllegalStateException" ["java/lang/RuntimeException", "java/lang/Exception"]).filter goodWord)
def wsX4_over_r1 : List Cond := [Cond.classLink RX4 99 "java/lang/ArithmeticException", Cond.initialized "java/lang/ArithmeticException", Cond.fieldLink RX4 85 "CertificateSums$Fraction" "top" "LCertificateSums$Polynomial;", Cond.fieldLink RX4 35 "CertificateSums" "top" "LCertificateSums$Polynomial;", Cond.fieldLink RX4 86 "CertificateSums$Fraction" "bottom" "LCertificateSums$Polynomial;", Cond.fieldLink RX4 38 "CertificateSums" "bottom" "LCertificateSums$Polynomial;", Cond.methodLink RX4 81 yX4_known, Cond.instanceMethod yX4_known, Cond.selects RX4 yX4_known yX4_known, Cond.initialized RX4, Cond.code yX4_known cX4_known 3 (some (.object "CertificateSums$Fraction")), Cond.classLink RX4 167 "java/lang/IndexOutOfBoundsException", Cond.initialized "java/lang/IndexOutOfBoundsException", Cond.fieldLink RX4 27 "CertificateSums" "functions" "[LCertificateSums$Fraction;", Cond.methodLink RX4 95 yX3_isZero, Cond.instanceMethod yX3_isZero, Cond.selects RX3 yX3_isZero yX3_isZero, Cond.initialized RX3, Cond.code yX3_isZero cX3_isZero 1 (some .boolean), Cond.fieldLink RX3 21 "CertificateSums$Polynomial" "highest" "I", Cond.methodLink RX4 87 yX3_setProduct, Cond.instanceMethod yX3_setProduct, Cond.selects RX3 yX3_setProduct yX3_setProduct, Cond.code yX3_setProduct cX3_setProduct 8 none]
def wsX4_over_r2 : List Cond := [Cond.methodLink RX3 40 Lib.Math.min.name, Cond.static Lib.Math.min.name, Cond.initialized "java/lang/Math", Cond.code Lib.Math.min.name Lib.Math.min.code 2 (some .int), Cond.methodLink RX3 9 Lib.Math.max.name, Cond.static Lib.Math.max.name, Cond.code Lib.Math.max.name Lib.Math.max.code 2 (some .int), Cond.methodLink RX3 37 yX3_clear, Cond.instanceMethod yX3_clear, Cond.selects RX3 yX3_clear yX3_clear, Cond.code yX3_clear cX3_clear 2 none, Cond.methodLink RX3 33 yX3_put, Cond.instanceMethod yX3_put, Cond.selects RX3 yX3_put yX3_put, Cond.code yX3_put cX3_put 4 none, Cond.fieldLink RX3 15 "CertificateSums$Polynomial" "row" "[I", Cond.methodLink RX3 29 yX3_coefficient, Cond.instanceMethod yX3_coefficient, Cond.selects RX3 yX3_coefficient yX3_coefficient, Cond.code yX3_coefficient cX3_coefficient 2 (some .int), Cond.methodLink RX3 43 yX2_reduced, Cond.static yX2_reduced, Cond.initialized RX2, Cond.code yX2_reduced cX2_reduced 3 (some .int)]
def wsX4_over_r3 : List Cond := [Cond.constantLong RX2 9 (32003), Cond.methodLink RX4 77 yX4_keepResult, Cond.instanceMethod yX4_keepResult, Cond.selects RX4 yX4_keepResult yX4_keepResult, Cond.code yX4_keepResult cX4_keepResult 2 (some .int), Cond.classLink RX4 172 "java/lang/IllegalStateException", Cond.initialized "java/lang/IllegalStateException", Cond.fieldLink RX4 135 "CertificateSums$Polynomial" "highest" "I", Cond.fieldLink RX4 31 "CertificateSums" "made" "I", Cond.classLink RX4 25 RX1, Cond.instantiable RX1 2, Cond.initialized RX1, Cond.methodLink RX4 128 yX4_refuseWhenFull, Cond.instanceMethod yX4_refuseWhenFull, Cond.selects RX4 yX4_refuseWhenFull yX4_refuseWhenFull, Cond.code yX4_refuseWhenFull cX4_refuseWhenFull 1 none, Cond.methodLink RX4 189 yX4_toLowestTerms, Cond.instanceMethod yX4_toLowestTerms, Cond.selects RX4 yX4_toLowestTerms yX4_toLowestTerms, Cond.code yX4_toLowestTerms cX4_toLowestTerms 3 none, Cond.fieldLink RX4 41 "CertificateSums" "left" "LCertificateSums$Polynomial;", Cond.fieldLink RX4 44 "CertificateSums" "right" "LCertificateSums$Polynomial;", Cond.fieldLink RX4 47 "CertificateSums" "quotient" "LCertificateSums$Polynomial;", Cond.methodLink RX4 104 yX3_copy]
def wsX4_over_r4 : List Cond := [Cond.instanceMethod yX3_copy, Cond.selects RX3 yX3_copy yX3_copy, Cond.code yX3_copy cX3_copy 3 none, Cond.methodLink RX4 196 yX4_greatestDivisor, Cond.static yX4_greatestDivisor, Cond.code yX4_greatestDivisor cX4_greatestDivisor 7 (some (.object "CertificateSums$Polynomial")), Cond.methodLink RX4 200 yX3_divide, Cond.instanceMethod yX3_divide, Cond.selects RX3 yX3_divide yX3_divide, Cond.code yX3_divide cX3_divide 6 none, Cond.methodLink RX3 52 yX3_isZero, Cond.methodLink RX3 56 yX3_leading, Cond.instanceMethod yX3_leading, Cond.selects RX3 yX3_leading yX3_leading, Cond.code yX3_leading cX3_leading 1 (some .int), Cond.methodLink RX3 60 yX2_inverse, Cond.static yX2_inverse, Cond.code yX2_inverse cX2_inverse 4 (some .int), Cond.methodLink RX2 11 yX2_reduced, Cond.methodLink RX3 49 yX2_product, Cond.static yX2_product, Cond.code yX2_product cX2_product 2 (some .int), Cond.methodLink RX3 63 yX3_gather, Cond.instanceMethod yX3_gather]
def wsX4_over_r5 : List Cond := [Cond.selects RX3 yX3_gather yX3_gather, Cond.code yX3_gather cX3_gather 7 none, Cond.methodLink RX4 203 yX3_leading, Cond.methodLink RX4 161 yX2_inverse, Cond.methodLink RX4 206 yX3_scale, Cond.instanceMethod yX3_scale, Cond.selects RX3 yX3_scale yX3_scale, Cond.code yX3_scale cX3_scale 3 none, Cond.methodLink RX4 194 yX1_init, Cond.instanceMethod yX1_init, Cond.code yX1_init cX1_init 3 none, Cond.methodLink RX1 1 objectInit, Cond.instanceMethod objectInit, Cond.code objectInit ⟨#[0xb1]⟩ 1 none, Cond.classLink RX1 7 RX3, Cond.instantiable RX3 2, Cond.fieldLink RX1 12 "CertificateSums$Fraction" "top" "LCertificateSums$Polynomial;", Cond.fieldLink RX1 18 "CertificateSums$Fraction" "bottom" "LCertificateSums$Polynomial;", Cond.methodLink RX1 9 yX3_init_, Cond.instanceMethod yX3_init_, Cond.code yX3_init_ cX3_init_ 2 none, Cond.methodLink RX3 3 objectInit, Cond.arrayClass .int, Cond.methodLink RX3 25 yX3_copy]
def wsX4_over : List Cond := .code yX4_over cX4_over 5 (some .int) :: ((wsX4_over_r1 ++ (wsX4_over_r2 ++ (wsX4_over_r3 ++ (wsX4_over_r4 ++ wsX4_over_r5)))) ++ wsX10 ++ wsX40 ++ wsX30 ++ (vx_atS RX4 103 "java/lang/ArithmeticException" ["java/lang/RuntimeException", "java/lang/Exception"]).filter goodWord ++ (vx_atS RX4 171 "java/lang/IndexOutOfBoundsException" ["java/lang/RuntimeException", "java/lang/Exception"]).filter goodWord ++ (vx_atS RX4 176 "java/lang/IllegalStateException" ["java/lang/RuntimeException", "java/lang/Exception"]).filter goodWord)
def wsX4_moved_r1 : List Cond := [Cond.fieldLink RX4 35 "CertificateSums" "top" "LCertificateSums$Polynomial;", Cond.fieldLink RX4 85 "CertificateSums$Fraction" "top" "LCertificateSums$Polynomial;", Cond.fieldLink RX4 38 "CertificateSums" "bottom" "LCertificateSums$Polynomial;", Cond.fieldLink RX4 86 "CertificateSums$Fraction" "bottom" "LCertificateSums$Polynomial;", Cond.methodLink RX4 81 yX4_known, Cond.instanceMethod yX4_known, Cond.selects RX4 yX4_known yX4_known, Cond.initialized RX4, Cond.code yX4_known cX4_known 3 (some (.object "CertificateSums$Fraction")), Cond.classLink RX4 167 "java/lang/IndexOutOfBoundsException", Cond.initialized "java/lang/IndexOutOfBoundsException", Cond.fieldLink RX4 27 "CertificateSums" "functions" "[LCertificateSums$Fraction;", Cond.methodLink RX4 104 yX3_copy, Cond.instanceMethod yX3_copy, Cond.selects RX3 yX3_copy yX3_copy, Cond.initialized RX3, Cond.code yX3_copy cX3_copy 3 none, Cond.fieldLink RX3 21 "CertificateSums$Polynomial" "highest" "I", Cond.methodLink RX3 37 yX3_clear, Cond.instanceMethod yX3_clear, Cond.selects RX3 yX3_clear yX3_clear, Cond.code yX3_clear cX3_clear 2 none, Cond.methodLink RX3 33 yX3_put, Cond.instanceMethod yX3_put]
def wsX4_moved_r2 : List Cond := [Cond.selects RX3 yX3_put yX3_put, Cond.code yX3_put cX3_put 4 none, Cond.fieldLink RX3 15 "CertificateSums$Polynomial" "row" "[I", Cond.methodLink RX3 29 yX3_coefficient, Cond.instanceMethod yX3_coefficient, Cond.selects RX3 yX3_coefficient yX3_coefficient, Cond.code yX3_coefficient cX3_coefficient 2 (some .int), Cond.methodLink RX4 108 yX3_moveByOne, Cond.instanceMethod yX3_moveByOne, Cond.selects RX3 yX3_moveByOne yX3_moveByOne, Cond.code yX3_moveByOne cX3_moveByOne 3 none, Cond.methodLink RX3 43 yX2_reduced, Cond.static yX2_reduced, Cond.initialized RX2, Cond.code yX2_reduced cX2_reduced 3 (some .int), Cond.constantLong RX2 9 (32003), Cond.methodLink RX4 77 yX4_keepResult, Cond.instanceMethod yX4_keepResult, Cond.selects RX4 yX4_keepResult yX4_keepResult, Cond.code yX4_keepResult cX4_keepResult 2 (some .int), Cond.classLink RX4 172 "java/lang/IllegalStateException", Cond.initialized "java/lang/IllegalStateException", Cond.fieldLink RX4 135 "CertificateSums$Polynomial" "highest" "I", Cond.fieldLink RX4 31 "CertificateSums" "made" "I"]
def wsX4_moved_r3 : List Cond := [Cond.classLink RX4 25 RX1, Cond.instantiable RX1 2, Cond.initialized RX1, Cond.methodLink RX4 128 yX4_refuseWhenFull, Cond.instanceMethod yX4_refuseWhenFull, Cond.selects RX4 yX4_refuseWhenFull yX4_refuseWhenFull, Cond.code yX4_refuseWhenFull cX4_refuseWhenFull 1 none, Cond.methodLink RX4 189 yX4_toLowestTerms, Cond.instanceMethod yX4_toLowestTerms, Cond.selects RX4 yX4_toLowestTerms yX4_toLowestTerms, Cond.code yX4_toLowestTerms cX4_toLowestTerms 3 none, Cond.fieldLink RX4 41 "CertificateSums" "left" "LCertificateSums$Polynomial;", Cond.fieldLink RX4 44 "CertificateSums" "right" "LCertificateSums$Polynomial;", Cond.fieldLink RX4 47 "CertificateSums" "quotient" "LCertificateSums$Polynomial;", Cond.methodLink RX4 196 yX4_greatestDivisor, Cond.static yX4_greatestDivisor, Cond.code yX4_greatestDivisor cX4_greatestDivisor 7 (some (.object "CertificateSums$Polynomial")), Cond.methodLink RX4 95 yX3_isZero, Cond.instanceMethod yX3_isZero, Cond.selects RX3 yX3_isZero yX3_isZero, Cond.code yX3_isZero cX3_isZero 1 (some .boolean), Cond.methodLink RX4 200 yX3_divide, Cond.instanceMethod yX3_divide, Cond.selects RX3 yX3_divide yX3_divide]
def wsX4_moved_r4 : List Cond := [Cond.code yX3_divide cX3_divide 6 none, Cond.methodLink RX3 52 yX3_isZero, Cond.methodLink RX3 56 yX3_leading, Cond.instanceMethod yX3_leading, Cond.selects RX3 yX3_leading yX3_leading, Cond.code yX3_leading cX3_leading 1 (some .int), Cond.methodLink RX3 60 yX2_inverse, Cond.static yX2_inverse, Cond.code yX2_inverse cX2_inverse 4 (some .int), Cond.methodLink RX2 11 yX2_reduced, Cond.methodLink RX3 49 yX2_product, Cond.static yX2_product, Cond.code yX2_product cX2_product 2 (some .int), Cond.methodLink RX3 63 yX3_gather, Cond.instanceMethod yX3_gather, Cond.selects RX3 yX3_gather yX3_gather, Cond.code yX3_gather cX3_gather 7 none, Cond.methodLink RX4 203 yX3_leading, Cond.methodLink RX4 161 yX2_inverse, Cond.methodLink RX4 206 yX3_scale, Cond.instanceMethod yX3_scale, Cond.selects RX3 yX3_scale yX3_scale, Cond.code yX3_scale cX3_scale 3 none, Cond.methodLink RX4 194 yX1_init]
def wsX4_moved_r5 : List Cond := [Cond.instanceMethod yX1_init, Cond.code yX1_init cX1_init 3 none, Cond.methodLink RX1 1 objectInit, Cond.instanceMethod objectInit, Cond.code objectInit ⟨#[0xb1]⟩ 1 none, Cond.classLink RX1 7 RX3, Cond.instantiable RX3 2, Cond.fieldLink RX1 12 "CertificateSums$Fraction" "top" "LCertificateSums$Polynomial;", Cond.fieldLink RX1 18 "CertificateSums$Fraction" "bottom" "LCertificateSums$Polynomial;", Cond.methodLink RX1 9 yX3_init_, Cond.instanceMethod yX3_init_, Cond.code yX3_init_ cX3_init_ 2 none, Cond.methodLink RX3 3 objectInit, Cond.methodLink RX3 9 Lib.Math.max.name, Cond.static Lib.Math.max.name, Cond.initialized "java/lang/Math", Cond.code Lib.Math.max.name Lib.Math.max.code 2 (some .int), Cond.arrayClass .int, Cond.methodLink RX3 25 yX3_copy]
def wsX4_moved : List Cond := .code yX4_moved cX4_moved 3 (some .int) :: ((wsX4_moved_r1 ++ (wsX4_moved_r2 ++ (wsX4_moved_r3 ++ (wsX4_moved_r4 ++ wsX4_moved_r5)))) ++ wsX40 ++ wsX10 ++ wsX30 ++ (vx_atS RX4 171 "java/lang/IndexOutOfBoundsException" ["java/lang/RuntimeException", "java/lang/Exception"]).filter goodWord ++ (vx_atS RX4 176 "java/lang/IllegalStateException" ["java/lang/RuntimeException", "java/lang/Exception"]).filter goodWord)
def wsX4_refuseZeroRatioBottom : List Cond := .code yX4_refuseZeroRatioBottom cX4_refuseZeroRatioBottom 1 none :: ([.classLink RX4 99 "java/lang/ArithmeticException", .initialized "java/lang/ArithmeticException", .fieldLink RX4 22 "CertificateSums" "ratioBottom" "LCertificateSums$Polynomial;", .methodLink RX4 95 yX3_isZero, .instanceMethod yX3_isZero, .selects RX3 yX3_isZero yX3_isZero, .initialized RX3, .code yX3_isZero cX3_isZero 1 (some .boolean), .fieldLink RX3 21 "CertificateSums$Polynomial" "highest" "I"] ++ wsX40 ++ wsX30 ++ (vx_atS RX4 103 "java/lang/ArithmeticException" ["java/lang/RuntimeException", "java/lang/Exception"]).filter goodWord)
def wsX4_setToStep_r1 : List Cond := [Cond.fieldLink RX4 41 "CertificateSums" "left" "LCertificateSums$Polynomial;", Cond.fieldLink RX4 85 "CertificateSums$Fraction" "top" "LCertificateSums$Polynomial;", Cond.fieldLink RX4 44 "CertificateSums" "right" "LCertificateSums$Polynomial;", Cond.fieldLink RX4 14 "CertificateSums" "ratioTop" "LCertificateSums$Polynomial;", Cond.fieldLink RX4 35 "CertificateSums" "top" "LCertificateSums$Polynomial;", Cond.fieldLink RX4 86 "CertificateSums$Fraction" "bottom" "LCertificateSums$Polynomial;", Cond.fieldLink RX4 22 "CertificateSums" "ratioBottom" "LCertificateSums$Polynomial;", Cond.fieldLink RX4 38 "CertificateSums" "bottom" "LCertificateSums$Polynomial;", Cond.methodLink RX4 104 yX3_copy, Cond.instanceMethod yX3_copy, Cond.selects RX3 yX3_copy yX3_copy, Cond.initialized RX3, Cond.code yX3_copy cX3_copy 3 none, Cond.fieldLink RX3 21 "CertificateSums$Polynomial" "highest" "I", Cond.methodLink RX3 37 yX3_clear, Cond.instanceMethod yX3_clear, Cond.selects RX3 yX3_clear yX3_clear, Cond.code yX3_clear cX3_clear 2 none, Cond.methodLink RX3 33 yX3_put, Cond.instanceMethod yX3_put, Cond.selects RX3 yX3_put yX3_put, Cond.code yX3_put cX3_put 4 none, Cond.fieldLink RX3 15 "CertificateSums$Polynomial" "row" "[I", Cond.methodLink RX3 29 yX3_coefficient]
def wsX4_setToStep_r2 : List Cond := [Cond.instanceMethod yX3_coefficient, Cond.selects RX3 yX3_coefficient yX3_coefficient, Cond.code yX3_coefficient cX3_coefficient 2 (some .int), Cond.methodLink RX4 108 yX3_moveByOne, Cond.instanceMethod yX3_moveByOne, Cond.selects RX3 yX3_moveByOne yX3_moveByOne, Cond.code yX3_moveByOne cX3_moveByOne 3 none, Cond.methodLink RX3 43 yX2_reduced, Cond.static yX2_reduced, Cond.initialized RX2, Cond.code yX2_reduced cX2_reduced 3 (some .int), Cond.constantLong RX2 9 (32003), Cond.methodLink RX4 87 yX3_setProduct, Cond.instanceMethod yX3_setProduct, Cond.selects RX3 yX3_setProduct yX3_setProduct, Cond.code yX3_setProduct cX3_setProduct 8 none, Cond.methodLink RX3 40 Lib.Math.min.name, Cond.static Lib.Math.min.name, Cond.initialized "java/lang/Math", Cond.code Lib.Math.min.name Lib.Math.min.code 2 (some .int), Cond.methodLink RX3 9 Lib.Math.max.name, Cond.static Lib.Math.max.name, Cond.code Lib.Math.max.name Lib.Math.max.code 2 (some .int), Cond.methodLink RX4 91 yX3_gather]
def wsX4_setToStep_r3 : List Cond := [Cond.instanceMethod yX3_gather, Cond.selects RX3 yX3_gather yX3_gather, Cond.code yX3_gather cX3_gather 7 none]
def wsX4_setToStep : List Cond := .code yX4_setToStep cX4_setToStep 2 none :: ((wsX4_setToStep_r1 ++ (wsX4_setToStep_r2 ++ wsX4_setToStep_r3)) ++ wsX40 ++ wsX10 ++ wsX30)
def wsX4_step_r1 : List Cond := [Cond.methodLink RX4 81 yX4_known, Cond.instanceMethod yX4_known, Cond.selects RX4 yX4_known yX4_known, Cond.initialized RX4, Cond.code yX4_known cX4_known 3 (some (.object "CertificateSums$Fraction")), Cond.classLink RX4 167 "java/lang/IndexOutOfBoundsException", Cond.initialized "java/lang/IndexOutOfBoundsException", Cond.fieldLink RX4 27 "CertificateSums" "functions" "[LCertificateSums$Fraction;", Cond.methodLink RX4 111 yX4_refuseZeroRatioBottom, Cond.instanceMethod yX4_refuseZeroRatioBottom, Cond.selects RX4 yX4_refuseZeroRatioBottom yX4_refuseZeroRatioBottom, Cond.code yX4_refuseZeroRatioBottom cX4_refuseZeroRatioBottom 1 none, Cond.classLink RX4 99 "java/lang/ArithmeticException", Cond.initialized "java/lang/ArithmeticException", Cond.fieldLink RX4 22 "CertificateSums" "ratioBottom" "LCertificateSums$Polynomial;", Cond.methodLink RX4 95 yX3_isZero, Cond.instanceMethod yX3_isZero, Cond.selects RX3 yX3_isZero yX3_isZero, Cond.initialized RX3, Cond.code yX3_isZero cX3_isZero 1 (some .boolean), Cond.fieldLink RX3 21 "CertificateSums$Polynomial" "highest" "I", Cond.methodLink RX4 114 yX4_setToStep, Cond.instanceMethod yX4_setToStep, Cond.selects RX4 yX4_setToStep yX4_setToStep]
def wsX4_step_r2 : List Cond := [Cond.code yX4_setToStep cX4_setToStep 2 none, Cond.fieldLink RX4 41 "CertificateSums" "left" "LCertificateSums$Polynomial;", Cond.fieldLink RX4 85 "CertificateSums$Fraction" "top" "LCertificateSums$Polynomial;", Cond.fieldLink RX4 44 "CertificateSums" "right" "LCertificateSums$Polynomial;", Cond.fieldLink RX4 14 "CertificateSums" "ratioTop" "LCertificateSums$Polynomial;", Cond.fieldLink RX4 35 "CertificateSums" "top" "LCertificateSums$Polynomial;", Cond.fieldLink RX4 86 "CertificateSums$Fraction" "bottom" "LCertificateSums$Polynomial;", Cond.fieldLink RX4 38 "CertificateSums" "bottom" "LCertificateSums$Polynomial;", Cond.methodLink RX4 104 yX3_copy, Cond.instanceMethod yX3_copy, Cond.selects RX3 yX3_copy yX3_copy, Cond.code yX3_copy cX3_copy 3 none, Cond.methodLink RX3 37 yX3_clear, Cond.instanceMethod yX3_clear, Cond.selects RX3 yX3_clear yX3_clear, Cond.code yX3_clear cX3_clear 2 none, Cond.methodLink RX3 33 yX3_put, Cond.instanceMethod yX3_put, Cond.selects RX3 yX3_put yX3_put, Cond.code yX3_put cX3_put 4 none, Cond.fieldLink RX3 15 "CertificateSums$Polynomial" "row" "[I", Cond.methodLink RX3 29 yX3_coefficient, Cond.instanceMethod yX3_coefficient, Cond.selects RX3 yX3_coefficient yX3_coefficient]
def wsX4_step_r3 : List Cond := [Cond.code yX3_coefficient cX3_coefficient 2 (some .int), Cond.methodLink RX4 108 yX3_moveByOne, Cond.instanceMethod yX3_moveByOne, Cond.selects RX3 yX3_moveByOne yX3_moveByOne, Cond.code yX3_moveByOne cX3_moveByOne 3 none, Cond.methodLink RX3 43 yX2_reduced, Cond.static yX2_reduced, Cond.initialized RX2, Cond.code yX2_reduced cX2_reduced 3 (some .int), Cond.constantLong RX2 9 (32003), Cond.methodLink RX4 87 yX3_setProduct, Cond.instanceMethod yX3_setProduct, Cond.selects RX3 yX3_setProduct yX3_setProduct, Cond.code yX3_setProduct cX3_setProduct 8 none, Cond.methodLink RX3 40 Lib.Math.min.name, Cond.static Lib.Math.min.name, Cond.initialized "java/lang/Math", Cond.code Lib.Math.min.name Lib.Math.min.code 2 (some .int), Cond.methodLink RX3 9 Lib.Math.max.name, Cond.static Lib.Math.max.name, Cond.code Lib.Math.max.name Lib.Math.max.code 2 (some .int), Cond.methodLink RX4 91 yX3_gather, Cond.instanceMethod yX3_gather, Cond.selects RX3 yX3_gather yX3_gather]
def wsX4_step_r4 : List Cond := [Cond.code yX3_gather cX3_gather 7 none, Cond.methodLink RX4 77 yX4_keepResult, Cond.instanceMethod yX4_keepResult, Cond.selects RX4 yX4_keepResult yX4_keepResult, Cond.code yX4_keepResult cX4_keepResult 2 (some .int), Cond.classLink RX4 172 "java/lang/IllegalStateException", Cond.initialized "java/lang/IllegalStateException", Cond.fieldLink RX4 135 "CertificateSums$Polynomial" "highest" "I", Cond.fieldLink RX4 31 "CertificateSums" "made" "I", Cond.classLink RX4 25 RX1, Cond.instantiable RX1 2, Cond.initialized RX1, Cond.methodLink RX4 128 yX4_refuseWhenFull, Cond.instanceMethod yX4_refuseWhenFull, Cond.selects RX4 yX4_refuseWhenFull yX4_refuseWhenFull, Cond.code yX4_refuseWhenFull cX4_refuseWhenFull 1 none, Cond.methodLink RX4 189 yX4_toLowestTerms, Cond.instanceMethod yX4_toLowestTerms, Cond.selects RX4 yX4_toLowestTerms yX4_toLowestTerms, Cond.code yX4_toLowestTerms cX4_toLowestTerms 3 none, Cond.fieldLink RX4 47 "CertificateSums" "quotient" "LCertificateSums$Polynomial;", Cond.methodLink RX4 196 yX4_greatestDivisor, Cond.static yX4_greatestDivisor, Cond.code yX4_greatestDivisor cX4_greatestDivisor 7 (some (.object "CertificateSums$Polynomial"))]
def wsX4_step_r5 : List Cond := [Cond.methodLink RX4 200 yX3_divide, Cond.instanceMethod yX3_divide, Cond.selects RX3 yX3_divide yX3_divide, Cond.code yX3_divide cX3_divide 6 none, Cond.methodLink RX3 52 yX3_isZero, Cond.methodLink RX3 56 yX3_leading, Cond.instanceMethod yX3_leading, Cond.selects RX3 yX3_leading yX3_leading, Cond.code yX3_leading cX3_leading 1 (some .int), Cond.methodLink RX3 60 yX2_inverse, Cond.static yX2_inverse, Cond.code yX2_inverse cX2_inverse 4 (some .int), Cond.methodLink RX2 11 yX2_reduced, Cond.methodLink RX3 49 yX2_product, Cond.static yX2_product, Cond.code yX2_product cX2_product 2 (some .int), Cond.methodLink RX3 63 yX3_gather, Cond.methodLink RX4 203 yX3_leading, Cond.methodLink RX4 161 yX2_inverse, Cond.methodLink RX4 206 yX3_scale, Cond.instanceMethod yX3_scale, Cond.selects RX3 yX3_scale yX3_scale, Cond.code yX3_scale cX3_scale 3 none, Cond.methodLink RX4 194 yX1_init]
def wsX4_step_r6 : List Cond := [Cond.instanceMethod yX1_init, Cond.code yX1_init cX1_init 3 none, Cond.methodLink RX1 1 objectInit, Cond.instanceMethod objectInit, Cond.code objectInit ⟨#[0xb1]⟩ 1 none, Cond.classLink RX1 7 RX3, Cond.instantiable RX3 2, Cond.fieldLink RX1 12 "CertificateSums$Fraction" "top" "LCertificateSums$Polynomial;", Cond.fieldLink RX1 18 "CertificateSums$Fraction" "bottom" "LCertificateSums$Polynomial;", Cond.methodLink RX1 9 yX3_init_, Cond.instanceMethod yX3_init_, Cond.code yX3_init_ cX3_init_ 2 none, Cond.methodLink RX3 3 objectInit, Cond.arrayClass .int, Cond.methodLink RX3 25 yX3_copy]
def wsX4_step : List Cond := .code yX4_step cX4_step 3 (some .int) :: ((wsX4_step_r1 ++ (wsX4_step_r2 ++ (wsX4_step_r3 ++ (wsX4_step_r4 ++ (wsX4_step_r5 ++ wsX4_step_r6))))) ++ wsX40 ++ wsX30 ++ wsX10 ++ (vx_atS RX4 171 "java/lang/IndexOutOfBoundsException" ["java/lang/RuntimeException", "java/lang/Exception"]).filter goodWord ++ (vx_atS RX4 103 "java/lang/ArithmeticException" ["java/lang/RuntimeException", "java/lang/Exception"]).filter goodWord ++ (vx_atS RX4 176 "java/lang/IllegalStateException" ["java/lang/RuntimeException", "java/lang/Exception"]).filter goodWord)
def wsX4_proves_r1 : List Cond := [Cond.fieldLink RX4 41 "CertificateSums" "left" "LCertificateSums$Polynomial;", Cond.fieldLink RX4 85 "CertificateSums$Fraction" "top" "LCertificateSums$Polynomial;", Cond.fieldLink RX4 38 "CertificateSums" "bottom" "LCertificateSums$Polynomial;", Cond.fieldLink RX4 44 "CertificateSums" "right" "LCertificateSums$Polynomial;", Cond.fieldLink RX4 86 "CertificateSums$Fraction" "bottom" "LCertificateSums$Polynomial;", Cond.fieldLink RX4 35 "CertificateSums" "top" "LCertificateSums$Polynomial;", Cond.methodLink RX4 81 yX4_known, Cond.instanceMethod yX4_known, Cond.selects RX4 yX4_known yX4_known, Cond.initialized RX4, Cond.code yX4_known cX4_known 3 (some (.object "CertificateSums$Fraction")), Cond.classLink RX4 167 "java/lang/IndexOutOfBoundsException", Cond.initialized "java/lang/IndexOutOfBoundsException", Cond.fieldLink RX4 27 "CertificateSums" "functions" "[LCertificateSums$Fraction;", Cond.methodLink RX4 111 yX4_refuseZeroRatioBottom, Cond.instanceMethod yX4_refuseZeroRatioBottom, Cond.selects RX4 yX4_refuseZeroRatioBottom yX4_refuseZeroRatioBottom, Cond.code yX4_refuseZeroRatioBottom cX4_refuseZeroRatioBottom 1 none, Cond.classLink RX4 99 "java/lang/ArithmeticException", Cond.initialized "java/lang/ArithmeticException", Cond.fieldLink RX4 22 "CertificateSums" "ratioBottom" "LCertificateSums$Polynomial;", Cond.methodLink RX4 95 yX3_isZero, Cond.instanceMethod yX3_isZero, Cond.selects RX3 yX3_isZero yX3_isZero]
def wsX4_proves_r2 : List Cond := [Cond.initialized RX3, Cond.code yX3_isZero cX3_isZero 1 (some .boolean), Cond.fieldLink RX3 21 "CertificateSums$Polynomial" "highest" "I", Cond.methodLink RX4 114 yX4_setToStep, Cond.instanceMethod yX4_setToStep, Cond.selects RX4 yX4_setToStep yX4_setToStep, Cond.code yX4_setToStep cX4_setToStep 2 none, Cond.fieldLink RX4 14 "CertificateSums" "ratioTop" "LCertificateSums$Polynomial;", Cond.methodLink RX4 104 yX3_copy, Cond.instanceMethod yX3_copy, Cond.selects RX3 yX3_copy yX3_copy, Cond.code yX3_copy cX3_copy 3 none, Cond.methodLink RX3 37 yX3_clear, Cond.instanceMethod yX3_clear, Cond.selects RX3 yX3_clear yX3_clear, Cond.code yX3_clear cX3_clear 2 none, Cond.methodLink RX3 33 yX3_put, Cond.instanceMethod yX3_put, Cond.selects RX3 yX3_put yX3_put, Cond.code yX3_put cX3_put 4 none, Cond.fieldLink RX3 15 "CertificateSums$Polynomial" "row" "[I", Cond.methodLink RX3 29 yX3_coefficient, Cond.instanceMethod yX3_coefficient, Cond.selects RX3 yX3_coefficient yX3_coefficient]
def wsX4_proves_r3 : List Cond := [Cond.code yX3_coefficient cX3_coefficient 2 (some .int), Cond.methodLink RX4 108 yX3_moveByOne, Cond.instanceMethod yX3_moveByOne, Cond.selects RX3 yX3_moveByOne yX3_moveByOne, Cond.code yX3_moveByOne cX3_moveByOne 3 none, Cond.methodLink RX3 43 yX2_reduced, Cond.static yX2_reduced, Cond.initialized RX2, Cond.code yX2_reduced cX2_reduced 3 (some .int), Cond.constantLong RX2 9 (32003), Cond.methodLink RX4 87 yX3_setProduct, Cond.instanceMethod yX3_setProduct, Cond.selects RX3 yX3_setProduct yX3_setProduct, Cond.code yX3_setProduct cX3_setProduct 8 none, Cond.methodLink RX3 40 Lib.Math.min.name, Cond.static Lib.Math.min.name, Cond.initialized "java/lang/Math", Cond.code Lib.Math.min.name Lib.Math.min.code 2 (some .int), Cond.methodLink RX3 9 Lib.Math.max.name, Cond.static Lib.Math.max.name, Cond.code Lib.Math.max.name Lib.Math.max.code 2 (some .int), Cond.methodLink RX4 91 yX3_gather, Cond.instanceMethod yX3_gather, Cond.selects RX3 yX3_gather yX3_gather]
def wsX4_proves_r4 : List Cond := [Cond.code yX3_gather cX3_gather 7 none, Cond.methodLink RX4 118 yX3_matches, Cond.instanceMethod yX3_matches, Cond.selects RX3 yX3_matches yX3_matches, Cond.code yX3_matches cX3_matches 3 (some .boolean)]
def wsX4_proves : List Cond := .code yX4_proves cX4_proves 5 (some .boolean) :: ((wsX4_proves_r1 ++ (wsX4_proves_r2 ++ (wsX4_proves_r3 ++ wsX4_proves_r4))) ++ wsX40 ++ wsX10 ++ wsX30 ++ (vx_atS RX4 171 "java/lang/IndexOutOfBoundsException" ["java/lang/RuntimeException", "java/lang/Exception"]).filter goodWord ++ (vx_atS RX4 103 "java/lang/ArithmeticException" ["java/lang/RuntimeException", "java/lang/Exception"]).filter goodWord)
def wsX4_refuseZeroDivisors : List Cond := .code yX4_refuseZeroDivisors cX4_refuseZeroDivisors 2 none :: ([.classLink RX4 99 "java/lang/ArithmeticException", .initialized "java/lang/ArithmeticException", .fieldLink RX4 85 "CertificateSums$Fraction" "top" "LCertificateSums$Polynomial;", .methodLink RX4 111 yX4_refuseZeroRatioBottom, .instanceMethod yX4_refuseZeroRatioBottom, .selects RX4 yX4_refuseZeroRatioBottom yX4_refuseZeroRatioBottom, .initialized RX4, .code yX4_refuseZeroRatioBottom cX4_refuseZeroRatioBottom 1 none, .fieldLink RX4 22 "CertificateSums" "ratioBottom" "LCertificateSums$Polynomial;", .methodLink RX4 95 yX3_isZero, .instanceMethod yX3_isZero, .selects RX3 yX3_isZero yX3_isZero, .initialized RX3, .code yX3_isZero cX3_isZero 1 (some .boolean), .fieldLink RX3 21 "CertificateSums$Polynomial" "highest" "I"] ++ wsX10 ++ wsX40 ++ wsX30 ++ (vx_atS RX4 103 "java/lang/ArithmeticException" ["java/lang/RuntimeException", "java/lang/Exception"]).filter goodWord)
def wsX4_refuseWrongBound : List Cond := .code yX4_refuseWrongBound cX4_refuseWrongBound 1 none :: ([.classLink RX4 57 "java/lang/IllegalArgumentException", .initialized "java/lang/IllegalArgumentException"] ++ (vx_atS RX4 61 "java/lang/IllegalArgumentException" ["java/lang/RuntimeException", "java/lang/Exception"]).filter goodWord)
def wsX4_findPlain_r1 : List Cond := [Cond.fieldLink RX4 53 "CertificateSums" "equations" "LCertificateSums$Equations;", Cond.fieldLink RX4 85 "CertificateSums$Fraction" "top" "LCertificateSums$Polynomial;", Cond.fieldLink RX4 14 "CertificateSums" "ratioTop" "LCertificateSums$Polynomial;", Cond.fieldLink RX4 22 "CertificateSums" "ratioBottom" "LCertificateSums$Polynomial;", Cond.fieldLink RX4 35 "CertificateSums" "top" "LCertificateSums$Polynomial;", Cond.methodLink RX4 144 yX0_set, Cond.instanceMethod yX0_set, Cond.selects RX0 yX0_set yX0_set, Cond.initialized RX0, Cond.code yX0_set cX0_set 6 none, Cond.fieldLink RX0 30 "CertificateSums$Equations" "movedBase" "LCertificateSums$Polynomial;", Cond.fieldLink RX0 33 "CertificateSums$Equations" "work" "LCertificateSums$Polynomial;", Cond.fieldLink RX0 51 "CertificateSums$Fraction" "top" "LCertificateSums$Polynomial;", Cond.fieldLink RX0 24 "CertificateSums$Equations" "growing" "LCertificateSums$Polynomial;", Cond.fieldLink RX0 20 "CertificateSums$Equations" "target" "LCertificateSums$Polynomial;", Cond.fieldLink RX0 60 "CertificateSums$Fraction" "bottom" "LCertificateSums$Polynomial;", Cond.fieldLink RX0 27 "CertificateSums$Equations" "staying" "LCertificateSums$Polynomial;", Cond.fieldLink RX0 11 "CertificateSums$Equations" "columns" "[LCertificateSums$Polynomial;", Cond.methodLink RX0 44 yX3_copy, Cond.instanceMethod yX3_copy, Cond.selects RX3 yX3_copy yX3_copy, Cond.initialized RX3, Cond.code yX3_copy cX3_copy 3 none, Cond.fieldLink RX3 21 "CertificateSums$Polynomial" "highest" "I"]
def wsX4_findPlain_r2 : List Cond := [Cond.methodLink RX3 37 yX3_clear, Cond.instanceMethod yX3_clear, Cond.selects RX3 yX3_clear yX3_clear, Cond.code yX3_clear cX3_clear 2 none, Cond.methodLink RX3 33 yX3_put, Cond.instanceMethod yX3_put, Cond.selects RX3 yX3_put yX3_put, Cond.code yX3_put cX3_put 4 none, Cond.fieldLink RX3 15 "CertificateSums$Polynomial" "row" "[I", Cond.methodLink RX3 29 yX3_coefficient, Cond.instanceMethod yX3_coefficient, Cond.selects RX3 yX3_coefficient yX3_coefficient, Cond.code yX3_coefficient cX3_coefficient 2 (some .int), Cond.methodLink RX0 48 yX3_moveByOne, Cond.instanceMethod yX3_moveByOne, Cond.selects RX3 yX3_moveByOne yX3_moveByOne, Cond.code yX3_moveByOne cX3_moveByOne 3 none, Cond.methodLink RX3 43 yX2_reduced, Cond.static yX2_reduced, Cond.initialized RX2, Cond.code yX2_reduced cX2_reduced 3 (some .int), Cond.constantLong RX2 9 (32003), Cond.methodLink RX0 56 yX3_setProduct, Cond.instanceMethod yX3_setProduct]
def wsX4_findPlain_r3 : List Cond := [Cond.selects RX3 yX3_setProduct yX3_setProduct, Cond.code yX3_setProduct cX3_setProduct 8 none, Cond.methodLink RX3 40 Lib.Math.min.name, Cond.static Lib.Math.min.name, Cond.initialized "java/lang/Math", Cond.code Lib.Math.min.name Lib.Math.min.code 2 (some .int), Cond.methodLink RX3 9 Lib.Math.max.name, Cond.static Lib.Math.max.name, Cond.code Lib.Math.max.name Lib.Math.max.code 2 (some .int), Cond.methodLink RX0 63 yX3_gather, Cond.instanceMethod yX3_gather, Cond.selects RX3 yX3_gather yX3_gather, Cond.code yX3_gather cX3_gather 7 none, Cond.methodLink RX0 67 yX3_multiplyByLinear, Cond.instanceMethod yX3_multiplyByLinear, Cond.selects RX3 yX3_multiplyByLinear yX3_multiplyByLinear, Cond.code yX3_multiplyByLinear cX3_multiplyByLinear 5 none, Cond.methodLink RX4 148 yX0_eliminate, Cond.instanceMethod yX0_eliminate, Cond.selects RX0 yX0_eliminate yX0_eliminate, Cond.code yX0_eliminate cX0_eliminate 3 none, Cond.fieldLink RX0 40 "CertificateSums$Equations" "taken" "[Z", Cond.fieldLink RX0 36 "CertificateSums$Equations" "equationOf" "[I", Cond.methodLink RX0 70 yX0_firstUntaken]
def wsX4_findPlain_r4 : List Cond := [Cond.instanceMethod yX0_firstUntaken, Cond.selects RX0 yX0_firstUntaken yX0_firstUntaken, Cond.code yX0_firstUntaken cX0_firstUntaken 3 (some .int), Cond.methodLink RX0 78 yX3_coefficient, Cond.methodLink RX0 74 yX0_solveFor, Cond.instanceMethod yX0_solveFor, Cond.selects RX0 yX0_solveFor yX0_solveFor, Cond.code yX0_solveFor cX0_solveFor 5 none, Cond.methodLink RX0 82 yX2_inverse, Cond.static yX2_inverse, Cond.code yX2_inverse cX2_inverse 4 (some .int), Cond.methodLink RX2 11 yX2_reduced, Cond.methodLink RX0 87 yX0_putInto, Cond.static yX0_putInto, Cond.code yX0_putInto cX0_putInto 5 none, Cond.methodLink RX0 91 yX2_product, Cond.static yX2_product, Cond.code yX2_product cX2_product 2 (some .int), Cond.methodLink RX0 95 yX3_put, Cond.methodLink RX4 183 yX0_areSolvable, Cond.instanceMethod yX0_areSolvable, Cond.selects RX0 yX0_areSolvable yX0_areSolvable, Cond.code yX0_areSolvable cX0_areSolvable 1 (some .boolean), Cond.methodLink RX4 186 yX0_writeSolution]
def wsX4_findPlain_r5 : List Cond := [Cond.instanceMethod yX0_writeSolution, Cond.selects RX0 yX0_writeSolution yX0_writeSolution, Cond.code yX0_writeSolution cX0_writeSolution 3 none, Cond.methodLink RX0 98 yX3_clear]
def wsX4_findPlain : List Cond := .code yX4_findPlain cX4_findPlain 3 (some .boolean) :: ((wsX4_findPlain_r1 ++ (wsX4_findPlain_r2 ++ (wsX4_findPlain_r3 ++ (wsX4_findPlain_r4 ++ wsX4_findPlain_r5)))) ++ wsX40 ++ wsX10 ++ wsX00 ++ wsX30)
def wsX4_find_r1 : List Cond := [Cond.fieldLink RX4 35 "CertificateSums" "top" "LCertificateSums$Polynomial;", Cond.fieldLink RX4 135 "CertificateSums$Polynomial" "highest" "I", Cond.fieldLink RX4 38 "CertificateSums" "bottom" "LCertificateSums$Polynomial;", Cond.fieldLink RX4 85 "CertificateSums$Fraction" "top" "LCertificateSums$Polynomial;", Cond.methodLink RX4 81 yX4_known, Cond.instanceMethod yX4_known, Cond.selects RX4 yX4_known yX4_known, Cond.initialized RX4, Cond.code yX4_known cX4_known 3 (some (.object "CertificateSums$Fraction")), Cond.classLink RX4 167 "java/lang/IndexOutOfBoundsException", Cond.initialized "java/lang/IndexOutOfBoundsException", Cond.fieldLink RX4 27 "CertificateSums" "functions" "[LCertificateSums$Fraction;", Cond.methodLink RX4 122 yX4_refuseZeroDivisors, Cond.instanceMethod yX4_refuseZeroDivisors, Cond.selects RX4 yX4_refuseZeroDivisors yX4_refuseZeroDivisors, Cond.code yX4_refuseZeroDivisors cX4_refuseZeroDivisors 2 none, Cond.classLink RX4 99 "java/lang/ArithmeticException", Cond.initialized "java/lang/ArithmeticException", Cond.methodLink RX4 111 yX4_refuseZeroRatioBottom, Cond.instanceMethod yX4_refuseZeroRatioBottom, Cond.selects RX4 yX4_refuseZeroRatioBottom yX4_refuseZeroRatioBottom, Cond.code yX4_refuseZeroRatioBottom cX4_refuseZeroRatioBottom 1 none, Cond.fieldLink RX4 22 "CertificateSums" "ratioBottom" "LCertificateSums$Polynomial;", Cond.methodLink RX4 95 yX3_isZero]
def wsX4_find_r2 : List Cond := [Cond.instanceMethod yX3_isZero, Cond.selects RX3 yX3_isZero yX3_isZero, Cond.initialized RX3, Cond.code yX3_isZero cX3_isZero 1 (some .boolean), Cond.fieldLink RX3 21 "CertificateSums$Polynomial" "highest" "I", Cond.methodLink RX4 125 yX4_refuseWrongBound, Cond.static yX4_refuseWrongBound, Cond.code yX4_refuseWrongBound cX4_refuseWrongBound 1 none, Cond.classLink RX4 57 "java/lang/IllegalArgumentException", Cond.initialized "java/lang/IllegalArgumentException", Cond.methodLink RX4 128 yX4_refuseWhenFull, Cond.instanceMethod yX4_refuseWhenFull, Cond.selects RX4 yX4_refuseWhenFull yX4_refuseWhenFull, Cond.code yX4_refuseWhenFull cX4_refuseWhenFull 1 none, Cond.classLink RX4 172 "java/lang/IllegalStateException", Cond.initialized "java/lang/IllegalStateException", Cond.fieldLink RX4 31 "CertificateSums" "made" "I", Cond.methodLink RX4 131 yX4_findPlain, Cond.instanceMethod yX4_findPlain, Cond.selects RX4 yX4_findPlain yX4_findPlain, Cond.code yX4_findPlain cX4_findPlain 3 (some .boolean), Cond.fieldLink RX4 53 "CertificateSums" "equations" "LCertificateSums$Equations;", Cond.fieldLink RX4 14 "CertificateSums" "ratioTop" "LCertificateSums$Polynomial;", Cond.methodLink RX4 144 yX0_set]
def wsX4_find_r3 : List Cond := [Cond.instanceMethod yX0_set, Cond.selects RX0 yX0_set yX0_set, Cond.initialized RX0, Cond.code yX0_set cX0_set 6 none, Cond.fieldLink RX0 30 "CertificateSums$Equations" "movedBase" "LCertificateSums$Polynomial;", Cond.fieldLink RX0 33 "CertificateSums$Equations" "work" "LCertificateSums$Polynomial;", Cond.fieldLink RX0 51 "CertificateSums$Fraction" "top" "LCertificateSums$Polynomial;", Cond.fieldLink RX0 24 "CertificateSums$Equations" "growing" "LCertificateSums$Polynomial;", Cond.fieldLink RX0 20 "CertificateSums$Equations" "target" "LCertificateSums$Polynomial;", Cond.fieldLink RX0 60 "CertificateSums$Fraction" "bottom" "LCertificateSums$Polynomial;", Cond.fieldLink RX0 27 "CertificateSums$Equations" "staying" "LCertificateSums$Polynomial;", Cond.fieldLink RX0 11 "CertificateSums$Equations" "columns" "[LCertificateSums$Polynomial;", Cond.methodLink RX0 44 yX3_copy, Cond.instanceMethod yX3_copy, Cond.selects RX3 yX3_copy yX3_copy, Cond.code yX3_copy cX3_copy 3 none, Cond.methodLink RX3 37 yX3_clear, Cond.instanceMethod yX3_clear, Cond.selects RX3 yX3_clear yX3_clear, Cond.code yX3_clear cX3_clear 2 none, Cond.methodLink RX3 33 yX3_put, Cond.instanceMethod yX3_put, Cond.selects RX3 yX3_put yX3_put, Cond.code yX3_put cX3_put 4 none]
def wsX4_find_r4 : List Cond := [Cond.fieldLink RX3 15 "CertificateSums$Polynomial" "row" "[I", Cond.methodLink RX3 29 yX3_coefficient, Cond.instanceMethod yX3_coefficient, Cond.selects RX3 yX3_coefficient yX3_coefficient, Cond.code yX3_coefficient cX3_coefficient 2 (some .int), Cond.methodLink RX0 48 yX3_moveByOne, Cond.instanceMethod yX3_moveByOne, Cond.selects RX3 yX3_moveByOne yX3_moveByOne, Cond.code yX3_moveByOne cX3_moveByOne 3 none, Cond.methodLink RX3 43 yX2_reduced, Cond.static yX2_reduced, Cond.initialized RX2, Cond.code yX2_reduced cX2_reduced 3 (some .int), Cond.constantLong RX2 9 (32003), Cond.methodLink RX0 56 yX3_setProduct, Cond.instanceMethod yX3_setProduct, Cond.selects RX3 yX3_setProduct yX3_setProduct, Cond.code yX3_setProduct cX3_setProduct 8 none, Cond.methodLink RX3 40 Lib.Math.min.name, Cond.static Lib.Math.min.name, Cond.initialized "java/lang/Math", Cond.code Lib.Math.min.name Lib.Math.min.code 2 (some .int), Cond.methodLink RX3 9 Lib.Math.max.name, Cond.static Lib.Math.max.name]
def wsX4_find_r5 : List Cond := [Cond.code Lib.Math.max.name Lib.Math.max.code 2 (some .int), Cond.methodLink RX0 63 yX3_gather, Cond.instanceMethod yX3_gather, Cond.selects RX3 yX3_gather yX3_gather, Cond.code yX3_gather cX3_gather 7 none, Cond.methodLink RX0 67 yX3_multiplyByLinear, Cond.instanceMethod yX3_multiplyByLinear, Cond.selects RX3 yX3_multiplyByLinear yX3_multiplyByLinear, Cond.code yX3_multiplyByLinear cX3_multiplyByLinear 5 none, Cond.methodLink RX4 148 yX0_eliminate, Cond.instanceMethod yX0_eliminate, Cond.selects RX0 yX0_eliminate yX0_eliminate, Cond.code yX0_eliminate cX0_eliminate 3 none, Cond.fieldLink RX0 40 "CertificateSums$Equations" "taken" "[Z", Cond.fieldLink RX0 36 "CertificateSums$Equations" "equationOf" "[I", Cond.methodLink RX0 70 yX0_firstUntaken, Cond.instanceMethod yX0_firstUntaken, Cond.selects RX0 yX0_firstUntaken yX0_firstUntaken, Cond.code yX0_firstUntaken cX0_firstUntaken 3 (some .int), Cond.methodLink RX0 78 yX3_coefficient, Cond.methodLink RX0 74 yX0_solveFor, Cond.instanceMethod yX0_solveFor, Cond.selects RX0 yX0_solveFor yX0_solveFor, Cond.code yX0_solveFor cX0_solveFor 5 none]
def wsX4_find_r6 : List Cond := [Cond.methodLink RX0 82 yX2_inverse, Cond.static yX2_inverse, Cond.code yX2_inverse cX2_inverse 4 (some .int), Cond.methodLink RX2 11 yX2_reduced, Cond.methodLink RX0 87 yX0_putInto, Cond.static yX0_putInto, Cond.code yX0_putInto cX0_putInto 5 none, Cond.methodLink RX0 91 yX2_product, Cond.static yX2_product, Cond.code yX2_product cX2_product 2 (some .int), Cond.methodLink RX0 95 yX3_put, Cond.methodLink RX4 183 yX0_areSolvable, Cond.instanceMethod yX0_areSolvable, Cond.selects RX0 yX0_areSolvable yX0_areSolvable, Cond.code yX0_areSolvable cX0_areSolvable 1 (some .boolean), Cond.methodLink RX4 186 yX0_writeSolution, Cond.instanceMethod yX0_writeSolution, Cond.selects RX0 yX0_writeSolution yX0_writeSolution, Cond.code yX0_writeSolution cX0_writeSolution 3 none, Cond.methodLink RX0 98 yX3_clear, Cond.methodLink RX4 104 yX3_copy, Cond.methodLink RX4 77 yX4_keepResult, Cond.instanceMethod yX4_keepResult, Cond.selects RX4 yX4_keepResult yX4_keepResult]
def wsX4_find_r7 : List Cond := [Cond.code yX4_keepResult cX4_keepResult 2 (some .int), Cond.classLink RX4 25 RX1, Cond.instantiable RX1 2, Cond.initialized RX1, Cond.methodLink RX4 189 yX4_toLowestTerms, Cond.instanceMethod yX4_toLowestTerms, Cond.selects RX4 yX4_toLowestTerms yX4_toLowestTerms, Cond.code yX4_toLowestTerms cX4_toLowestTerms 3 none, Cond.fieldLink RX4 41 "CertificateSums" "left" "LCertificateSums$Polynomial;", Cond.fieldLink RX4 44 "CertificateSums" "right" "LCertificateSums$Polynomial;", Cond.fieldLink RX4 47 "CertificateSums" "quotient" "LCertificateSums$Polynomial;", Cond.methodLink RX4 196 yX4_greatestDivisor, Cond.static yX4_greatestDivisor, Cond.code yX4_greatestDivisor cX4_greatestDivisor 7 (some (.object "CertificateSums$Polynomial")), Cond.methodLink RX4 200 yX3_divide, Cond.instanceMethod yX3_divide, Cond.selects RX3 yX3_divide yX3_divide, Cond.code yX3_divide cX3_divide 6 none, Cond.methodLink RX3 52 yX3_isZero, Cond.methodLink RX3 56 yX3_leading, Cond.instanceMethod yX3_leading, Cond.selects RX3 yX3_leading yX3_leading, Cond.code yX3_leading cX3_leading 1 (some .int), Cond.methodLink RX3 60 yX2_inverse]
def wsX4_find_r8 : List Cond := [Cond.methodLink RX3 49 yX2_product, Cond.methodLink RX3 63 yX3_gather, Cond.methodLink RX4 203 yX3_leading, Cond.methodLink RX4 161 yX2_inverse, Cond.methodLink RX4 206 yX3_scale, Cond.instanceMethod yX3_scale, Cond.selects RX3 yX3_scale yX3_scale, Cond.code yX3_scale cX3_scale 3 none, Cond.methodLink RX4 194 yX1_init, Cond.instanceMethod yX1_init, Cond.code yX1_init cX1_init 3 none, Cond.methodLink RX1 1 objectInit, Cond.instanceMethod objectInit, Cond.code objectInit ⟨#[0xb1]⟩ 1 none, Cond.classLink RX1 7 RX3, Cond.instantiable RX3 2, Cond.fieldLink RX1 12 "CertificateSums$Fraction" "top" "LCertificateSums$Polynomial;", Cond.fieldLink RX1 18 "CertificateSums$Fraction" "bottom" "LCertificateSums$Polynomial;", Cond.methodLink RX1 9 yX3_init_, Cond.instanceMethod yX3_init_, Cond.code yX3_init_ cX3_init_ 2 none, Cond.methodLink RX3 3 objectInit, Cond.arrayClass .int, Cond.methodLink RX3 25 yX3_copy]
def wsX4_find : List Cond := .code yX4_find cX4_find 6 (some .int) :: ((wsX4_find_r1 ++ (wsX4_find_r2 ++ (wsX4_find_r3 ++ (wsX4_find_r4 ++ (wsX4_find_r5 ++ (wsX4_find_r6 ++ (wsX4_find_r7 ++ wsX4_find_r8))))))) ++ wsX40 ++ wsX30 ++ wsX10 ++ wsX00 ++ (vx_atS RX4 171 "java/lang/IndexOutOfBoundsException" ["java/lang/RuntimeException", "java/lang/Exception"]).filter goodWord ++ (vx_atS RX4 103 "java/lang/ArithmeticException" ["java/lang/RuntimeException", "java/lang/Exception"]).filter goodWord ++ (vx_atS RX4 61 "java/lang/IllegalArgumentException" ["java/lang/RuntimeException", "java/lang/Exception"]).filter goodWord ++ (vx_atS RX4 176 "java/lang/IllegalStateException" ["java/lang/RuntimeException", "java/lang/Exception"]).filter goodWord)
def wsX4_least_r1 : List Cond := [Cond.fieldLink RX4 35 "CertificateSums" "top" "LCertificateSums$Polynomial;", Cond.fieldLink RX4 135 "CertificateSums$Polynomial" "highest" "I", Cond.methodLink RX4 138 Lib.Math.max.name, Cond.static Lib.Math.max.name, Cond.initialized "java/lang/Math", Cond.code Lib.Math.max.name Lib.Math.max.code 2 (some .int), Cond.methodLink RX4 81 yX4_known, Cond.instanceMethod yX4_known, Cond.selects RX4 yX4_known yX4_known, Cond.initialized RX4, Cond.code yX4_known cX4_known 3 (some (.object "CertificateSums$Fraction")), Cond.classLink RX4 167 "java/lang/IndexOutOfBoundsException", Cond.initialized "java/lang/IndexOutOfBoundsException", Cond.fieldLink RX4 27 "CertificateSums" "functions" "[LCertificateSums$Fraction;", Cond.methodLink RX4 122 yX4_refuseZeroDivisors, Cond.instanceMethod yX4_refuseZeroDivisors, Cond.selects RX4 yX4_refuseZeroDivisors yX4_refuseZeroDivisors, Cond.code yX4_refuseZeroDivisors cX4_refuseZeroDivisors 2 none, Cond.classLink RX4 99 "java/lang/ArithmeticException", Cond.initialized "java/lang/ArithmeticException", Cond.fieldLink RX4 85 "CertificateSums$Fraction" "top" "LCertificateSums$Polynomial;", Cond.methodLink RX4 111 yX4_refuseZeroRatioBottom, Cond.instanceMethod yX4_refuseZeroRatioBottom, Cond.selects RX4 yX4_refuseZeroRatioBottom yX4_refuseZeroRatioBottom]
def wsX4_least_r2 : List Cond := [Cond.code yX4_refuseZeroRatioBottom cX4_refuseZeroRatioBottom 1 none, Cond.fieldLink RX4 22 "CertificateSums" "ratioBottom" "LCertificateSums$Polynomial;", Cond.methodLink RX4 95 yX3_isZero, Cond.instanceMethod yX3_isZero, Cond.selects RX3 yX3_isZero yX3_isZero, Cond.initialized RX3, Cond.code yX3_isZero cX3_isZero 1 (some .boolean), Cond.fieldLink RX3 21 "CertificateSums$Polynomial" "highest" "I", Cond.methodLink RX4 131 yX4_findPlain, Cond.instanceMethod yX4_findPlain, Cond.selects RX4 yX4_findPlain yX4_findPlain, Cond.code yX4_findPlain cX4_findPlain 3 (some .boolean), Cond.fieldLink RX4 53 "CertificateSums" "equations" "LCertificateSums$Equations;", Cond.fieldLink RX4 14 "CertificateSums" "ratioTop" "LCertificateSums$Polynomial;", Cond.methodLink RX4 144 yX0_set, Cond.instanceMethod yX0_set, Cond.selects RX0 yX0_set yX0_set, Cond.initialized RX0, Cond.code yX0_set cX0_set 6 none, Cond.fieldLink RX0 30 "CertificateSums$Equations" "movedBase" "LCertificateSums$Polynomial;", Cond.fieldLink RX0 33 "CertificateSums$Equations" "work" "LCertificateSums$Polynomial;", Cond.fieldLink RX0 51 "CertificateSums$Fraction" "top" "LCertificateSums$Polynomial;", Cond.fieldLink RX0 24 "CertificateSums$Equations" "growing" "LCertificateSums$Polynomial;", Cond.fieldLink RX0 20 "CertificateSums$Equations" "target" "LCertificateSums$Polynomial;"]
def wsX4_least_r3 : List Cond := [Cond.fieldLink RX0 60 "CertificateSums$Fraction" "bottom" "LCertificateSums$Polynomial;", Cond.fieldLink RX0 27 "CertificateSums$Equations" "staying" "LCertificateSums$Polynomial;", Cond.fieldLink RX0 11 "CertificateSums$Equations" "columns" "[LCertificateSums$Polynomial;", Cond.methodLink RX0 44 yX3_copy, Cond.instanceMethod yX3_copy, Cond.selects RX3 yX3_copy yX3_copy, Cond.code yX3_copy cX3_copy 3 none, Cond.methodLink RX3 37 yX3_clear, Cond.instanceMethod yX3_clear, Cond.selects RX3 yX3_clear yX3_clear, Cond.code yX3_clear cX3_clear 2 none, Cond.methodLink RX3 33 yX3_put, Cond.instanceMethod yX3_put, Cond.selects RX3 yX3_put yX3_put, Cond.code yX3_put cX3_put 4 none, Cond.fieldLink RX3 15 "CertificateSums$Polynomial" "row" "[I", Cond.methodLink RX3 29 yX3_coefficient, Cond.instanceMethod yX3_coefficient, Cond.selects RX3 yX3_coefficient yX3_coefficient, Cond.code yX3_coefficient cX3_coefficient 2 (some .int), Cond.methodLink RX0 48 yX3_moveByOne, Cond.instanceMethod yX3_moveByOne, Cond.selects RX3 yX3_moveByOne yX3_moveByOne, Cond.code yX3_moveByOne cX3_moveByOne 3 none]
def wsX4_least_r4 : List Cond := [Cond.methodLink RX3 43 yX2_reduced, Cond.static yX2_reduced, Cond.initialized RX2, Cond.code yX2_reduced cX2_reduced 3 (some .int), Cond.constantLong RX2 9 (32003), Cond.methodLink RX0 56 yX3_setProduct, Cond.instanceMethod yX3_setProduct, Cond.selects RX3 yX3_setProduct yX3_setProduct, Cond.code yX3_setProduct cX3_setProduct 8 none, Cond.methodLink RX3 40 Lib.Math.min.name, Cond.static Lib.Math.min.name, Cond.code Lib.Math.min.name Lib.Math.min.code 2 (some .int), Cond.methodLink RX3 9 Lib.Math.max.name, Cond.methodLink RX0 63 yX3_gather, Cond.instanceMethod yX3_gather, Cond.selects RX3 yX3_gather yX3_gather, Cond.code yX3_gather cX3_gather 7 none, Cond.methodLink RX0 67 yX3_multiplyByLinear, Cond.instanceMethod yX3_multiplyByLinear, Cond.selects RX3 yX3_multiplyByLinear yX3_multiplyByLinear, Cond.code yX3_multiplyByLinear cX3_multiplyByLinear 5 none, Cond.methodLink RX4 148 yX0_eliminate, Cond.instanceMethod yX0_eliminate, Cond.selects RX0 yX0_eliminate yX0_eliminate]
def wsX4_least_r5 : List Cond := [Cond.code yX0_eliminate cX0_eliminate 3 none, Cond.fieldLink RX0 40 "CertificateSums$Equations" "taken" "[Z", Cond.fieldLink RX0 36 "CertificateSums$Equations" "equationOf" "[I", Cond.methodLink RX0 70 yX0_firstUntaken, Cond.instanceMethod yX0_firstUntaken, Cond.selects RX0 yX0_firstUntaken yX0_firstUntaken, Cond.code yX0_firstUntaken cX0_firstUntaken 3 (some .int), Cond.methodLink RX0 78 yX3_coefficient, Cond.methodLink RX0 74 yX0_solveFor, Cond.instanceMethod yX0_solveFor, Cond.selects RX0 yX0_solveFor yX0_solveFor, Cond.code yX0_solveFor cX0_solveFor 5 none, Cond.methodLink RX0 82 yX2_inverse, Cond.static yX2_inverse, Cond.code yX2_inverse cX2_inverse 4 (some .int), Cond.methodLink RX2 11 yX2_reduced, Cond.methodLink RX0 87 yX0_putInto, Cond.static yX0_putInto, Cond.code yX0_putInto cX0_putInto 5 none, Cond.methodLink RX0 91 yX2_product, Cond.static yX2_product, Cond.code yX2_product cX2_product 2 (some .int), Cond.methodLink RX0 95 yX3_put, Cond.methodLink RX4 183 yX0_areSolvable]
def wsX4_least_r6 : List Cond := [Cond.instanceMethod yX0_areSolvable, Cond.selects RX0 yX0_areSolvable yX0_areSolvable, Cond.code yX0_areSolvable cX0_areSolvable 1 (some .boolean), Cond.methodLink RX4 186 yX0_writeSolution, Cond.instanceMethod yX0_writeSolution, Cond.selects RX0 yX0_writeSolution yX0_writeSolution, Cond.code yX0_writeSolution cX0_writeSolution 3 none, Cond.methodLink RX0 98 yX3_clear]
def wsX4_least : List Cond := .code yX4_least cX4_least 5 (some .int) :: ((wsX4_least_r1 ++ (wsX4_least_r2 ++ (wsX4_least_r3 ++ (wsX4_least_r4 ++ (wsX4_least_r5 ++ wsX4_least_r6))))) ++ wsX40 ++ wsX30 ++ wsX10 ++ wsX00 ++ (vx_atS RX4 171 "java/lang/IndexOutOfBoundsException" ["java/lang/RuntimeException", "java/lang/Exception"]).filter goodWord ++ (vx_atS RX4 103 "java/lang/ArithmeticException" ["java/lang/RuntimeException", "java/lang/Exception"]).filter goodWord)
def wsX4_free_r1 : List Cond := [Cond.fieldLink RX4 53 "CertificateSums" "equations" "LCertificateSums$Equations;", Cond.fieldLink RX4 85 "CertificateSums$Fraction" "top" "LCertificateSums$Polynomial;", Cond.fieldLink RX4 14 "CertificateSums" "ratioTop" "LCertificateSums$Polynomial;", Cond.fieldLink RX4 22 "CertificateSums" "ratioBottom" "LCertificateSums$Polynomial;", Cond.methodLink RX4 81 yX4_known, Cond.instanceMethod yX4_known, Cond.selects RX4 yX4_known yX4_known, Cond.initialized RX4, Cond.code yX4_known cX4_known 3 (some (.object "CertificateSums$Fraction")), Cond.classLink RX4 167 "java/lang/IndexOutOfBoundsException", Cond.initialized "java/lang/IndexOutOfBoundsException", Cond.fieldLink RX4 27 "CertificateSums" "functions" "[LCertificateSums$Fraction;", Cond.methodLink RX4 122 yX4_refuseZeroDivisors, Cond.instanceMethod yX4_refuseZeroDivisors, Cond.selects RX4 yX4_refuseZeroDivisors yX4_refuseZeroDivisors, Cond.code yX4_refuseZeroDivisors cX4_refuseZeroDivisors 2 none, Cond.classLink RX4 99 "java/lang/ArithmeticException", Cond.initialized "java/lang/ArithmeticException", Cond.methodLink RX4 111 yX4_refuseZeroRatioBottom, Cond.instanceMethod yX4_refuseZeroRatioBottom, Cond.selects RX4 yX4_refuseZeroRatioBottom yX4_refuseZeroRatioBottom, Cond.code yX4_refuseZeroRatioBottom cX4_refuseZeroRatioBottom 1 none, Cond.methodLink RX4 95 yX3_isZero, Cond.instanceMethod yX3_isZero]
def wsX4_free_r2 : List Cond := [Cond.selects RX3 yX3_isZero yX3_isZero, Cond.initialized RX3, Cond.code yX3_isZero cX3_isZero 1 (some .boolean), Cond.fieldLink RX3 21 "CertificateSums$Polynomial" "highest" "I", Cond.methodLink RX4 125 yX4_refuseWrongBound, Cond.static yX4_refuseWrongBound, Cond.code yX4_refuseWrongBound cX4_refuseWrongBound 1 none, Cond.classLink RX4 57 "java/lang/IllegalArgumentException", Cond.initialized "java/lang/IllegalArgumentException", Cond.methodLink RX4 144 yX0_set, Cond.instanceMethod yX0_set, Cond.selects RX0 yX0_set yX0_set, Cond.initialized RX0, Cond.code yX0_set cX0_set 6 none, Cond.fieldLink RX0 30 "CertificateSums$Equations" "movedBase" "LCertificateSums$Polynomial;", Cond.fieldLink RX0 33 "CertificateSums$Equations" "work" "LCertificateSums$Polynomial;", Cond.fieldLink RX0 51 "CertificateSums$Fraction" "top" "LCertificateSums$Polynomial;", Cond.fieldLink RX0 24 "CertificateSums$Equations" "growing" "LCertificateSums$Polynomial;", Cond.fieldLink RX0 20 "CertificateSums$Equations" "target" "LCertificateSums$Polynomial;", Cond.fieldLink RX0 60 "CertificateSums$Fraction" "bottom" "LCertificateSums$Polynomial;", Cond.fieldLink RX0 27 "CertificateSums$Equations" "staying" "LCertificateSums$Polynomial;", Cond.fieldLink RX0 11 "CertificateSums$Equations" "columns" "[LCertificateSums$Polynomial;", Cond.methodLink RX0 44 yX3_copy, Cond.instanceMethod yX3_copy]
def wsX4_free_r3 : List Cond := [Cond.selects RX3 yX3_copy yX3_copy, Cond.code yX3_copy cX3_copy 3 none, Cond.methodLink RX3 37 yX3_clear, Cond.instanceMethod yX3_clear, Cond.selects RX3 yX3_clear yX3_clear, Cond.code yX3_clear cX3_clear 2 none, Cond.methodLink RX3 33 yX3_put, Cond.instanceMethod yX3_put, Cond.selects RX3 yX3_put yX3_put, Cond.code yX3_put cX3_put 4 none, Cond.fieldLink RX3 15 "CertificateSums$Polynomial" "row" "[I", Cond.methodLink RX3 29 yX3_coefficient, Cond.instanceMethod yX3_coefficient, Cond.selects RX3 yX3_coefficient yX3_coefficient, Cond.code yX3_coefficient cX3_coefficient 2 (some .int), Cond.methodLink RX0 48 yX3_moveByOne, Cond.instanceMethod yX3_moveByOne, Cond.selects RX3 yX3_moveByOne yX3_moveByOne, Cond.code yX3_moveByOne cX3_moveByOne 3 none, Cond.methodLink RX3 43 yX2_reduced, Cond.static yX2_reduced, Cond.initialized RX2, Cond.code yX2_reduced cX2_reduced 3 (some .int), Cond.constantLong RX2 9 (32003)]
def wsX4_free_r4 : List Cond := [Cond.methodLink RX0 56 yX3_setProduct, Cond.instanceMethod yX3_setProduct, Cond.selects RX3 yX3_setProduct yX3_setProduct, Cond.code yX3_setProduct cX3_setProduct 8 none, Cond.methodLink RX3 40 Lib.Math.min.name, Cond.static Lib.Math.min.name, Cond.initialized "java/lang/Math", Cond.code Lib.Math.min.name Lib.Math.min.code 2 (some .int), Cond.methodLink RX3 9 Lib.Math.max.name, Cond.static Lib.Math.max.name, Cond.code Lib.Math.max.name Lib.Math.max.code 2 (some .int), Cond.methodLink RX0 63 yX3_gather, Cond.instanceMethod yX3_gather, Cond.selects RX3 yX3_gather yX3_gather, Cond.code yX3_gather cX3_gather 7 none, Cond.methodLink RX0 67 yX3_multiplyByLinear, Cond.instanceMethod yX3_multiplyByLinear, Cond.selects RX3 yX3_multiplyByLinear yX3_multiplyByLinear, Cond.code yX3_multiplyByLinear cX3_multiplyByLinear 5 none, Cond.methodLink RX4 148 yX0_eliminate, Cond.instanceMethod yX0_eliminate, Cond.selects RX0 yX0_eliminate yX0_eliminate, Cond.code yX0_eliminate cX0_eliminate 3 none, Cond.fieldLink RX0 40 "CertificateSums$Equations" "taken" "[Z"]
def wsX4_free_r5 : List Cond := [Cond.fieldLink RX0 36 "CertificateSums$Equations" "equationOf" "[I", Cond.methodLink RX0 70 yX0_firstUntaken, Cond.instanceMethod yX0_firstUntaken, Cond.selects RX0 yX0_firstUntaken yX0_firstUntaken, Cond.code yX0_firstUntaken cX0_firstUntaken 3 (some .int), Cond.methodLink RX0 78 yX3_coefficient, Cond.methodLink RX0 74 yX0_solveFor, Cond.instanceMethod yX0_solveFor, Cond.selects RX0 yX0_solveFor yX0_solveFor, Cond.code yX0_solveFor cX0_solveFor 5 none, Cond.methodLink RX0 82 yX2_inverse, Cond.static yX2_inverse, Cond.code yX2_inverse cX2_inverse 4 (some .int), Cond.methodLink RX2 11 yX2_reduced, Cond.methodLink RX0 87 yX0_putInto, Cond.static yX0_putInto, Cond.code yX0_putInto cX0_putInto 5 none, Cond.methodLink RX0 91 yX2_product, Cond.static yX2_product, Cond.code yX2_product cX2_product 2 (some .int), Cond.methodLink RX0 95 yX3_put, Cond.methodLink RX4 151 yX0_freeUpTo, Cond.instanceMethod yX0_freeUpTo, Cond.selects RX0 yX0_freeUpTo yX0_freeUpTo]
def wsX4_free_r6 : List Cond := [Cond.code yX0_freeUpTo cX0_freeUpTo 4 (some .int)]
def wsX4_free : List Cond := .code yX4_free cX4_free 4 (some .int) :: ((wsX4_free_r1 ++ (wsX4_free_r2 ++ (wsX4_free_r3 ++ (wsX4_free_r4 ++ (wsX4_free_r5 ++ wsX4_free_r6))))) ++ wsX40 ++ wsX10 ++ wsX30 ++ wsX00 ++ (vx_atS RX4 171 "java/lang/IndexOutOfBoundsException" ["java/lang/RuntimeException", "java/lang/Exception"]).filter goodWord ++ (vx_atS RX4 103 "java/lang/ArithmeticException" ["java/lang/RuntimeException", "java/lang/Exception"]).filter goodWord ++ (vx_atS RX4 61 "java/lang/IllegalArgumentException" ["java/lang/RuntimeException", "java/lang/Exception"]).filter goodWord)
def wsX4_degree : List Cond := .code yX4_degree cX4_degree 3 (some .int) :: ([.fieldLink RX4 135 "CertificateSums$Polynomial" "highest" "I", .methodLink RX4 81 yX4_known, .instanceMethod yX4_known, .selects RX4 yX4_known yX4_known, .initialized RX4, .code yX4_known cX4_known 3 (some (.object "CertificateSums$Fraction")), .classLink RX4 167 "java/lang/IndexOutOfBoundsException", .initialized "java/lang/IndexOutOfBoundsException", .fieldLink RX4 27 "CertificateSums" "functions" "[LCertificateSums$Fraction;", .methodLink RX4 154 yX1_part, .instanceMethod yX1_part, .selects RX1 yX1_part yX1_part, .initialized RX1, .code yX1_part cX1_part 2 (some (.object "CertificateSums$Polynomial")), .fieldLink RX1 12 "CertificateSums$Fraction" "top" "LCertificateSums$Polynomial;", .fieldLink RX1 18 "CertificateSums$Fraction" "bottom" "LCertificateSums$Polynomial;"] ++ wsX30 ++ wsX40 ++ wsX10 ++ (vx_atS RX4 171 "java/lang/IndexOutOfBoundsException" ["java/lang/RuntimeException", "java/lang/Exception"]).filter goodWord)
def wsX4_at : List Cond := .code yX4_at cX4_at 4 (some .int) :: ([.methodLink RX4 81 yX4_known, .instanceMethod yX4_known, .selects RX4 yX4_known yX4_known, .initialized RX4, .code yX4_known cX4_known 3 (some (.object "CertificateSums$Fraction")), .classLink RX4 167 "java/lang/IndexOutOfBoundsException", .initialized "java/lang/IndexOutOfBoundsException", .fieldLink RX4 27 "CertificateSums" "functions" "[LCertificateSums$Fraction;", .methodLink RX4 154 yX1_part, .instanceMethod yX1_part, .selects RX1 yX1_part yX1_part, .initialized RX1, .code yX1_part cX1_part 2 (some (.object "CertificateSums$Polynomial")), .fieldLink RX1 12 "CertificateSums$Fraction" "top" "LCertificateSums$Polynomial;", .fieldLink RX1 18 "CertificateSums$Fraction" "bottom" "LCertificateSums$Polynomial;", .methodLink RX4 70 yX3_coefficient, .instanceMethod yX3_coefficient, .selects RX3 yX3_coefficient yX3_coefficient, .initialized RX3, .code yX3_coefficient cX3_coefficient 2 (some .int), .fieldLink RX3 15 "CertificateSums$Polynomial" "row" "[I"] ++ wsX40 ++ wsX10 ++ wsX30 ++ (vx_atS RX4 171 "java/lang/IndexOutOfBoundsException" ["java/lang/RuntimeException", "java/lang/Exception"]).filter goodWord)
def wsX4_value_r1 : List Cond := [Cond.fieldLink RX4 86 "CertificateSums$Fraction" "bottom" "LCertificateSums$Polynomial;", Cond.fieldLink RX4 85 "CertificateSums$Fraction" "top" "LCertificateSums$Polynomial;", Cond.methodLink RX4 81 yX4_known, Cond.instanceMethod yX4_known, Cond.selects RX4 yX4_known yX4_known, Cond.initialized RX4, Cond.code yX4_known cX4_known 3 (some (.object "CertificateSums$Fraction")), Cond.classLink RX4 167 "java/lang/IndexOutOfBoundsException", Cond.initialized "java/lang/IndexOutOfBoundsException", Cond.fieldLink RX4 27 "CertificateSums" "functions" "[LCertificateSums$Fraction;", Cond.methodLink RX4 64 yX2_reduced, Cond.static yX2_reduced, Cond.initialized RX2, Cond.code yX2_reduced cX2_reduced 3 (some .int), Cond.constantLong RX2 9 (32003), Cond.methodLink RX4 158 yX3_evaluate, Cond.instanceMethod yX3_evaluate, Cond.selects RX3 yX3_evaluate yX3_evaluate, Cond.initialized RX3, Cond.code yX3_evaluate cX3_evaluate 4 (some .int), Cond.fieldLink RX3 21 "CertificateSums$Polynomial" "highest" "I", Cond.methodLink RX3 29 yX3_coefficient, Cond.instanceMethod yX3_coefficient, Cond.selects RX3 yX3_coefficient yX3_coefficient]
def wsX4_value_r2 : List Cond := [Cond.code yX3_coefficient cX3_coefficient 2 (some .int), Cond.fieldLink RX3 15 "CertificateSums$Polynomial" "row" "[I", Cond.methodLink RX3 43 yX2_reduced, Cond.methodLink RX4 161 yX2_inverse, Cond.static yX2_inverse, Cond.code yX2_inverse cX2_inverse 4 (some .int), Cond.methodLink RX2 11 yX2_reduced, Cond.methodLink RX4 164 yX2_product, Cond.static yX2_product, Cond.code yX2_product cX2_product 2 (some .int)]
def wsX4_value : List Cond := .code yX4_value cX4_value 7 (some .int) :: ((wsX4_value_r1 ++ wsX4_value_r2) ++ wsX10 ++ wsX40 ++ wsX30 ++ (vx_atS RX4 171 "java/lang/IndexOutOfBoundsException" ["java/lang/RuntimeException", "java/lang/Exception"]).filter goodWord)
def wsX4_same : List Cond := .code yX4_same cX4_same 5 (some .boolean) :: ([.fieldLink RX4 85 "CertificateSums$Fraction" "top" "LCertificateSums$Polynomial;", .fieldLink RX4 86 "CertificateSums$Fraction" "bottom" "LCertificateSums$Polynomial;", .methodLink RX4 81 yX4_known, .instanceMethod yX4_known, .selects RX4 yX4_known yX4_known, .initialized RX4, .code yX4_known cX4_known 3 (some (.object "CertificateSums$Fraction")), .classLink RX4 167 "java/lang/IndexOutOfBoundsException", .initialized "java/lang/IndexOutOfBoundsException", .fieldLink RX4 27 "CertificateSums" "functions" "[LCertificateSums$Fraction;", .methodLink RX4 118 yX3_matches, .instanceMethod yX3_matches, .selects RX3 yX3_matches yX3_matches, .initialized RX3, .code yX3_matches cX3_matches 3 (some .boolean), .fieldLink RX3 21 "CertificateSums$Polynomial" "highest" "I", .methodLink RX3 29 yX3_coefficient, .instanceMethod yX3_coefficient, .selects RX3 yX3_coefficient yX3_coefficient, .code yX3_coefficient cX3_coefficient 2 (some .int), .fieldLink RX3 15 "CertificateSums$Polynomial" "row" "[I"] ++ wsX10 ++ wsX40 ++ wsX30 ++ (vx_atS RX4 171 "java/lang/IndexOutOfBoundsException" ["java/lang/RuntimeException", "java/lang/Exception"]).filter goodWord)
def wsX4_count : List Cond := .code yX4_count cX4_count 1 (some .int) :: ([.fieldLink RX4 31 "CertificateSums" "made" "I"] ++ wsX40)
def wsX5_init : List Cond := .code yX5_init cX5_init 1 none :: ([.methodLink RX5 1 objectInit, .instanceMethod objectInit, .code objectInit ⟨#[0xb1]⟩ 1 none, .arrayClass .int, .fieldLink RX5 7 "CertificateSumsModel" "tops" "[I", .fieldLink RX5 13 "CertificateSumsModel" "bottoms" "[I", .fieldLink RX5 16 "CertificateSumsModel" "ratioTop" "[I", .fieldLink RX5 19 "CertificateSumsModel" "ratioBottom" "[I", .arrayClass .long, .fieldLink RX5 22 "CertificateSumsModel" "a" "[J", .fieldLink RX5 26 "CertificateSumsModel" "b" "[J", .fieldLink RX5 29 "CertificateSumsModel" "c" "[J", .fieldLink RX5 32 "CertificateSumsModel" "d" "[J", .fieldLink RX5 35 "CertificateSumsModel" "e" "[J", .fieldLink RX5 38 "CertificateSumsModel" "x" "[J", .fieldLink RX5 41 "CertificateSumsModel" "y" "[J", .fieldLink RX5 44 "CertificateSumsModel" "quotient" "[J", .fieldLink RX5 47 "CertificateSumsModel" "table" "[J", .fieldLink RX5 50 "CertificateSumsModel" "row" "[I", .fieldLink RX5 53 "CertificateSumsModel" "q1" "[J", .fieldLink RX5 56 "CertificateSumsModel" "q2" "[J", .fieldLink RX5 59 "CertificateSumsModel" "q3" "[J"] ++ wsX50)
def wsX5_thrown : List Cond := .code yX5_thrown cX5_thrown 1 (some .int) :: ([.fieldLink RX5 62 "CertificateSumsModel" "code" "I"] ++ wsX50)
def wsX5_raise : List Cond := .code yX5_raise cX5_raise 2 (some .int) :: ([.fieldLink RX5 62 "CertificateSumsModel" "code" "I"] ++ wsX50)
def wsX5_in : List Cond := .code yX5_in cX5_in 6 (some .boolean) :: ([])
def wsX5_modulo : List Cond := .code yX5_modulo cX5_modulo 4 (some .long) :: ([.constantLong RX5 66 (32003)])
def wsX5_inverse : List Cond := .code yX5_inverse cX5_inverse 7 (some .long) :: ([.constantLong RX5 66 (32003)])
def wsX5_empty : List Cond := .code yX5_empty cX5_empty 2 none :: ([])
def wsX5_copy : List Cond := .code yX5_copy cX5_copy 3 none :: ([])
def wsX5_high : List Cond := .code yX5_high cX5_high 2 (some .int) :: ([])
def wsX5_load : List Cond := .code yX5_load cX5_load 5 none :: ([])
def wsX5_multiply : List Cond := .code yX5_multiply cX5_multiply 6 none :: ([.fieldLink RX5 38 "CertificateSumsModel" "x" "[J", .constantLong RX5 66 (32003), .methodLink RX5 68 yX5_empty, .static yX5_empty, .initialized RX5, .code yX5_empty cX5_empty 2 none, .methodLink RX5 72 yX5_high, .static yX5_high, .code yX5_high cX5_high 2 (some .int)] ++ wsX50)
def wsX5_divide : List Cond := .code yX5_divide cX5_divide 10 none :: ([.fieldLink RX5 44 "CertificateSumsModel" "quotient" "[J", .constantLong RX5 66 (32003), .methodLink RX5 72 yX5_high, .static yX5_high, .initialized RX5, .code yX5_high cX5_high 2 (some .int), .methodLink RX5 76 yX5_inverse, .static yX5_inverse, .code yX5_inverse cX5_inverse 7 (some .long), .methodLink RX5 68 yX5_empty, .static yX5_empty, .code yX5_empty cX5_empty 2 none, .methodLink RX5 80 yX5_modulo, .static yX5_modulo, .code yX5_modulo cX5_modulo 4 (some .long)] ++ wsX50)
def wsX5_move : List Cond := .code yX5_move cX5_move 3 none :: ([.constantLong RX5 66 (32003)])
def wsX5_lowest_r1 : List Cond := [Cond.fieldLink RX5 38 "CertificateSumsModel" "x" "[J", Cond.fieldLink RX5 22 "CertificateSumsModel" "a" "[J", Cond.fieldLink RX5 41 "CertificateSumsModel" "y" "[J", Cond.fieldLink RX5 26 "CertificateSumsModel" "b" "[J", Cond.fieldLink RX5 44 "CertificateSumsModel" "quotient" "[J", Cond.constantLong RX5 66 (32003), Cond.methodLink RX5 83 yX5_copy, Cond.static yX5_copy, Cond.initialized RX5, Cond.code yX5_copy cX5_copy 3 none, Cond.methodLink RX5 72 yX5_high, Cond.static yX5_high, Cond.code yX5_high cX5_high 2 (some .int), Cond.methodLink RX5 87 yX5_divide, Cond.instanceMethod yX5_divide, Cond.selects RX5 yX5_divide yX5_divide, Cond.code yX5_divide cX5_divide 10 none, Cond.methodLink RX5 76 yX5_inverse, Cond.static yX5_inverse, Cond.code yX5_inverse cX5_inverse 7 (some .long), Cond.methodLink RX5 68 yX5_empty, Cond.static yX5_empty, Cond.code yX5_empty cX5_empty 2 none, Cond.methodLink RX5 80 yX5_modulo]
def wsX5_lowest_r2 : List Cond := [Cond.static yX5_modulo, Cond.code yX5_modulo cX5_modulo 4 (some .long)]
def wsX5_lowest : List Cond := .code yX5_lowest cX5_lowest 4 none :: ((wsX5_lowest_r1 ++ wsX5_lowest_r2) ++ wsX50)
def wsX5_isThere : List Cond := .code yX5_isThere cX5_isThere 2 (some .boolean) :: ([.fieldLink RX5 90 "CertificateSumsModel" "many" "I", .methodLink RX5 93 yX5_in, .static yX5_in, .initialized RX5, .code yX5_in cX5_in 6 (some .boolean)] ++ wsX50)
def wsX5_keep : List Cond := .code yX5_keep cX5_keep 3 (some .int) :: ([.fieldLink RX5 90 "CertificateSumsModel" "many" "I", .fieldLink RX5 22 "CertificateSumsModel" "a" "[J", .fieldLink RX5 26 "CertificateSumsModel" "b" "[J", .fieldLink RX5 62 "CertificateSumsModel" "code" "I", .fieldLink RX5 7 "CertificateSumsModel" "tops" "[I", .fieldLink RX5 13 "CertificateSumsModel" "bottoms" "[I", .methodLink RX5 72 yX5_high, .static yX5_high, .initialized RX5, .code yX5_high cX5_high 2 (some .int), .methodLink RX5 97 yX5_raise, .instanceMethod yX5_raise, .selects RX5 yX5_raise yX5_raise, .code yX5_raise cX5_raise 2 (some .int)] ++ wsX50)
def wsX5_loadTop : List Cond := .code yX5_loadTop cX5_loadTop 3 none :: ([.fieldLink RX5 7 "CertificateSumsModel" "tops" "[I", .methodLink RX5 101 yX5_load, .static yX5_load, .initialized RX5, .code yX5_load cX5_load 5 none] ++ wsX50)
def wsX5_loadBottom : List Cond := .code yX5_loadBottom cX5_loadBottom 3 none :: ([.fieldLink RX5 13 "CertificateSumsModel" "bottoms" "[I", .methodLink RX5 101 yX5_load, .static yX5_load, .initialized RX5, .code yX5_load cX5_load 5 none] ++ wsX50)
def wsX5_ratio : List Cond := .code yX5_ratio cX5_ratio 7 (some .boolean) :: ([.constantLong RX5 105 (3), .fieldLink RX5 62 "CertificateSumsModel" "code" "I", .fieldLink RX5 16 "CertificateSumsModel" "ratioTop" "[I", .fieldLink RX5 19 "CertificateSumsModel" "ratioBottom" "[I", .methodLink RX5 93 yX5_in, .static yX5_in, .initialized RX5, .code yX5_in cX5_in 6 (some .boolean), .methodLink RX5 80 yX5_modulo, .static yX5_modulo, .code yX5_modulo cX5_modulo 4 (some .long), .constantLong RX5 66 (32003)] ++ wsX50)
def wsX5_isNoRatio : List Cond := .code yX5_isNoRatio cX5_isNoRatio 1 (some .boolean) :: ([.fieldLink RX5 19 "CertificateSumsModel" "ratioBottom" "[I"] ++ wsX50)
def wsX5_number_r1 : List Cond := [Cond.fieldLink RX5 22 "CertificateSumsModel" "a" "[J", Cond.fieldLink RX5 26 "CertificateSumsModel" "b" "[J", Cond.methodLink RX5 68 yX5_empty, Cond.static yX5_empty, Cond.initialized RX5, Cond.code yX5_empty cX5_empty 2 none, Cond.methodLink RX5 80 yX5_modulo, Cond.static yX5_modulo, Cond.code yX5_modulo cX5_modulo 4 (some .long), Cond.constantLong RX5 66 (32003), Cond.methodLink RX5 107 yX5_keep, Cond.instanceMethod yX5_keep, Cond.selects RX5 yX5_keep yX5_keep, Cond.code yX5_keep cX5_keep 3 (some .int), Cond.fieldLink RX5 90 "CertificateSumsModel" "many" "I", Cond.fieldLink RX5 62 "CertificateSumsModel" "code" "I", Cond.fieldLink RX5 7 "CertificateSumsModel" "tops" "[I", Cond.fieldLink RX5 13 "CertificateSumsModel" "bottoms" "[I", Cond.methodLink RX5 72 yX5_high, Cond.static yX5_high, Cond.code yX5_high cX5_high 2 (some .int), Cond.methodLink RX5 97 yX5_raise, Cond.instanceMethod yX5_raise, Cond.selects RX5 yX5_raise yX5_raise]
def wsX5_number_r2 : List Cond := [Cond.code yX5_raise cX5_raise 2 (some .int)]
def wsX5_number : List Cond := .code yX5_number cX5_number 3 (some .int) :: ((wsX5_number_r1 ++ wsX5_number_r2) ++ wsX50)
def wsX5_letter : List Cond := .code yX5_letter cX5_letter 1 (some .int) :: ([.fieldLink RX5 22 "CertificateSumsModel" "a" "[J", .fieldLink RX5 26 "CertificateSumsModel" "b" "[J", .methodLink RX5 68 yX5_empty, .static yX5_empty, .initialized RX5, .code yX5_empty cX5_empty 2 none, .methodLink RX5 107 yX5_keep, .instanceMethod yX5_keep, .selects RX5 yX5_keep yX5_keep, .code yX5_keep cX5_keep 3 (some .int), .fieldLink RX5 90 "CertificateSumsModel" "many" "I", .fieldLink RX5 62 "CertificateSumsModel" "code" "I", .fieldLink RX5 7 "CertificateSumsModel" "tops" "[I", .fieldLink RX5 13 "CertificateSumsModel" "bottoms" "[I", .methodLink RX5 72 yX5_high, .static yX5_high, .code yX5_high cX5_high 2 (some .int), .methodLink RX5 97 yX5_raise, .instanceMethod yX5_raise, .selects RX5 yX5_raise yX5_raise, .code yX5_raise cX5_raise 2 (some .int)] ++ wsX50)
def wsX5_are : List Cond := .code yX5_are cX5_are 3 (some .boolean) :: ([.fieldLink RX5 62 "CertificateSumsModel" "code" "I", .methodLink RX5 110 yX5_isThere, .instanceMethod yX5_isThere, .selects RX5 yX5_isThere yX5_isThere, .initialized RX5, .code yX5_isThere cX5_isThere 2 (some .boolean), .fieldLink RX5 90 "CertificateSumsModel" "many" "I", .methodLink RX5 93 yX5_in, .static yX5_in, .code yX5_in cX5_in 6 (some .boolean)] ++ wsX50)
def wsX5_sum_r1 : List Cond := [Cond.fieldLink RX5 22 "CertificateSumsModel" "a" "[J", Cond.fieldLink RX5 26 "CertificateSumsModel" "b" "[J", Cond.fieldLink RX5 29 "CertificateSumsModel" "c" "[J", Cond.fieldLink RX5 38 "CertificateSumsModel" "x" "[J", Cond.fieldLink RX5 32 "CertificateSumsModel" "d" "[J", Cond.constantLong RX5 66 (32003), Cond.methodLink RX5 122 yX5_loadTop, Cond.instanceMethod yX5_loadTop, Cond.selects RX5 yX5_loadTop yX5_loadTop, Cond.initialized RX5, Cond.code yX5_loadTop cX5_loadTop 3 none, Cond.fieldLink RX5 7 "CertificateSumsModel" "tops" "[I", Cond.methodLink RX5 101 yX5_load, Cond.static yX5_load, Cond.code yX5_load cX5_load 5 none, Cond.methodLink RX5 126 yX5_loadBottom, Cond.instanceMethod yX5_loadBottom, Cond.selects RX5 yX5_loadBottom yX5_loadBottom, Cond.code yX5_loadBottom cX5_loadBottom 3 none, Cond.fieldLink RX5 13 "CertificateSumsModel" "bottoms" "[I", Cond.methodLink RX5 129 yX5_multiply, Cond.instanceMethod yX5_multiply, Cond.selects RX5 yX5_multiply yX5_multiply, Cond.code yX5_multiply cX5_multiply 6 none]
def wsX5_sum_r2 : List Cond := [Cond.methodLink RX5 68 yX5_empty, Cond.static yX5_empty, Cond.code yX5_empty cX5_empty 2 none, Cond.methodLink RX5 72 yX5_high, Cond.static yX5_high, Cond.code yX5_high cX5_high 2 (some .int), Cond.methodLink RX5 83 yX5_copy, Cond.static yX5_copy, Cond.code yX5_copy cX5_copy 3 none, Cond.methodLink RX5 132 yX5_lowest, Cond.instanceMethod yX5_lowest, Cond.selects RX5 yX5_lowest yX5_lowest, Cond.code yX5_lowest cX5_lowest 4 none, Cond.fieldLink RX5 41 "CertificateSumsModel" "y" "[J", Cond.fieldLink RX5 44 "CertificateSumsModel" "quotient" "[J", Cond.methodLink RX5 87 yX5_divide, Cond.instanceMethod yX5_divide, Cond.selects RX5 yX5_divide yX5_divide, Cond.code yX5_divide cX5_divide 10 none, Cond.methodLink RX5 76 yX5_inverse, Cond.static yX5_inverse, Cond.code yX5_inverse cX5_inverse 7 (some .long), Cond.methodLink RX5 80 yX5_modulo, Cond.static yX5_modulo]
def wsX5_sum_r3 : List Cond := [Cond.code yX5_modulo cX5_modulo 4 (some .long)]
def wsX5_sum : List Cond := .code yX5_sum cX5_sum 4 none :: ((wsX5_sum_r1 ++ (wsX5_sum_r2 ++ wsX5_sum_r3)) ++ wsX50)
def wsX5_add_r1 : List Cond := [Cond.methodLink RX5 114 yX5_are, Cond.instanceMethod yX5_are, Cond.selects RX5 yX5_are yX5_are, Cond.initialized RX5, Cond.code yX5_are cX5_are 3 (some .boolean), Cond.fieldLink RX5 62 "CertificateSumsModel" "code" "I", Cond.methodLink RX5 110 yX5_isThere, Cond.instanceMethod yX5_isThere, Cond.selects RX5 yX5_isThere yX5_isThere, Cond.code yX5_isThere cX5_isThere 2 (some .boolean), Cond.fieldLink RX5 90 "CertificateSumsModel" "many" "I", Cond.methodLink RX5 93 yX5_in, Cond.static yX5_in, Cond.code yX5_in cX5_in 6 (some .boolean), Cond.methodLink RX5 118 yX5_sum, Cond.instanceMethod yX5_sum, Cond.selects RX5 yX5_sum yX5_sum, Cond.code yX5_sum cX5_sum 4 none, Cond.fieldLink RX5 22 "CertificateSumsModel" "a" "[J", Cond.fieldLink RX5 26 "CertificateSumsModel" "b" "[J", Cond.fieldLink RX5 29 "CertificateSumsModel" "c" "[J", Cond.fieldLink RX5 38 "CertificateSumsModel" "x" "[J", Cond.fieldLink RX5 32 "CertificateSumsModel" "d" "[J", Cond.constantLong RX5 66 (32003)]
def wsX5_add_r2 : List Cond := [Cond.methodLink RX5 122 yX5_loadTop, Cond.instanceMethod yX5_loadTop, Cond.selects RX5 yX5_loadTop yX5_loadTop, Cond.code yX5_loadTop cX5_loadTop 3 none, Cond.fieldLink RX5 7 "CertificateSumsModel" "tops" "[I", Cond.methodLink RX5 101 yX5_load, Cond.static yX5_load, Cond.code yX5_load cX5_load 5 none, Cond.methodLink RX5 126 yX5_loadBottom, Cond.instanceMethod yX5_loadBottom, Cond.selects RX5 yX5_loadBottom yX5_loadBottom, Cond.code yX5_loadBottom cX5_loadBottom 3 none, Cond.fieldLink RX5 13 "CertificateSumsModel" "bottoms" "[I", Cond.methodLink RX5 129 yX5_multiply, Cond.instanceMethod yX5_multiply, Cond.selects RX5 yX5_multiply yX5_multiply, Cond.code yX5_multiply cX5_multiply 6 none, Cond.methodLink RX5 68 yX5_empty, Cond.static yX5_empty, Cond.code yX5_empty cX5_empty 2 none, Cond.methodLink RX5 72 yX5_high, Cond.static yX5_high, Cond.code yX5_high cX5_high 2 (some .int), Cond.methodLink RX5 83 yX5_copy]
def wsX5_add_r3 : List Cond := [Cond.static yX5_copy, Cond.code yX5_copy cX5_copy 3 none, Cond.methodLink RX5 132 yX5_lowest, Cond.instanceMethod yX5_lowest, Cond.selects RX5 yX5_lowest yX5_lowest, Cond.code yX5_lowest cX5_lowest 4 none, Cond.fieldLink RX5 41 "CertificateSumsModel" "y" "[J", Cond.fieldLink RX5 44 "CertificateSumsModel" "quotient" "[J", Cond.methodLink RX5 87 yX5_divide, Cond.instanceMethod yX5_divide, Cond.selects RX5 yX5_divide yX5_divide, Cond.code yX5_divide cX5_divide 10 none, Cond.methodLink RX5 76 yX5_inverse, Cond.static yX5_inverse, Cond.code yX5_inverse cX5_inverse 7 (some .long), Cond.methodLink RX5 80 yX5_modulo, Cond.static yX5_modulo, Cond.code yX5_modulo cX5_modulo 4 (some .long), Cond.methodLink RX5 107 yX5_keep, Cond.instanceMethod yX5_keep, Cond.selects RX5 yX5_keep yX5_keep, Cond.code yX5_keep cX5_keep 3 (some .int), Cond.methodLink RX5 97 yX5_raise, Cond.instanceMethod yX5_raise]
def wsX5_add_r4 : List Cond := [Cond.selects RX5 yX5_raise yX5_raise, Cond.code yX5_raise cX5_raise 2 (some .int)]
def wsX5_add : List Cond := .code yX5_add cX5_add 3 (some .int) :: ((wsX5_add_r1 ++ (wsX5_add_r2 ++ (wsX5_add_r3 ++ wsX5_add_r4))) ++ wsX50)
def wsX5_times_r1 : List Cond := [Cond.fieldLink RX5 22 "CertificateSumsModel" "a" "[J", Cond.fieldLink RX5 29 "CertificateSumsModel" "c" "[J", Cond.fieldLink RX5 38 "CertificateSumsModel" "x" "[J", Cond.fieldLink RX5 26 "CertificateSumsModel" "b" "[J", Cond.methodLink RX5 114 yX5_are, Cond.instanceMethod yX5_are, Cond.selects RX5 yX5_are yX5_are, Cond.initialized RX5, Cond.code yX5_are cX5_are 3 (some .boolean), Cond.fieldLink RX5 62 "CertificateSumsModel" "code" "I", Cond.methodLink RX5 110 yX5_isThere, Cond.instanceMethod yX5_isThere, Cond.selects RX5 yX5_isThere yX5_isThere, Cond.code yX5_isThere cX5_isThere 2 (some .boolean), Cond.fieldLink RX5 90 "CertificateSumsModel" "many" "I", Cond.methodLink RX5 93 yX5_in, Cond.static yX5_in, Cond.code yX5_in cX5_in 6 (some .boolean), Cond.methodLink RX5 122 yX5_loadTop, Cond.instanceMethod yX5_loadTop, Cond.selects RX5 yX5_loadTop yX5_loadTop, Cond.code yX5_loadTop cX5_loadTop 3 none, Cond.fieldLink RX5 7 "CertificateSumsModel" "tops" "[I", Cond.methodLink RX5 101 yX5_load]
def wsX5_times_r2 : List Cond := [Cond.static yX5_load, Cond.code yX5_load cX5_load 5 none, Cond.methodLink RX5 129 yX5_multiply, Cond.instanceMethod yX5_multiply, Cond.selects RX5 yX5_multiply yX5_multiply, Cond.code yX5_multiply cX5_multiply 6 none, Cond.constantLong RX5 66 (32003), Cond.methodLink RX5 68 yX5_empty, Cond.static yX5_empty, Cond.code yX5_empty cX5_empty 2 none, Cond.methodLink RX5 72 yX5_high, Cond.static yX5_high, Cond.code yX5_high cX5_high 2 (some .int), Cond.methodLink RX5 83 yX5_copy, Cond.static yX5_copy, Cond.code yX5_copy cX5_copy 3 none, Cond.methodLink RX5 126 yX5_loadBottom, Cond.instanceMethod yX5_loadBottom, Cond.selects RX5 yX5_loadBottom yX5_loadBottom, Cond.code yX5_loadBottom cX5_loadBottom 3 none, Cond.fieldLink RX5 13 "CertificateSumsModel" "bottoms" "[I", Cond.methodLink RX5 132 yX5_lowest, Cond.instanceMethod yX5_lowest, Cond.selects RX5 yX5_lowest yX5_lowest]
def wsX5_times_r3 : List Cond := [Cond.code yX5_lowest cX5_lowest 4 none, Cond.fieldLink RX5 41 "CertificateSumsModel" "y" "[J", Cond.fieldLink RX5 44 "CertificateSumsModel" "quotient" "[J", Cond.methodLink RX5 87 yX5_divide, Cond.instanceMethod yX5_divide, Cond.selects RX5 yX5_divide yX5_divide, Cond.code yX5_divide cX5_divide 10 none, Cond.methodLink RX5 76 yX5_inverse, Cond.static yX5_inverse, Cond.code yX5_inverse cX5_inverse 7 (some .long), Cond.methodLink RX5 80 yX5_modulo, Cond.static yX5_modulo, Cond.code yX5_modulo cX5_modulo 4 (some .long), Cond.methodLink RX5 107 yX5_keep, Cond.instanceMethod yX5_keep, Cond.selects RX5 yX5_keep yX5_keep, Cond.code yX5_keep cX5_keep 3 (some .int), Cond.methodLink RX5 97 yX5_raise, Cond.instanceMethod yX5_raise, Cond.selects RX5 yX5_raise yX5_raise, Cond.code yX5_raise cX5_raise 2 (some .int)]
def wsX5_times : List Cond := .code yX5_times cX5_times 3 (some .int) :: ((wsX5_times_r1 ++ (wsX5_times_r2 ++ wsX5_times_r3)) ++ wsX50)
def wsX5_over_r1 : List Cond := [Cond.fieldLink RX5 29 "CertificateSumsModel" "c" "[J", Cond.fieldLink RX5 26 "CertificateSumsModel" "b" "[J", Cond.fieldLink RX5 38 "CertificateSumsModel" "x" "[J", Cond.fieldLink RX5 22 "CertificateSumsModel" "a" "[J", Cond.methodLink RX5 114 yX5_are, Cond.instanceMethod yX5_are, Cond.selects RX5 yX5_are yX5_are, Cond.initialized RX5, Cond.code yX5_are cX5_are 3 (some .boolean), Cond.fieldLink RX5 62 "CertificateSumsModel" "code" "I", Cond.methodLink RX5 110 yX5_isThere, Cond.instanceMethod yX5_isThere, Cond.selects RX5 yX5_isThere yX5_isThere, Cond.code yX5_isThere cX5_isThere 2 (some .boolean), Cond.fieldLink RX5 90 "CertificateSumsModel" "many" "I", Cond.methodLink RX5 93 yX5_in, Cond.static yX5_in, Cond.code yX5_in cX5_in 6 (some .boolean), Cond.methodLink RX5 122 yX5_loadTop, Cond.instanceMethod yX5_loadTop, Cond.selects RX5 yX5_loadTop yX5_loadTop, Cond.code yX5_loadTop cX5_loadTop 3 none, Cond.fieldLink RX5 7 "CertificateSumsModel" "tops" "[I", Cond.methodLink RX5 101 yX5_load]
def wsX5_over_r2 : List Cond := [Cond.static yX5_load, Cond.code yX5_load cX5_load 5 none, Cond.methodLink RX5 72 yX5_high, Cond.static yX5_high, Cond.code yX5_high cX5_high 2 (some .int), Cond.methodLink RX5 97 yX5_raise, Cond.instanceMethod yX5_raise, Cond.selects RX5 yX5_raise yX5_raise, Cond.code yX5_raise cX5_raise 2 (some .int), Cond.methodLink RX5 126 yX5_loadBottom, Cond.instanceMethod yX5_loadBottom, Cond.selects RX5 yX5_loadBottom yX5_loadBottom, Cond.code yX5_loadBottom cX5_loadBottom 3 none, Cond.fieldLink RX5 13 "CertificateSumsModel" "bottoms" "[I", Cond.methodLink RX5 129 yX5_multiply, Cond.instanceMethod yX5_multiply, Cond.selects RX5 yX5_multiply yX5_multiply, Cond.code yX5_multiply cX5_multiply 6 none, Cond.constantLong RX5 66 (32003), Cond.methodLink RX5 68 yX5_empty, Cond.static yX5_empty, Cond.code yX5_empty cX5_empty 2 none, Cond.methodLink RX5 83 yX5_copy, Cond.static yX5_copy]
def wsX5_over_r3 : List Cond := [Cond.code yX5_copy cX5_copy 3 none, Cond.methodLink RX5 132 yX5_lowest, Cond.instanceMethod yX5_lowest, Cond.selects RX5 yX5_lowest yX5_lowest, Cond.code yX5_lowest cX5_lowest 4 none, Cond.fieldLink RX5 41 "CertificateSumsModel" "y" "[J", Cond.fieldLink RX5 44 "CertificateSumsModel" "quotient" "[J", Cond.methodLink RX5 87 yX5_divide, Cond.instanceMethod yX5_divide, Cond.selects RX5 yX5_divide yX5_divide, Cond.code yX5_divide cX5_divide 10 none, Cond.methodLink RX5 76 yX5_inverse, Cond.static yX5_inverse, Cond.code yX5_inverse cX5_inverse 7 (some .long), Cond.methodLink RX5 80 yX5_modulo, Cond.static yX5_modulo, Cond.code yX5_modulo cX5_modulo 4 (some .long), Cond.methodLink RX5 107 yX5_keep, Cond.instanceMethod yX5_keep, Cond.selects RX5 yX5_keep yX5_keep, Cond.code yX5_keep cX5_keep 3 (some .int)]
def wsX5_over : List Cond := .code yX5_over cX5_over 3 (some .int) :: ((wsX5_over_r1 ++ (wsX5_over_r2 ++ wsX5_over_r3)) ++ wsX50)
def wsX5_moved_r1 : List Cond := [Cond.fieldLink RX5 22 "CertificateSumsModel" "a" "[J", Cond.fieldLink RX5 26 "CertificateSumsModel" "b" "[J", Cond.methodLink RX5 114 yX5_are, Cond.instanceMethod yX5_are, Cond.selects RX5 yX5_are yX5_are, Cond.initialized RX5, Cond.code yX5_are cX5_are 3 (some .boolean), Cond.fieldLink RX5 62 "CertificateSumsModel" "code" "I", Cond.methodLink RX5 110 yX5_isThere, Cond.instanceMethod yX5_isThere, Cond.selects RX5 yX5_isThere yX5_isThere, Cond.code yX5_isThere cX5_isThere 2 (some .boolean), Cond.fieldLink RX5 90 "CertificateSumsModel" "many" "I", Cond.methodLink RX5 93 yX5_in, Cond.static yX5_in, Cond.code yX5_in cX5_in 6 (some .boolean), Cond.methodLink RX5 122 yX5_loadTop, Cond.instanceMethod yX5_loadTop, Cond.selects RX5 yX5_loadTop yX5_loadTop, Cond.code yX5_loadTop cX5_loadTop 3 none, Cond.fieldLink RX5 7 "CertificateSumsModel" "tops" "[I", Cond.methodLink RX5 101 yX5_load, Cond.static yX5_load, Cond.code yX5_load cX5_load 5 none]
def wsX5_moved_r2 : List Cond := [Cond.methodLink RX5 126 yX5_loadBottom, Cond.instanceMethod yX5_loadBottom, Cond.selects RX5 yX5_loadBottom yX5_loadBottom, Cond.code yX5_loadBottom cX5_loadBottom 3 none, Cond.fieldLink RX5 13 "CertificateSumsModel" "bottoms" "[I", Cond.methodLink RX5 135 yX5_move, Cond.static yX5_move, Cond.code yX5_move cX5_move 3 none, Cond.constantLong RX5 66 (32003), Cond.methodLink RX5 107 yX5_keep, Cond.instanceMethod yX5_keep, Cond.selects RX5 yX5_keep yX5_keep, Cond.code yX5_keep cX5_keep 3 (some .int), Cond.methodLink RX5 72 yX5_high, Cond.static yX5_high, Cond.code yX5_high cX5_high 2 (some .int), Cond.methodLink RX5 97 yX5_raise, Cond.instanceMethod yX5_raise, Cond.selects RX5 yX5_raise yX5_raise, Cond.code yX5_raise cX5_raise 2 (some .int)]
def wsX5_moved : List Cond := .code yX5_moved cX5_moved 2 (some .int) :: ((wsX5_moved_r1 ++ wsX5_moved_r2) ++ wsX50)
def wsX5_makeStep_r1 : List Cond := [Cond.fieldLink RX5 32 "CertificateSumsModel" "d" "[J", Cond.fieldLink RX5 22 "CertificateSumsModel" "a" "[J", Cond.fieldLink RX5 35 "CertificateSumsModel" "e" "[J", Cond.fieldLink RX5 26 "CertificateSumsModel" "b" "[J", Cond.fieldLink RX5 29 "CertificateSumsModel" "c" "[J", Cond.fieldLink RX5 16 "CertificateSumsModel" "ratioTop" "[I", Cond.fieldLink RX5 38 "CertificateSumsModel" "x" "[J", Cond.fieldLink RX5 19 "CertificateSumsModel" "ratioBottom" "[I", Cond.constantLong RX5 66 (32003), Cond.methodLink RX5 83 yX5_copy, Cond.static yX5_copy, Cond.initialized RX5, Cond.code yX5_copy cX5_copy 3 none, Cond.methodLink RX5 135 yX5_move, Cond.static yX5_move, Cond.code yX5_move cX5_move 3 none, Cond.methodLink RX5 101 yX5_load, Cond.static yX5_load, Cond.code yX5_load cX5_load 5 none, Cond.methodLink RX5 129 yX5_multiply, Cond.instanceMethod yX5_multiply, Cond.selects RX5 yX5_multiply yX5_multiply, Cond.code yX5_multiply cX5_multiply 6 none, Cond.methodLink RX5 68 yX5_empty]
def wsX5_makeStep_r2 : List Cond := [Cond.static yX5_empty, Cond.code yX5_empty cX5_empty 2 none, Cond.methodLink RX5 72 yX5_high, Cond.static yX5_high, Cond.code yX5_high cX5_high 2 (some .int), Cond.methodLink RX5 132 yX5_lowest, Cond.instanceMethod yX5_lowest, Cond.selects RX5 yX5_lowest yX5_lowest, Cond.code yX5_lowest cX5_lowest 4 none, Cond.fieldLink RX5 41 "CertificateSumsModel" "y" "[J", Cond.fieldLink RX5 44 "CertificateSumsModel" "quotient" "[J", Cond.methodLink RX5 87 yX5_divide, Cond.instanceMethod yX5_divide, Cond.selects RX5 yX5_divide yX5_divide, Cond.code yX5_divide cX5_divide 10 none, Cond.methodLink RX5 76 yX5_inverse, Cond.static yX5_inverse, Cond.code yX5_inverse cX5_inverse 7 (some .long), Cond.methodLink RX5 80 yX5_modulo, Cond.static yX5_modulo, Cond.code yX5_modulo cX5_modulo 4 (some .long)]
def wsX5_makeStep : List Cond := .code yX5_makeStep cX5_makeStep 2 none :: ((wsX5_makeStep_r1 ++ wsX5_makeStep_r2) ++ wsX50)
def wsX5_step_r1 : List Cond := [Cond.fieldLink RX5 22 "CertificateSumsModel" "a" "[J", Cond.fieldLink RX5 26 "CertificateSumsModel" "b" "[J", Cond.methodLink RX5 114 yX5_are, Cond.instanceMethod yX5_are, Cond.selects RX5 yX5_are yX5_are, Cond.initialized RX5, Cond.code yX5_are cX5_are 3 (some .boolean), Cond.fieldLink RX5 62 "CertificateSumsModel" "code" "I", Cond.methodLink RX5 110 yX5_isThere, Cond.instanceMethod yX5_isThere, Cond.selects RX5 yX5_isThere yX5_isThere, Cond.code yX5_isThere cX5_isThere 2 (some .boolean), Cond.fieldLink RX5 90 "CertificateSumsModel" "many" "I", Cond.methodLink RX5 93 yX5_in, Cond.static yX5_in, Cond.code yX5_in cX5_in 6 (some .boolean), Cond.methodLink RX5 138 yX5_isNoRatio, Cond.instanceMethod yX5_isNoRatio, Cond.selects RX5 yX5_isNoRatio yX5_isNoRatio, Cond.code yX5_isNoRatio cX5_isNoRatio 1 (some .boolean), Cond.fieldLink RX5 19 "CertificateSumsModel" "ratioBottom" "[I", Cond.methodLink RX5 97 yX5_raise, Cond.instanceMethod yX5_raise, Cond.selects RX5 yX5_raise yX5_raise]
def wsX5_step_r2 : List Cond := [Cond.code yX5_raise cX5_raise 2 (some .int), Cond.methodLink RX5 122 yX5_loadTop, Cond.instanceMethod yX5_loadTop, Cond.selects RX5 yX5_loadTop yX5_loadTop, Cond.code yX5_loadTop cX5_loadTop 3 none, Cond.fieldLink RX5 7 "CertificateSumsModel" "tops" "[I", Cond.methodLink RX5 101 yX5_load, Cond.static yX5_load, Cond.code yX5_load cX5_load 5 none, Cond.methodLink RX5 126 yX5_loadBottom, Cond.instanceMethod yX5_loadBottom, Cond.selects RX5 yX5_loadBottom yX5_loadBottom, Cond.code yX5_loadBottom cX5_loadBottom 3 none, Cond.fieldLink RX5 13 "CertificateSumsModel" "bottoms" "[I", Cond.methodLink RX5 142 yX5_makeStep, Cond.instanceMethod yX5_makeStep, Cond.selects RX5 yX5_makeStep yX5_makeStep, Cond.code yX5_makeStep cX5_makeStep 2 none, Cond.fieldLink RX5 32 "CertificateSumsModel" "d" "[J", Cond.fieldLink RX5 35 "CertificateSumsModel" "e" "[J", Cond.fieldLink RX5 29 "CertificateSumsModel" "c" "[J", Cond.fieldLink RX5 16 "CertificateSumsModel" "ratioTop" "[I", Cond.fieldLink RX5 38 "CertificateSumsModel" "x" "[J", Cond.constantLong RX5 66 (32003)]
def wsX5_step_r3 : List Cond := [Cond.methodLink RX5 83 yX5_copy, Cond.static yX5_copy, Cond.code yX5_copy cX5_copy 3 none, Cond.methodLink RX5 135 yX5_move, Cond.static yX5_move, Cond.code yX5_move cX5_move 3 none, Cond.methodLink RX5 129 yX5_multiply, Cond.instanceMethod yX5_multiply, Cond.selects RX5 yX5_multiply yX5_multiply, Cond.code yX5_multiply cX5_multiply 6 none, Cond.methodLink RX5 68 yX5_empty, Cond.static yX5_empty, Cond.code yX5_empty cX5_empty 2 none, Cond.methodLink RX5 72 yX5_high, Cond.static yX5_high, Cond.code yX5_high cX5_high 2 (some .int), Cond.methodLink RX5 132 yX5_lowest, Cond.instanceMethod yX5_lowest, Cond.selects RX5 yX5_lowest yX5_lowest, Cond.code yX5_lowest cX5_lowest 4 none, Cond.fieldLink RX5 41 "CertificateSumsModel" "y" "[J", Cond.fieldLink RX5 44 "CertificateSumsModel" "quotient" "[J", Cond.methodLink RX5 87 yX5_divide, Cond.instanceMethod yX5_divide]
def wsX5_step_r4 : List Cond := [Cond.selects RX5 yX5_divide yX5_divide, Cond.code yX5_divide cX5_divide 10 none, Cond.methodLink RX5 76 yX5_inverse, Cond.static yX5_inverse, Cond.code yX5_inverse cX5_inverse 7 (some .long), Cond.methodLink RX5 80 yX5_modulo, Cond.static yX5_modulo, Cond.code yX5_modulo cX5_modulo 4 (some .long), Cond.methodLink RX5 107 yX5_keep, Cond.instanceMethod yX5_keep, Cond.selects RX5 yX5_keep yX5_keep, Cond.code yX5_keep cX5_keep 3 (some .int)]
def wsX5_step : List Cond := .code yX5_step cX5_step 2 (some .int) :: ((wsX5_step_r1 ++ (wsX5_step_r2 ++ (wsX5_step_r3 ++ wsX5_step_r4))) ++ wsX50)
def wsX5_proves_r1 : List Cond := [Cond.fieldLink RX5 62 "CertificateSumsModel" "code" "I", Cond.fieldLink RX5 22 "CertificateSumsModel" "a" "[J", Cond.fieldLink RX5 26 "CertificateSumsModel" "b" "[J", Cond.fieldLink RX5 7 "CertificateSumsModel" "tops" "[I", Cond.fieldLink RX5 13 "CertificateSumsModel" "bottoms" "[I", Cond.methodLink RX5 114 yX5_are, Cond.instanceMethod yX5_are, Cond.selects RX5 yX5_are yX5_are, Cond.initialized RX5, Cond.code yX5_are cX5_are 3 (some .boolean), Cond.methodLink RX5 110 yX5_isThere, Cond.instanceMethod yX5_isThere, Cond.selects RX5 yX5_isThere yX5_isThere, Cond.code yX5_isThere cX5_isThere 2 (some .boolean), Cond.fieldLink RX5 90 "CertificateSumsModel" "many" "I", Cond.methodLink RX5 93 yX5_in, Cond.static yX5_in, Cond.code yX5_in cX5_in 6 (some .boolean), Cond.methodLink RX5 138 yX5_isNoRatio, Cond.instanceMethod yX5_isNoRatio, Cond.selects RX5 yX5_isNoRatio yX5_isNoRatio, Cond.code yX5_isNoRatio cX5_isNoRatio 1 (some .boolean), Cond.fieldLink RX5 19 "CertificateSumsModel" "ratioBottom" "[I", Cond.methodLink RX5 122 yX5_loadTop]
def wsX5_proves_r2 : List Cond := [Cond.instanceMethod yX5_loadTop, Cond.selects RX5 yX5_loadTop yX5_loadTop, Cond.code yX5_loadTop cX5_loadTop 3 none, Cond.methodLink RX5 101 yX5_load, Cond.static yX5_load, Cond.code yX5_load cX5_load 5 none, Cond.methodLink RX5 126 yX5_loadBottom, Cond.instanceMethod yX5_loadBottom, Cond.selects RX5 yX5_loadBottom yX5_loadBottom, Cond.code yX5_loadBottom cX5_loadBottom 3 none, Cond.methodLink RX5 142 yX5_makeStep, Cond.instanceMethod yX5_makeStep, Cond.selects RX5 yX5_makeStep yX5_makeStep, Cond.code yX5_makeStep cX5_makeStep 2 none, Cond.fieldLink RX5 32 "CertificateSumsModel" "d" "[J", Cond.fieldLink RX5 35 "CertificateSumsModel" "e" "[J", Cond.fieldLink RX5 29 "CertificateSumsModel" "c" "[J", Cond.fieldLink RX5 16 "CertificateSumsModel" "ratioTop" "[I", Cond.fieldLink RX5 38 "CertificateSumsModel" "x" "[J", Cond.constantLong RX5 66 (32003), Cond.methodLink RX5 83 yX5_copy, Cond.static yX5_copy, Cond.code yX5_copy cX5_copy 3 none, Cond.methodLink RX5 135 yX5_move]
def wsX5_proves_r3 : List Cond := [Cond.static yX5_move, Cond.code yX5_move cX5_move 3 none, Cond.methodLink RX5 129 yX5_multiply, Cond.instanceMethod yX5_multiply, Cond.selects RX5 yX5_multiply yX5_multiply, Cond.code yX5_multiply cX5_multiply 6 none, Cond.methodLink RX5 68 yX5_empty, Cond.static yX5_empty, Cond.code yX5_empty cX5_empty 2 none, Cond.methodLink RX5 72 yX5_high, Cond.static yX5_high, Cond.code yX5_high cX5_high 2 (some .int), Cond.methodLink RX5 132 yX5_lowest, Cond.instanceMethod yX5_lowest, Cond.selects RX5 yX5_lowest yX5_lowest, Cond.code yX5_lowest cX5_lowest 4 none, Cond.fieldLink RX5 41 "CertificateSumsModel" "y" "[J", Cond.fieldLink RX5 44 "CertificateSumsModel" "quotient" "[J", Cond.methodLink RX5 87 yX5_divide, Cond.instanceMethod yX5_divide, Cond.selects RX5 yX5_divide yX5_divide, Cond.code yX5_divide cX5_divide 10 none, Cond.methodLink RX5 76 yX5_inverse, Cond.static yX5_inverse]
def wsX5_proves_r4 : List Cond := [Cond.code yX5_inverse cX5_inverse 7 (some .long), Cond.methodLink RX5 80 yX5_modulo, Cond.static yX5_modulo, Cond.code yX5_modulo cX5_modulo 4 (some .long)]
def wsX5_proves : List Cond := .code yX5_proves cX5_proves 4 (some .boolean) :: ((wsX5_proves_r1 ++ (wsX5_proves_r2 ++ (wsX5_proves_r3 ++ wsX5_proves_r4))) ++ wsX50)
def wsX5_fill_r1 : List Cond := [Cond.fieldLink RX5 53 "CertificateSumsModel" "q1" "[J", Cond.fieldLink RX5 56 "CertificateSumsModel" "q2" "[J", Cond.fieldLink RX5 29 "CertificateSumsModel" "c" "[J", Cond.fieldLink RX5 16 "CertificateSumsModel" "ratioTop" "[I", Cond.fieldLink RX5 32 "CertificateSumsModel" "d" "[J", Cond.fieldLink RX5 38 "CertificateSumsModel" "x" "[J", Cond.fieldLink RX5 19 "CertificateSumsModel" "ratioBottom" "[I", Cond.fieldLink RX5 35 "CertificateSumsModel" "e" "[J", Cond.fieldLink RX5 59 "CertificateSumsModel" "q3" "[J", Cond.fieldLink RX5 22 "CertificateSumsModel" "a" "[J", Cond.fieldLink RX5 26 "CertificateSumsModel" "b" "[J", Cond.fieldLink RX5 47 "CertificateSumsModel" "table" "[J", Cond.constantLong RX5 66 (32003), Cond.methodLink RX5 122 yX5_loadTop, Cond.instanceMethod yX5_loadTop, Cond.selects RX5 yX5_loadTop yX5_loadTop, Cond.initialized RX5, Cond.code yX5_loadTop cX5_loadTop 3 none, Cond.fieldLink RX5 7 "CertificateSumsModel" "tops" "[I", Cond.methodLink RX5 101 yX5_load, Cond.static yX5_load, Cond.code yX5_load cX5_load 5 none, Cond.methodLink RX5 83 yX5_copy, Cond.static yX5_copy]
def wsX5_fill_r2 : List Cond := [Cond.code yX5_copy cX5_copy 3 none, Cond.methodLink RX5 135 yX5_move, Cond.static yX5_move, Cond.code yX5_move cX5_move 3 none, Cond.methodLink RX5 129 yX5_multiply, Cond.instanceMethod yX5_multiply, Cond.selects RX5 yX5_multiply yX5_multiply, Cond.code yX5_multiply cX5_multiply 6 none, Cond.methodLink RX5 68 yX5_empty, Cond.static yX5_empty, Cond.code yX5_empty cX5_empty 2 none, Cond.methodLink RX5 72 yX5_high, Cond.static yX5_high, Cond.code yX5_high cX5_high 2 (some .int), Cond.methodLink RX5 126 yX5_loadBottom, Cond.instanceMethod yX5_loadBottom, Cond.selects RX5 yX5_loadBottom yX5_loadBottom, Cond.code yX5_loadBottom cX5_loadBottom 3 none, Cond.fieldLink RX5 13 "CertificateSumsModel" "bottoms" "[I"]
def wsX5_fill : List Cond := .code yX5_fill cX5_fill 5 none :: ((wsX5_fill_r1 ++ wsX5_fill_r2) ++ wsX50)
def wsX5_clear : List Cond := .code yX5_clear cX5_clear 12 (some .int) :: ([.fieldLink RX5 47 "CertificateSumsModel" "table" "[J", .fieldLink RX5 50 "CertificateSumsModel" "row" "[I", .constantLong RX5 66 (32003), .fieldLink RX5 145 "CertificateSumsModel" "meets" "Z", .methodLink RX5 76 yX5_inverse, .static yX5_inverse, .initialized RX5, .code yX5_inverse cX5_inverse 7 (some .long), .methodLink RX5 80 yX5_modulo, .static yX5_modulo, .code yX5_modulo cX5_modulo 4 (some .long)] ++ wsX50)
def wsX5_mayBe_r1 : List Cond := [Cond.fieldLink RX5 29 "CertificateSumsModel" "c" "[J", Cond.fieldLink RX5 62 "CertificateSumsModel" "code" "I", Cond.methodLink RX5 114 yX5_are, Cond.instanceMethod yX5_are, Cond.selects RX5 yX5_are yX5_are, Cond.initialized RX5, Cond.code yX5_are cX5_are 3 (some .boolean), Cond.methodLink RX5 110 yX5_isThere, Cond.instanceMethod yX5_isThere, Cond.selects RX5 yX5_isThere yX5_isThere, Cond.code yX5_isThere cX5_isThere 2 (some .boolean), Cond.fieldLink RX5 90 "CertificateSumsModel" "many" "I", Cond.methodLink RX5 93 yX5_in, Cond.static yX5_in, Cond.code yX5_in cX5_in 6 (some .boolean), Cond.methodLink RX5 122 yX5_loadTop, Cond.instanceMethod yX5_loadTop, Cond.selects RX5 yX5_loadTop yX5_loadTop, Cond.code yX5_loadTop cX5_loadTop 3 none, Cond.fieldLink RX5 7 "CertificateSumsModel" "tops" "[I", Cond.methodLink RX5 101 yX5_load, Cond.static yX5_load, Cond.code yX5_load cX5_load 5 none, Cond.methodLink RX5 72 yX5_high]
def wsX5_mayBe_r2 : List Cond := [Cond.static yX5_high, Cond.code yX5_high cX5_high 2 (some .int), Cond.methodLink RX5 138 yX5_isNoRatio, Cond.instanceMethod yX5_isNoRatio, Cond.selects RX5 yX5_isNoRatio yX5_isNoRatio, Cond.code yX5_isNoRatio cX5_isNoRatio 1 (some .boolean), Cond.fieldLink RX5 19 "CertificateSumsModel" "ratioBottom" "[I"]
def wsX5_mayBe : List Cond := .code yX5_mayBe cX5_mayBe 3 (some .boolean) :: ((wsX5_mayBe_r1 ++ wsX5_mayBe_r2) ++ wsX50)
def wsX5_find_r1 : List Cond := [Cond.constantLong RX5 152 (8), Cond.fieldLink RX5 90 "CertificateSumsModel" "many" "I", Cond.fieldLink RX5 145 "CertificateSumsModel" "meets" "Z", Cond.fieldLink RX5 22 "CertificateSumsModel" "a" "[J", Cond.fieldLink RX5 50 "CertificateSumsModel" "row" "[I", Cond.fieldLink RX5 47 "CertificateSumsModel" "table" "[J", Cond.fieldLink RX5 26 "CertificateSumsModel" "b" "[J", Cond.methodLink RX5 149 yX5_mayBe, Cond.instanceMethod yX5_mayBe, Cond.selects RX5 yX5_mayBe yX5_mayBe, Cond.initialized RX5, Cond.code yX5_mayBe cX5_mayBe 3 (some .boolean), Cond.fieldLink RX5 29 "CertificateSumsModel" "c" "[J", Cond.fieldLink RX5 62 "CertificateSumsModel" "code" "I", Cond.methodLink RX5 114 yX5_are, Cond.instanceMethod yX5_are, Cond.selects RX5 yX5_are yX5_are, Cond.code yX5_are cX5_are 3 (some .boolean), Cond.methodLink RX5 110 yX5_isThere, Cond.instanceMethod yX5_isThere, Cond.selects RX5 yX5_isThere yX5_isThere, Cond.code yX5_isThere cX5_isThere 2 (some .boolean), Cond.methodLink RX5 93 yX5_in, Cond.static yX5_in]
def wsX5_find_r2 : List Cond := [Cond.code yX5_in cX5_in 6 (some .boolean), Cond.methodLink RX5 122 yX5_loadTop, Cond.instanceMethod yX5_loadTop, Cond.selects RX5 yX5_loadTop yX5_loadTop, Cond.code yX5_loadTop cX5_loadTop 3 none, Cond.fieldLink RX5 7 "CertificateSumsModel" "tops" "[I", Cond.methodLink RX5 101 yX5_load, Cond.static yX5_load, Cond.code yX5_load cX5_load 5 none, Cond.methodLink RX5 72 yX5_high, Cond.static yX5_high, Cond.code yX5_high cX5_high 2 (some .int), Cond.methodLink RX5 138 yX5_isNoRatio, Cond.instanceMethod yX5_isNoRatio, Cond.selects RX5 yX5_isNoRatio yX5_isNoRatio, Cond.code yX5_isNoRatio cX5_isNoRatio 1 (some .boolean), Cond.fieldLink RX5 19 "CertificateSumsModel" "ratioBottom" "[I", Cond.methodLink RX5 97 yX5_raise, Cond.instanceMethod yX5_raise, Cond.selects RX5 yX5_raise yX5_raise, Cond.code yX5_raise cX5_raise 2 (some .int), Cond.methodLink RX5 154 yX5_fill, Cond.instanceMethod yX5_fill, Cond.selects RX5 yX5_fill yX5_fill]
def wsX5_find_r3 : List Cond := [Cond.code yX5_fill cX5_fill 5 none, Cond.fieldLink RX5 53 "CertificateSumsModel" "q1" "[J", Cond.fieldLink RX5 56 "CertificateSumsModel" "q2" "[J", Cond.fieldLink RX5 16 "CertificateSumsModel" "ratioTop" "[I", Cond.fieldLink RX5 32 "CertificateSumsModel" "d" "[J", Cond.fieldLink RX5 38 "CertificateSumsModel" "x" "[J", Cond.fieldLink RX5 35 "CertificateSumsModel" "e" "[J", Cond.fieldLink RX5 59 "CertificateSumsModel" "q3" "[J", Cond.constantLong RX5 66 (32003), Cond.methodLink RX5 83 yX5_copy, Cond.static yX5_copy, Cond.code yX5_copy cX5_copy 3 none, Cond.methodLink RX5 135 yX5_move, Cond.static yX5_move, Cond.code yX5_move cX5_move 3 none, Cond.methodLink RX5 129 yX5_multiply, Cond.instanceMethod yX5_multiply, Cond.selects RX5 yX5_multiply yX5_multiply, Cond.code yX5_multiply cX5_multiply 6 none, Cond.methodLink RX5 68 yX5_empty, Cond.static yX5_empty, Cond.code yX5_empty cX5_empty 2 none, Cond.methodLink RX5 126 yX5_loadBottom, Cond.instanceMethod yX5_loadBottom]
def wsX5_find_r4 : List Cond := [Cond.selects RX5 yX5_loadBottom yX5_loadBottom, Cond.code yX5_loadBottom cX5_loadBottom 3 none, Cond.fieldLink RX5 13 "CertificateSumsModel" "bottoms" "[I", Cond.methodLink RX5 157 yX5_clear, Cond.instanceMethod yX5_clear, Cond.selects RX5 yX5_clear yX5_clear, Cond.code yX5_clear cX5_clear 12 (some .int), Cond.methodLink RX5 76 yX5_inverse, Cond.static yX5_inverse, Cond.code yX5_inverse cX5_inverse 7 (some .long), Cond.methodLink RX5 80 yX5_modulo, Cond.static yX5_modulo, Cond.code yX5_modulo cX5_modulo 4 (some .long), Cond.methodLink RX5 132 yX5_lowest, Cond.instanceMethod yX5_lowest, Cond.selects RX5 yX5_lowest yX5_lowest, Cond.code yX5_lowest cX5_lowest 4 none, Cond.fieldLink RX5 41 "CertificateSumsModel" "y" "[J", Cond.fieldLink RX5 44 "CertificateSumsModel" "quotient" "[J", Cond.methodLink RX5 87 yX5_divide, Cond.instanceMethod yX5_divide, Cond.selects RX5 yX5_divide yX5_divide, Cond.code yX5_divide cX5_divide 10 none, Cond.methodLink RX5 107 yX5_keep]
def wsX5_find_r5 : List Cond := [Cond.instanceMethod yX5_keep, Cond.selects RX5 yX5_keep yX5_keep, Cond.code yX5_keep cX5_keep 3 (some .int)]
def wsX5_find : List Cond := .code yX5_find cX5_find 5 (some .int) :: ((wsX5_find_r1 ++ (wsX5_find_r2 ++ (wsX5_find_r3 ++ (wsX5_find_r4 ++ wsX5_find_r5)))) ++ wsX50)
def wsX5_least_r1 : List Cond := [Cond.fieldLink RX5 145 "CertificateSumsModel" "meets" "Z", Cond.methodLink RX5 149 yX5_mayBe, Cond.instanceMethod yX5_mayBe, Cond.selects RX5 yX5_mayBe yX5_mayBe, Cond.initialized RX5, Cond.code yX5_mayBe cX5_mayBe 3 (some .boolean), Cond.fieldLink RX5 29 "CertificateSumsModel" "c" "[J", Cond.fieldLink RX5 62 "CertificateSumsModel" "code" "I", Cond.methodLink RX5 114 yX5_are, Cond.instanceMethod yX5_are, Cond.selects RX5 yX5_are yX5_are, Cond.code yX5_are cX5_are 3 (some .boolean), Cond.methodLink RX5 110 yX5_isThere, Cond.instanceMethod yX5_isThere, Cond.selects RX5 yX5_isThere yX5_isThere, Cond.code yX5_isThere cX5_isThere 2 (some .boolean), Cond.fieldLink RX5 90 "CertificateSumsModel" "many" "I", Cond.methodLink RX5 93 yX5_in, Cond.static yX5_in, Cond.code yX5_in cX5_in 6 (some .boolean), Cond.methodLink RX5 122 yX5_loadTop, Cond.instanceMethod yX5_loadTop, Cond.selects RX5 yX5_loadTop yX5_loadTop, Cond.code yX5_loadTop cX5_loadTop 3 none]
def wsX5_least_r2 : List Cond := [Cond.fieldLink RX5 7 "CertificateSumsModel" "tops" "[I", Cond.methodLink RX5 101 yX5_load, Cond.static yX5_load, Cond.code yX5_load cX5_load 5 none, Cond.methodLink RX5 72 yX5_high, Cond.static yX5_high, Cond.code yX5_high cX5_high 2 (some .int), Cond.methodLink RX5 138 yX5_isNoRatio, Cond.instanceMethod yX5_isNoRatio, Cond.selects RX5 yX5_isNoRatio yX5_isNoRatio, Cond.code yX5_isNoRatio cX5_isNoRatio 1 (some .boolean), Cond.fieldLink RX5 19 "CertificateSumsModel" "ratioBottom" "[I", Cond.methodLink RX5 154 yX5_fill, Cond.instanceMethod yX5_fill, Cond.selects RX5 yX5_fill yX5_fill, Cond.code yX5_fill cX5_fill 5 none, Cond.fieldLink RX5 53 "CertificateSumsModel" "q1" "[J", Cond.fieldLink RX5 56 "CertificateSumsModel" "q2" "[J", Cond.fieldLink RX5 16 "CertificateSumsModel" "ratioTop" "[I", Cond.fieldLink RX5 32 "CertificateSumsModel" "d" "[J", Cond.fieldLink RX5 38 "CertificateSumsModel" "x" "[J", Cond.fieldLink RX5 35 "CertificateSumsModel" "e" "[J", Cond.fieldLink RX5 59 "CertificateSumsModel" "q3" "[J", Cond.fieldLink RX5 22 "CertificateSumsModel" "a" "[J"]
def wsX5_least_r3 : List Cond := [Cond.fieldLink RX5 26 "CertificateSumsModel" "b" "[J", Cond.fieldLink RX5 47 "CertificateSumsModel" "table" "[J", Cond.constantLong RX5 66 (32003), Cond.methodLink RX5 83 yX5_copy, Cond.static yX5_copy, Cond.code yX5_copy cX5_copy 3 none, Cond.methodLink RX5 135 yX5_move, Cond.static yX5_move, Cond.code yX5_move cX5_move 3 none, Cond.methodLink RX5 129 yX5_multiply, Cond.instanceMethod yX5_multiply, Cond.selects RX5 yX5_multiply yX5_multiply, Cond.code yX5_multiply cX5_multiply 6 none, Cond.methodLink RX5 68 yX5_empty, Cond.static yX5_empty, Cond.code yX5_empty cX5_empty 2 none, Cond.methodLink RX5 126 yX5_loadBottom, Cond.instanceMethod yX5_loadBottom, Cond.selects RX5 yX5_loadBottom yX5_loadBottom, Cond.code yX5_loadBottom cX5_loadBottom 3 none, Cond.fieldLink RX5 13 "CertificateSumsModel" "bottoms" "[I", Cond.methodLink RX5 157 yX5_clear, Cond.instanceMethod yX5_clear, Cond.selects RX5 yX5_clear yX5_clear]
def wsX5_least_r4 : List Cond := [Cond.code yX5_clear cX5_clear 12 (some .int), Cond.fieldLink RX5 50 "CertificateSumsModel" "row" "[I", Cond.methodLink RX5 76 yX5_inverse, Cond.static yX5_inverse, Cond.code yX5_inverse cX5_inverse 7 (some .long), Cond.methodLink RX5 80 yX5_modulo, Cond.static yX5_modulo, Cond.code yX5_modulo cX5_modulo 4 (some .long)]
def wsX5_least : List Cond := .code yX5_least cX5_least 4 (some .int) :: ((wsX5_least_r1 ++ (wsX5_least_r2 ++ (wsX5_least_r3 ++ wsX5_least_r4))) ++ wsX50)
def wsX5_free_r1 : List Cond := [Cond.constantLong RX5 152 (8), Cond.methodLink RX5 149 yX5_mayBe, Cond.instanceMethod yX5_mayBe, Cond.selects RX5 yX5_mayBe yX5_mayBe, Cond.initialized RX5, Cond.code yX5_mayBe cX5_mayBe 3 (some .boolean), Cond.fieldLink RX5 29 "CertificateSumsModel" "c" "[J", Cond.fieldLink RX5 62 "CertificateSumsModel" "code" "I", Cond.methodLink RX5 114 yX5_are, Cond.instanceMethod yX5_are, Cond.selects RX5 yX5_are yX5_are, Cond.code yX5_are cX5_are 3 (some .boolean), Cond.methodLink RX5 110 yX5_isThere, Cond.instanceMethod yX5_isThere, Cond.selects RX5 yX5_isThere yX5_isThere, Cond.code yX5_isThere cX5_isThere 2 (some .boolean), Cond.fieldLink RX5 90 "CertificateSumsModel" "many" "I", Cond.methodLink RX5 93 yX5_in, Cond.static yX5_in, Cond.code yX5_in cX5_in 6 (some .boolean), Cond.methodLink RX5 122 yX5_loadTop, Cond.instanceMethod yX5_loadTop, Cond.selects RX5 yX5_loadTop yX5_loadTop, Cond.code yX5_loadTop cX5_loadTop 3 none]
def wsX5_free_r2 : List Cond := [Cond.fieldLink RX5 7 "CertificateSumsModel" "tops" "[I", Cond.methodLink RX5 101 yX5_load, Cond.static yX5_load, Cond.code yX5_load cX5_load 5 none, Cond.methodLink RX5 72 yX5_high, Cond.static yX5_high, Cond.code yX5_high cX5_high 2 (some .int), Cond.methodLink RX5 138 yX5_isNoRatio, Cond.instanceMethod yX5_isNoRatio, Cond.selects RX5 yX5_isNoRatio yX5_isNoRatio, Cond.code yX5_isNoRatio cX5_isNoRatio 1 (some .boolean), Cond.fieldLink RX5 19 "CertificateSumsModel" "ratioBottom" "[I", Cond.methodLink RX5 97 yX5_raise, Cond.instanceMethod yX5_raise, Cond.selects RX5 yX5_raise yX5_raise, Cond.code yX5_raise cX5_raise 2 (some .int), Cond.methodLink RX5 154 yX5_fill, Cond.instanceMethod yX5_fill, Cond.selects RX5 yX5_fill yX5_fill, Cond.code yX5_fill cX5_fill 5 none, Cond.fieldLink RX5 53 "CertificateSumsModel" "q1" "[J", Cond.fieldLink RX5 56 "CertificateSumsModel" "q2" "[J", Cond.fieldLink RX5 16 "CertificateSumsModel" "ratioTop" "[I", Cond.fieldLink RX5 32 "CertificateSumsModel" "d" "[J"]
def wsX5_free_r3 : List Cond := [Cond.fieldLink RX5 38 "CertificateSumsModel" "x" "[J", Cond.fieldLink RX5 35 "CertificateSumsModel" "e" "[J", Cond.fieldLink RX5 59 "CertificateSumsModel" "q3" "[J", Cond.fieldLink RX5 22 "CertificateSumsModel" "a" "[J", Cond.fieldLink RX5 26 "CertificateSumsModel" "b" "[J", Cond.fieldLink RX5 47 "CertificateSumsModel" "table" "[J", Cond.constantLong RX5 66 (32003), Cond.methodLink RX5 83 yX5_copy, Cond.static yX5_copy, Cond.code yX5_copy cX5_copy 3 none, Cond.methodLink RX5 135 yX5_move, Cond.static yX5_move, Cond.code yX5_move cX5_move 3 none, Cond.methodLink RX5 129 yX5_multiply, Cond.instanceMethod yX5_multiply, Cond.selects RX5 yX5_multiply yX5_multiply, Cond.code yX5_multiply cX5_multiply 6 none, Cond.methodLink RX5 68 yX5_empty, Cond.static yX5_empty, Cond.code yX5_empty cX5_empty 2 none, Cond.methodLink RX5 126 yX5_loadBottom, Cond.instanceMethod yX5_loadBottom, Cond.selects RX5 yX5_loadBottom yX5_loadBottom, Cond.code yX5_loadBottom cX5_loadBottom 3 none]
def wsX5_free_r4 : List Cond := [Cond.fieldLink RX5 13 "CertificateSumsModel" "bottoms" "[I", Cond.methodLink RX5 157 yX5_clear, Cond.instanceMethod yX5_clear, Cond.selects RX5 yX5_clear yX5_clear, Cond.code yX5_clear cX5_clear 12 (some .int), Cond.fieldLink RX5 50 "CertificateSumsModel" "row" "[I", Cond.fieldLink RX5 145 "CertificateSumsModel" "meets" "Z", Cond.methodLink RX5 76 yX5_inverse, Cond.static yX5_inverse, Cond.code yX5_inverse cX5_inverse 7 (some .long), Cond.methodLink RX5 80 yX5_modulo, Cond.static yX5_modulo, Cond.code yX5_modulo cX5_modulo 4 (some .long)]
def wsX5_free : List Cond := .code yX5_free cX5_free 3 (some .int) :: ((wsX5_free_r1 ++ (wsX5_free_r2 ++ (wsX5_free_r3 ++ wsX5_free_r4))) ++ wsX50)
def wsX5_loadPart : List Cond := .code yX5_loadPart cX5_loadPart 3 none :: ([.fieldLink RX5 22 "CertificateSumsModel" "a" "[J", .methodLink RX5 122 yX5_loadTop, .instanceMethod yX5_loadTop, .selects RX5 yX5_loadTop yX5_loadTop, .initialized RX5, .code yX5_loadTop cX5_loadTop 3 none, .fieldLink RX5 7 "CertificateSumsModel" "tops" "[I", .methodLink RX5 101 yX5_load, .static yX5_load, .code yX5_load cX5_load 5 none, .methodLink RX5 126 yX5_loadBottom, .instanceMethod yX5_loadBottom, .selects RX5 yX5_loadBottom yX5_loadBottom, .code yX5_loadBottom cX5_loadBottom 3 none, .fieldLink RX5 13 "CertificateSumsModel" "bottoms" "[I"] ++ wsX50)
def wsX5_degree_r1 : List Cond := [Cond.fieldLink RX5 22 "CertificateSumsModel" "a" "[J", Cond.methodLink RX5 114 yX5_are, Cond.instanceMethod yX5_are, Cond.selects RX5 yX5_are yX5_are, Cond.initialized RX5, Cond.code yX5_are cX5_are 3 (some .boolean), Cond.fieldLink RX5 62 "CertificateSumsModel" "code" "I", Cond.methodLink RX5 110 yX5_isThere, Cond.instanceMethod yX5_isThere, Cond.selects RX5 yX5_isThere yX5_isThere, Cond.code yX5_isThere cX5_isThere 2 (some .boolean), Cond.fieldLink RX5 90 "CertificateSumsModel" "many" "I", Cond.methodLink RX5 93 yX5_in, Cond.static yX5_in, Cond.code yX5_in cX5_in 6 (some .boolean), Cond.methodLink RX5 160 yX5_loadPart, Cond.instanceMethod yX5_loadPart, Cond.selects RX5 yX5_loadPart yX5_loadPart, Cond.code yX5_loadPart cX5_loadPart 3 none, Cond.methodLink RX5 122 yX5_loadTop, Cond.instanceMethod yX5_loadTop, Cond.selects RX5 yX5_loadTop yX5_loadTop, Cond.code yX5_loadTop cX5_loadTop 3 none, Cond.fieldLink RX5 7 "CertificateSumsModel" "tops" "[I"]
def wsX5_degree_r2 : List Cond := [Cond.methodLink RX5 101 yX5_load, Cond.static yX5_load, Cond.code yX5_load cX5_load 5 none, Cond.methodLink RX5 126 yX5_loadBottom, Cond.instanceMethod yX5_loadBottom, Cond.selects RX5 yX5_loadBottom yX5_loadBottom, Cond.code yX5_loadBottom cX5_loadBottom 3 none, Cond.fieldLink RX5 13 "CertificateSumsModel" "bottoms" "[I", Cond.methodLink RX5 72 yX5_high, Cond.static yX5_high, Cond.code yX5_high cX5_high 2 (some .int)]
def wsX5_degree : List Cond := .code yX5_degree cX5_degree 3 (some .int) :: ((wsX5_degree_r1 ++ wsX5_degree_r2) ++ wsX50)
def wsX5_at_r1 : List Cond := [Cond.constantLong RX5 164 (20), Cond.fieldLink RX5 22 "CertificateSumsModel" "a" "[J", Cond.methodLink RX5 114 yX5_are, Cond.instanceMethod yX5_are, Cond.selects RX5 yX5_are yX5_are, Cond.initialized RX5, Cond.code yX5_are cX5_are 3 (some .boolean), Cond.fieldLink RX5 62 "CertificateSumsModel" "code" "I", Cond.methodLink RX5 110 yX5_isThere, Cond.instanceMethod yX5_isThere, Cond.selects RX5 yX5_isThere yX5_isThere, Cond.code yX5_isThere cX5_isThere 2 (some .boolean), Cond.fieldLink RX5 90 "CertificateSumsModel" "many" "I", Cond.methodLink RX5 93 yX5_in, Cond.static yX5_in, Cond.code yX5_in cX5_in 6 (some .boolean), Cond.methodLink RX5 160 yX5_loadPart, Cond.instanceMethod yX5_loadPart, Cond.selects RX5 yX5_loadPart yX5_loadPart, Cond.code yX5_loadPart cX5_loadPart 3 none, Cond.methodLink RX5 122 yX5_loadTop, Cond.instanceMethod yX5_loadTop, Cond.selects RX5 yX5_loadTop yX5_loadTop, Cond.code yX5_loadTop cX5_loadTop 3 none]
def wsX5_at_r2 : List Cond := [Cond.fieldLink RX5 7 "CertificateSumsModel" "tops" "[I", Cond.methodLink RX5 101 yX5_load, Cond.static yX5_load, Cond.code yX5_load cX5_load 5 none, Cond.methodLink RX5 126 yX5_loadBottom, Cond.instanceMethod yX5_loadBottom, Cond.selects RX5 yX5_loadBottom yX5_loadBottom, Cond.code yX5_loadBottom cX5_loadBottom 3 none, Cond.fieldLink RX5 13 "CertificateSumsModel" "bottoms" "[I"]
def wsX5_at : List Cond := .code yX5_at cX5_at 4 (some .int) :: ((wsX5_at_r1 ++ wsX5_at_r2) ++ wsX50)
def wsX5_valueAt : List Cond := .code yX5_valueAt cX5_valueAt 6 (some .long) :: ([.constantLong RX5 66 (32003)])
def wsX5_value_r1 : List Cond := [Cond.fieldLink RX5 22 "CertificateSumsModel" "a" "[J", Cond.constantLong RX5 66 (32003), Cond.methodLink RX5 114 yX5_are, Cond.instanceMethod yX5_are, Cond.selects RX5 yX5_are yX5_are, Cond.initialized RX5, Cond.code yX5_are cX5_are 3 (some .boolean), Cond.fieldLink RX5 62 "CertificateSumsModel" "code" "I", Cond.methodLink RX5 110 yX5_isThere, Cond.instanceMethod yX5_isThere, Cond.selects RX5 yX5_isThere yX5_isThere, Cond.code yX5_isThere cX5_isThere 2 (some .boolean), Cond.fieldLink RX5 90 "CertificateSumsModel" "many" "I", Cond.methodLink RX5 93 yX5_in, Cond.static yX5_in, Cond.code yX5_in cX5_in 6 (some .boolean), Cond.methodLink RX5 160 yX5_loadPart, Cond.instanceMethod yX5_loadPart, Cond.selects RX5 yX5_loadPart yX5_loadPart, Cond.code yX5_loadPart cX5_loadPart 3 none, Cond.methodLink RX5 122 yX5_loadTop, Cond.instanceMethod yX5_loadTop, Cond.selects RX5 yX5_loadTop yX5_loadTop, Cond.code yX5_loadTop cX5_loadTop 3 none]
def wsX5_value_r2 : List Cond := [Cond.fieldLink RX5 7 "CertificateSumsModel" "tops" "[I", Cond.methodLink RX5 101 yX5_load, Cond.static yX5_load, Cond.code yX5_load cX5_load 5 none, Cond.methodLink RX5 126 yX5_loadBottom, Cond.instanceMethod yX5_loadBottom, Cond.selects RX5 yX5_loadBottom yX5_loadBottom, Cond.code yX5_loadBottom cX5_loadBottom 3 none, Cond.fieldLink RX5 13 "CertificateSumsModel" "bottoms" "[I", Cond.methodLink RX5 80 yX5_modulo, Cond.static yX5_modulo, Cond.code yX5_modulo cX5_modulo 4 (some .long), Cond.methodLink RX5 166 yX5_valueAt, Cond.static yX5_valueAt, Cond.code yX5_valueAt cX5_valueAt 6 (some .long), Cond.methodLink RX5 76 yX5_inverse, Cond.static yX5_inverse, Cond.code yX5_inverse cX5_inverse 7 (some .long)]
def wsX5_value : List Cond := .code yX5_value cX5_value 6 (some .int) :: ((wsX5_value_r1 ++ wsX5_value_r2) ++ wsX50)
def wsX5_same : List Cond := .code yX5_same cX5_same 4 (some .boolean) :: ([.fieldLink RX5 7 "CertificateSumsModel" "tops" "[I", .fieldLink RX5 13 "CertificateSumsModel" "bottoms" "[I", .methodLink RX5 114 yX5_are, .instanceMethod yX5_are, .selects RX5 yX5_are yX5_are, .initialized RX5, .code yX5_are cX5_are 3 (some .boolean), .fieldLink RX5 62 "CertificateSumsModel" "code" "I", .methodLink RX5 110 yX5_isThere, .instanceMethod yX5_isThere, .selects RX5 yX5_isThere yX5_isThere, .code yX5_isThere cX5_isThere 2 (some .boolean), .fieldLink RX5 90 "CertificateSumsModel" "many" "I", .methodLink RX5 93 yX5_in, .static yX5_in, .code yX5_in cX5_in 6 (some .boolean)] ++ wsX50)
def wsX5_count : List Cond := .code yX5_count cX5_count 1 (some .int) :: ([.fieldLink RX5 62 "CertificateSumsModel" "code" "I", .fieldLink RX5 90 "CertificateSumsModel" "many" "I"] ++ wsX50)
def wsJ9_max_7cf53 : List Cond := .code yJ9_max_7cf53 cJ9_max_7cf53 2 (some .int) :: ([])
def wsJ9_min_7cf53 : List Cond := .code yJ9_min_7cf53 cJ9_min_7cf53 2 (some .int) :: ([])
theorem dJ9_max_7cf53_0 : decode cJ9_max_7cf53 0 = .ok (.iload_n 0, 1) := by decide +kernel
theorem dJ9_max_7cf53_1 : decode cJ9_max_7cf53 1 = .ok (.iload_n 1, 1) := by decide +kernel
theorem dJ9_max_7cf53_2 : decode cJ9_max_7cf53 2 = .ok (.if_icmp .lt 7, 3) := by decide +kernel
theorem dJ9_max_7cf53_5 : decode cJ9_max_7cf53 5 = .ok (.iload_n 0, 1) := by decide +kernel
theorem dJ9_max_7cf53_6 : decode cJ9_max_7cf53 6 = .ok (.goto 4, 3) := by decide +kernel
theorem dJ9_max_7cf53_9 : decode cJ9_max_7cf53 9 = .ok (.iload_n 1, 1) := by decide +kernel
theorem dJ9_max_7cf53_10 : decode cJ9_max_7cf53 10 = .ok (.ireturn, 1) := by decide +kernel
theorem dJ9_min_7cf53_0 : decode cJ9_min_7cf53 0 = .ok (.iload_n 0, 1) := by decide +kernel
theorem dJ9_min_7cf53_1 : decode cJ9_min_7cf53 1 = .ok (.iload_n 1, 1) := by decide +kernel
theorem dJ9_min_7cf53_2 : decode cJ9_min_7cf53 2 = .ok (.if_icmp .gt 7, 3) := by decide +kernel
theorem dJ9_min_7cf53_5 : decode cJ9_min_7cf53 5 = .ok (.iload_n 0, 1) := by decide +kernel
theorem dJ9_min_7cf53_6 : decode cJ9_min_7cf53 6 = .ok (.goto 4, 3) := by decide +kernel
theorem dJ9_min_7cf53_9 : decode cJ9_min_7cf53 9 = .ok (.iload_n 1, 1) := by decide +kernel
theorem dJ9_min_7cf53_10 : decode cJ9_min_7cf53 10 = .ok (.ireturn, 1) := by decide +kernel
abbrev vwCl : List vw_C := [(RX0, TX0, 8), (RX1, TX1, 2), (RX3, TX3, 2), (RX4, TX4, 10), (RX5, TX5, 20)]
end
section
set_option maxRecDepth 20000 in
theorem ggX0_init_X3_init : GoodIn wsX0_init wsX3_init := goodIn_r _ [19, 20, 2, 3, 21, 22, 23, 24, 13, 25, 26, 35, 36] (by decide +kernel) (by decide +kernel)
set_option maxRecDepth 20000 in
theorem gX0_init_X3_init : GoodIn wsX0_init (wsX3_init) := ggX0_init_X3_init
theorem dX0_init_0 : decode cX0_init 0 = .ok (.aload_n 0, 1) := by decide +kernel
theorem dX0_init_1 : decode cX0_init 1 = .ok (.invokespecial 3, 3) := by decide +kernel
theorem dX0_init_4 : decode cX0_init 4 = .ok (.aload_n 0, 1) := by decide +kernel
theorem dX0_init_5 : decode cX0_init 5 = .ok (.bipush 9, 2) := by decide +kernel
theorem dX0_init_7 : decode cX0_init 7 = .ok (.anewarray 9, 3) := by decide +kernel
theorem dX0_init_10 : decode cX0_init 10 = .ok (.putfield 11, 3) := by decide +kernel
theorem dX0_init_13 : decode cX0_init 13 = .ok (.iconst 0, 1) := by decide +kernel
theorem dX0_init_14 : decode cX0_init 14 = .ok (.istore_n 1, 1) := by decide +kernel
theorem dX0_init_15 : decode cX0_init 15 = .ok (.iload_n 1, 1) := by decide +kernel
theorem dX0_init_16 : decode cX0_init 16 = .ok (.aload_n 0, 1) := by decide +kernel
theorem dX0_init_17 : decode cX0_init 17 = .ok (.getfield 11, 3) := by decide +kernel
theorem dX0_init_20 : decode cX0_init 20 = .ok (.arraylength, 1) := by decide +kernel
theorem dX0_init_21 : decode cX0_init 21 = .ok (.if_icmp .ge 24, 3) := by decide +kernel
theorem dX0_init_24 : decode cX0_init 24 = .ok (.aload_n 0, 1) := by decide +kernel
theorem dX0_init_25 : decode cX0_init 25 = .ok (.getfield 11, 3) := by decide +kernel
theorem dX0_init_28 : decode cX0_init 28 = .ok (.iload_n 1, 1) := by decide +kernel
theorem dX0_init_29 : decode cX0_init 29 = .ok (.new 9, 3) := by decide +kernel
theorem dX0_init_32 : decode cX0_init 32 = .ok (.dup, 1) := by decide +kernel
theorem dX0_init_33 : decode cX0_init 33 = .ok (.bipush 64, 2) := by decide +kernel
theorem dX0_init_35 : decode cX0_init 35 = .ok (.invokespecial 17, 3) := by decide +kernel
theorem dX0_init_38 : decode cX0_init 38 = .ok (.aastore, 1) := by decide +kernel
theorem dX0_init_39 : decode cX0_init 39 = .ok (.iinc 1 1, 3) := by decide +kernel
theorem dX0_init_42 : decode cX0_init 42 = .ok (.goto (-27), 3) := by decide +kernel
theorem dX0_init_45 : decode cX0_init 45 = .ok (.aload_n 0, 1) := by decide +kernel
theorem dX0_init_46 : decode cX0_init 46 = .ok (.new 9, 3) := by decide +kernel
theorem dX0_init_49 : decode cX0_init 49 = .ok (.dup, 1) := by decide +kernel
theorem dX0_init_50 : decode cX0_init 50 = .ok (.bipush 64, 2) := by decide +kernel
theorem dX0_init_52 : decode cX0_init 52 = .ok (.invokespecial 17, 3) := by decide +kernel
theorem dX0_init_55 : decode cX0_init 55 = .ok (.putfield 20, 3) := by decide +kernel
theorem dX0_init_58 : decode cX0_init 58 = .ok (.aload_n 0, 1) := by decide +kernel
theorem dX0_init_59 : decode cX0_init 59 = .ok (.new 9, 3) := by decide +kernel
theorem dX0_init_62 : decode cX0_init 62 = .ok (.dup, 1) := by decide +kernel
theorem dX0_init_63 : decode cX0_init 63 = .ok (.bipush 64, 2) := by decide +kernel
theorem dX0_init_65 : decode cX0_init 65 = .ok (.invokespecial 17, 3) := by decide +kernel
theorem dX0_init_68 : decode cX0_init 68 = .ok (.putfield 24, 3) := by decide +kernel
theorem dX0_init_71 : decode cX0_init 71 = .ok (.aload_n 0, 1) := by decide +kernel
theorem dX0_init_72 : decode cX0_init 72 = .ok (.new 9, 3) := by decide +kernel
theorem dX0_init_75 : decode cX0_init 75 = .ok (.dup, 1) := by decide +kernel
theorem dX0_init_76 : decode cX0_init 76 = .ok (.bipush 64, 2) := by decide +kernel
theorem dX0_init_78 : decode cX0_init 78 = .ok (.invokespecial 17, 3) := by decide +kernel
theorem dX0_init_81 : decode cX0_init 81 = .ok (.putfield 27, 3) := by decide +kernel
theorem dX0_init_84 : decode cX0_init 84 = .ok (.aload_n 0, 1) := by decide +kernel
theorem dX0_init_85 : decode cX0_init 85 = .ok (.new 9, 3) := by decide +kernel
theorem dX0_init_88 : decode cX0_init 88 = .ok (.dup, 1) := by decide +kernel
theorem dX0_init_89 : decode cX0_init 89 = .ok (.bipush 64, 2) := by decide +kernel
theorem dX0_init_91 : decode cX0_init 91 = .ok (.invokespecial 17, 3) := by decide +kernel
theorem dX0_init_94 : decode cX0_init 94 = .ok (.putfield 30, 3) := by decide +kernel
theorem dX0_init_97 : decode cX0_init 97 = .ok (.aload_n 0, 1) := by decide +kernel
theorem dX0_init_98 : decode cX0_init 98 = .ok (.new 9, 3) := by decide +kernel
theorem dX0_init_101 : decode cX0_init 101 = .ok (.dup, 1) := by decide +kernel
theorem dX0_init_102 : decode cX0_init 102 = .ok (.bipush 64, 2) := by decide +kernel
theorem dX0_init_104 : decode cX0_init 104 = .ok (.invokespecial 17, 3) := by decide +kernel
theorem dX0_init_107 : decode cX0_init 107 = .ok (.putfield 33, 3) := by decide +kernel
theorem dX0_init_110 : decode cX0_init 110 = .ok (.aload_n 0, 1) := by decide +kernel
theorem dX0_init_111 : decode cX0_init 111 = .ok (.bipush 9, 2) := by decide +kernel
theorem dX0_init_113 : decode cX0_init 113 = .ok (.newarray .int, 2) := by decide +kernel
theorem dX0_init_115 : decode cX0_init 115 = .ok (.putfield 36, 3) := by decide +kernel
theorem dX0_init_118 : decode cX0_init 118 = .ok (.aload_n 0, 1) := by decide +kernel
theorem dX0_init_119 : decode cX0_init 119 = .ok (.bipush 64, 2) := by decide +kernel
theorem dX0_init_121 : decode cX0_init 121 = .ok (.newarray .boolean, 2) := by decide +kernel
theorem dX0_init_123 : decode cX0_init 123 = .ok (.putfield 40, 3) := by decide +kernel
theorem dX0_init_126 : decode cX0_init 126 = .ok (.return_, 1) := by decide +kernel
set_option maxRecDepth 20000 in
theorem ggX0_set_X3_copy : GoodIn wsX0_set wsX3_copy := goodIn_r _ [13, 14, 15, 16, 17, 12, 18, 19, 20, 21, 22, 23, 24, 25, 26, 27, 66, 67] (by decide +kernel) (by decide +kernel)
set_option maxRecDepth 20000 in
theorem gX0_set_X3_copy : GoodIn wsX0_set (wsV RX0 44 RX3 yX3_copy wsX3_copy) := goodIn_app (goodIn_of _ (by decide +kernel)) ggX0_set_X3_copy
set_option maxRecDepth 20000 in
theorem ggX0_set_X3_moveByOne : GoodIn wsX0_set wsX3_moveByOne := goodIn_r _ [31, 14, 24, 25, 26, 12, 27, 23, 32, 33, 34, 35, 36, 19, 20, 21, 22, 66, 67] (by decide +kernel) (by decide +kernel)
set_option maxRecDepth 20000 in
theorem gX0_set_X3_moveByOne : GoodIn wsX0_set (wsV RX0 48 RX3 yX3_moveByOne wsX3_moveByOne) := goodIn_app (goodIn_of _ (by decide +kernel)) ggX0_set_X3_moveByOne
set_option maxRecDepth 20000 in
theorem ggX0_set_X3_setProduct : GoodIn wsX0_set wsX3_setProduct := goodIn_r _ [40, 14, 41, 42, 43, 44, 45, 46, 47, 15, 16, 17, 12, 18, 19, 20, 21, 22, 23, 24, 25, 26, 27, 32, 33, 34, 35, 36, 66, 67] (by decide +kernel) (by decide +kernel)
set_option maxRecDepth 20000 in
theorem gX0_set_X3_setProduct : GoodIn wsX0_set (wsV RX0 56 RX3 yX3_setProduct wsX3_setProduct) := goodIn_app (goodIn_of _ (by decide +kernel)) ggX0_set_X3_setProduct
set_option maxRecDepth 20000 in
theorem ggX0_set_X3_gather : GoodIn wsX0_set wsX3_gather := goodIn_r _ [51, 14, 24, 25, 26, 12, 27, 23, 32, 33, 34, 35, 36, 19, 20, 21, 22, 66, 67] (by decide +kernel) (by decide +kernel)
set_option maxRecDepth 20000 in
theorem gX0_set_X3_gather : GoodIn wsX0_set (wsV RX0 63 RX3 yX3_gather wsX3_gather) := goodIn_app (goodIn_of _ (by decide +kernel)) ggX0_set_X3_gather
set_option maxRecDepth 20000 in
theorem ggX0_set_X3_multiplyByLinear : GoodIn wsX0_set wsX3_multiplyByLinear := goodIn_r _ [55, 14, 24, 25, 26, 12, 27, 23, 32, 33, 34, 35, 36, 19, 20, 21, 22, 66, 67] (by decide +kernel) (by decide +kernel)
set_option maxRecDepth 20000 in
theorem gX0_set_X3_multiplyByLinear : GoodIn wsX0_set (wsV RX0 67 RX3 yX3_multiplyByLinear wsX3_multiplyByLinear) := goodIn_app (goodIn_of _ (by decide +kernel)) ggX0_set_X3_multiplyByLinear
theorem dX0_set_0 : decode cX0_set 0 = .ok (.aload_n 0, 1) := by decide +kernel
theorem dX0_set_1 : decode cX0_set 1 = .ok (.getfield 30, 3) := by decide +kernel
theorem dX0_set_4 : decode cX0_set 4 = .ok (.aload_n 2, 1) := by decide +kernel
theorem dX0_set_5 : decode cX0_set 5 = .ok (.invokevirtual 44, 3) := by decide +kernel
theorem dX0_set_8 : decode cX0_set 8 = .ok (.aload_n 0, 1) := by decide +kernel
theorem dX0_set_9 : decode cX0_set 9 = .ok (.getfield 30, 3) := by decide +kernel
theorem dX0_set_12 : decode cX0_set 12 = .ok (.invokevirtual 48, 3) := by decide +kernel
theorem dX0_set_15 : decode cX0_set 15 = .ok (.aload_n 0, 1) := by decide +kernel
theorem dX0_set_16 : decode cX0_set 16 = .ok (.getfield 33, 3) := by decide +kernel
theorem dX0_set_19 : decode cX0_set 19 = .ok (.aload_n 1, 1) := by decide +kernel
theorem dX0_set_20 : decode cX0_set 20 = .ok (.getfield 51, 3) := by decide +kernel
theorem dX0_set_23 : decode cX0_set 23 = .ok (.aload 4, 2) := by decide +kernel
theorem dX0_set_25 : decode cX0_set 25 = .ok (.invokevirtual 56, 3) := by decide +kernel
theorem dX0_set_28 : decode cX0_set 28 = .ok (.aload_n 0, 1) := by decide +kernel
theorem dX0_set_29 : decode cX0_set 29 = .ok (.getfield 24, 3) := by decide +kernel
theorem dX0_set_32 : decode cX0_set 32 = .ok (.aload_n 0, 1) := by decide +kernel
theorem dX0_set_33 : decode cX0_set 33 = .ok (.getfield 33, 3) := by decide +kernel
theorem dX0_set_36 : decode cX0_set 36 = .ok (.aload_n 2, 1) := by decide +kernel
theorem dX0_set_37 : decode cX0_set 37 = .ok (.invokevirtual 56, 3) := by decide +kernel
theorem dX0_set_40 : decode cX0_set 40 = .ok (.aload_n 0, 1) := by decide +kernel
theorem dX0_set_41 : decode cX0_set 41 = .ok (.getfield 20, 3) := by decide +kernel
theorem dX0_set_44 : decode cX0_set 44 = .ok (.aload_n 0, 1) := by decide +kernel
theorem dX0_set_45 : decode cX0_set 45 = .ok (.getfield 24, 3) := by decide +kernel
theorem dX0_set_48 : decode cX0_set 48 = .ok (.aload_n 0, 1) := by decide +kernel
theorem dX0_set_49 : decode cX0_set 49 = .ok (.getfield 30, 3) := by decide +kernel
theorem dX0_set_52 : decode cX0_set 52 = .ok (.invokevirtual 56, 3) := by decide +kernel
theorem dX0_set_55 : decode cX0_set 55 = .ok (.aload_n 0, 1) := by decide +kernel
theorem dX0_set_56 : decode cX0_set 56 = .ok (.getfield 33, 3) := by decide +kernel
theorem dX0_set_59 : decode cX0_set 59 = .ok (.aload_n 1, 1) := by decide +kernel
theorem dX0_set_60 : decode cX0_set 60 = .ok (.getfield 60, 3) := by decide +kernel
theorem dX0_set_63 : decode cX0_set 63 = .ok (.aload_n 3, 1) := by decide +kernel
theorem dX0_set_64 : decode cX0_set 64 = .ok (.invokevirtual 56, 3) := by decide +kernel
theorem dX0_set_67 : decode cX0_set 67 = .ok (.aload_n 0, 1) := by decide +kernel
theorem dX0_set_68 : decode cX0_set 68 = .ok (.getfield 24, 3) := by decide +kernel
theorem dX0_set_71 : decode cX0_set 71 = .ok (.aload_n 0, 1) := by decide +kernel
theorem dX0_set_72 : decode cX0_set 72 = .ok (.getfield 33, 3) := by decide +kernel
theorem dX0_set_75 : decode cX0_set 75 = .ok (.aload_n 2, 1) := by decide +kernel
theorem dX0_set_76 : decode cX0_set 76 = .ok (.invokevirtual 56, 3) := by decide +kernel
theorem dX0_set_79 : decode cX0_set 79 = .ok (.aload_n 0, 1) := by decide +kernel
theorem dX0_set_80 : decode cX0_set 80 = .ok (.getfield 33, 3) := by decide +kernel
theorem dX0_set_83 : decode cX0_set 83 = .ok (.aload_n 1, 1) := by decide +kernel
theorem dX0_set_84 : decode cX0_set 84 = .ok (.getfield 60, 3) := by decide +kernel
theorem dX0_set_87 : decode cX0_set 87 = .ok (.aload 4, 2) := by decide +kernel
theorem dX0_set_89 : decode cX0_set 89 = .ok (.invokevirtual 56, 3) := by decide +kernel
theorem dX0_set_92 : decode cX0_set 92 = .ok (.aload_n 0, 1) := by decide +kernel
theorem dX0_set_93 : decode cX0_set 93 = .ok (.getfield 27, 3) := by decide +kernel
theorem dX0_set_96 : decode cX0_set 96 = .ok (.aload_n 0, 1) := by decide +kernel
theorem dX0_set_97 : decode cX0_set 97 = .ok (.getfield 33, 3) := by decide +kernel
theorem dX0_set_100 : decode cX0_set 100 = .ok (.aload_n 0, 1) := by decide +kernel
theorem dX0_set_101 : decode cX0_set 101 = .ok (.getfield 30, 3) := by decide +kernel
theorem dX0_set_104 : decode cX0_set 104 = .ok (.invokevirtual 56, 3) := by decide +kernel
theorem dX0_set_107 : decode cX0_set 107 = .ok (.iconst 0, 1) := by decide +kernel
theorem dX0_set_108 : decode cX0_set 108 = .ok (.istore 5, 2) := by decide +kernel
theorem dX0_set_110 : decode cX0_set 110 = .ok (.iload 5, 2) := by decide +kernel
theorem dX0_set_112 : decode cX0_set 112 = .ok (.aload_n 0, 1) := by decide +kernel
theorem dX0_set_113 : decode cX0_set 113 = .ok (.getfield 11, 3) := by decide +kernel
theorem dX0_set_116 : decode cX0_set 116 = .ok (.arraylength, 1) := by decide +kernel
theorem dX0_set_117 : decode cX0_set 117 = .ok (.if_icmp .ge 57, 3) := by decide +kernel
theorem dX0_set_120 : decode cX0_set 120 = .ok (.aload_n 0, 1) := by decide +kernel
theorem dX0_set_121 : decode cX0_set 121 = .ok (.getfield 11, 3) := by decide +kernel
theorem dX0_set_124 : decode cX0_set 124 = .ok (.iload 5, 2) := by decide +kernel
theorem dX0_set_126 : decode cX0_set 126 = .ok (.aaload, 1) := by decide +kernel
theorem dX0_set_127 : decode cX0_set 127 = .ok (.aload_n 0, 1) := by decide +kernel
theorem dX0_set_128 : decode cX0_set 128 = .ok (.getfield 24, 3) := by decide +kernel
theorem dX0_set_131 : decode cX0_set 131 = .ok (.invokevirtual 44, 3) := by decide +kernel
theorem dX0_set_134 : decode cX0_set 134 = .ok (.aload_n 0, 1) := by decide +kernel
theorem dX0_set_135 : decode cX0_set 135 = .ok (.getfield 11, 3) := by decide +kernel
theorem dX0_set_138 : decode cX0_set 138 = .ok (.iload 5, 2) := by decide +kernel
theorem dX0_set_140 : decode cX0_set 140 = .ok (.aaload, 1) := by decide +kernel
theorem dX0_set_141 : decode cX0_set 141 = .ok (.aload_n 0, 1) := by decide +kernel
theorem dX0_set_142 : decode cX0_set 142 = .ok (.getfield 27, 3) := by decide +kernel
theorem dX0_set_145 : decode cX0_set 145 = .ok (.sipush 32002, 3) := by decide +kernel
theorem dX0_set_148 : decode cX0_set 148 = .ok (.iconst 0, 1) := by decide +kernel
theorem dX0_set_149 : decode cX0_set 149 = .ok (.invokevirtual 63, 3) := by decide +kernel
theorem dX0_set_152 : decode cX0_set 152 = .ok (.aload_n 0, 1) := by decide +kernel
theorem dX0_set_153 : decode cX0_set 153 = .ok (.getfield 24, 3) := by decide +kernel
theorem dX0_set_156 : decode cX0_set 156 = .ok (.iconst 1, 1) := by decide +kernel
theorem dX0_set_157 : decode cX0_set 157 = .ok (.invokevirtual 67, 3) := by decide +kernel
theorem dX0_set_160 : decode cX0_set 160 = .ok (.aload_n 0, 1) := by decide +kernel
theorem dX0_set_161 : decode cX0_set 161 = .ok (.getfield 27, 3) := by decide +kernel
theorem dX0_set_164 : decode cX0_set 164 = .ok (.iconst 0, 1) := by decide +kernel
theorem dX0_set_165 : decode cX0_set 165 = .ok (.invokevirtual 67, 3) := by decide +kernel
theorem dX0_set_168 : decode cX0_set 168 = .ok (.iinc 5 1, 3) := by decide +kernel
theorem dX0_set_171 : decode cX0_set 171 = .ok (.goto (-61), 3) := by decide +kernel
theorem dX0_set_174 : decode cX0_set 174 = .ok (.return_, 1) := by decide +kernel
set_option maxRecDepth 20000 in
theorem ggX0_eliminate_X0_firstUntaken : GoodIn wsX0_eliminate wsX0_firstUntaken := goodIn_r _ [8, 1, 9, 10, 11, 12, 13, 14, 46, 47, 48, 49, 50, 51, 52, 53, 54, 55] (by decide +kernel) (by decide +kernel)
set_option maxRecDepth 20000 in
theorem gX0_eliminate_X0_firstUntaken : GoodIn wsX0_eliminate (wsV RX0 70 RX0 yX0_firstUntaken wsX0_firstUntaken) := goodIn_app (goodIn_of _ (by decide +kernel)) ggX0_eliminate_X0_firstUntaken
set_option maxRecDepth 20000 in
theorem ggX0_eliminate_X0_solveFor : GoodIn wsX0_eliminate wsX0_solveFor := goodIn_r _ [18, 2, 19, 9, 10, 11, 12, 13, 14, 20, 21, 22, 23, 24, 25, 26, 27, 28, 29, 7, 30, 31, 32, 33, 34, 35, 36, 37, 38, 39, 40, 41, 42, 43, 44, 45, 46, 47, 48, 49, 50, 51, 52, 53, 54, 55] (by decide +kernel) (by decide +kernel)
set_option maxRecDepth 20000 in
theorem gX0_eliminate_X0_solveFor : GoodIn wsX0_eliminate (wsV RX0 74 RX0 yX0_solveFor wsX0_solveFor) := goodIn_app (goodIn_of _ (by decide +kernel)) ggX0_eliminate_X0_solveFor
theorem dX0_eliminate_0 : decode cX0_eliminate 0 = .ok (.iconst 0, 1) := by decide +kernel
theorem dX0_eliminate_1 : decode cX0_eliminate 1 = .ok (.istore_n 1, 1) := by decide +kernel
theorem dX0_eliminate_2 : decode cX0_eliminate 2 = .ok (.iload_n 1, 1) := by decide +kernel
theorem dX0_eliminate_3 : decode cX0_eliminate 3 = .ok (.aload_n 0, 1) := by decide +kernel
theorem dX0_eliminate_4 : decode cX0_eliminate 4 = .ok (.getfield 40, 3) := by decide +kernel
theorem dX0_eliminate_7 : decode cX0_eliminate 7 = .ok (.arraylength, 1) := by decide +kernel
theorem dX0_eliminate_8 : decode cX0_eliminate 8 = .ok (.if_icmp .ge 16, 3) := by decide +kernel
theorem dX0_eliminate_11 : decode cX0_eliminate 11 = .ok (.aload_n 0, 1) := by decide +kernel
theorem dX0_eliminate_12 : decode cX0_eliminate 12 = .ok (.getfield 40, 3) := by decide +kernel
theorem dX0_eliminate_15 : decode cX0_eliminate 15 = .ok (.iload_n 1, 1) := by decide +kernel
theorem dX0_eliminate_16 : decode cX0_eliminate 16 = .ok (.iconst 0, 1) := by decide +kernel
theorem dX0_eliminate_17 : decode cX0_eliminate 17 = .ok (.bastore, 1) := by decide +kernel
theorem dX0_eliminate_18 : decode cX0_eliminate 18 = .ok (.iinc 1 1, 3) := by decide +kernel
theorem dX0_eliminate_21 : decode cX0_eliminate 21 = .ok (.goto (-19), 3) := by decide +kernel
theorem dX0_eliminate_24 : decode cX0_eliminate 24 = .ok (.iconst 0, 1) := by decide +kernel
theorem dX0_eliminate_25 : decode cX0_eliminate 25 = .ok (.istore_n 1, 1) := by decide +kernel
theorem dX0_eliminate_26 : decode cX0_eliminate 26 = .ok (.iload_n 1, 1) := by decide +kernel
theorem dX0_eliminate_27 : decode cX0_eliminate 27 = .ok (.aload_n 0, 1) := by decide +kernel
theorem dX0_eliminate_28 : decode cX0_eliminate 28 = .ok (.getfield 11, 3) := by decide +kernel
theorem dX0_eliminate_31 : decode cX0_eliminate 31 = .ok (.arraylength, 1) := by decide +kernel
theorem dX0_eliminate_32 : decode cX0_eliminate 32 = .ok (.if_icmp .ge 44, 3) := by decide +kernel
theorem dX0_eliminate_35 : decode cX0_eliminate 35 = .ok (.aload_n 0, 1) := by decide +kernel
theorem dX0_eliminate_36 : decode cX0_eliminate 36 = .ok (.aload_n 0, 1) := by decide +kernel
theorem dX0_eliminate_37 : decode cX0_eliminate 37 = .ok (.getfield 11, 3) := by decide +kernel
theorem dX0_eliminate_40 : decode cX0_eliminate 40 = .ok (.iload_n 1, 1) := by decide +kernel
theorem dX0_eliminate_41 : decode cX0_eliminate 41 = .ok (.aaload, 1) := by decide +kernel
theorem dX0_eliminate_42 : decode cX0_eliminate 42 = .ok (.invokevirtual 70, 3) := by decide +kernel
theorem dX0_eliminate_45 : decode cX0_eliminate 45 = .ok (.istore_n 2, 1) := by decide +kernel
theorem dX0_eliminate_46 : decode cX0_eliminate 46 = .ok (.aload_n 0, 1) := by decide +kernel
theorem dX0_eliminate_47 : decode cX0_eliminate 47 = .ok (.getfield 36, 3) := by decide +kernel
theorem dX0_eliminate_50 : decode cX0_eliminate 50 = .ok (.iload_n 1, 1) := by decide +kernel
theorem dX0_eliminate_51 : decode cX0_eliminate 51 = .ok (.iload_n 2, 1) := by decide +kernel
theorem dX0_eliminate_52 : decode cX0_eliminate 52 = .ok (.iastore, 1) := by decide +kernel
theorem dX0_eliminate_53 : decode cX0_eliminate 53 = .ok (.iload_n 2, 1) := by decide +kernel
theorem dX0_eliminate_54 : decode cX0_eliminate 54 = .ok (.ifCond .lt 16, 3) := by decide +kernel
theorem dX0_eliminate_57 : decode cX0_eliminate 57 = .ok (.aload_n 0, 1) := by decide +kernel
theorem dX0_eliminate_58 : decode cX0_eliminate 58 = .ok (.getfield 40, 3) := by decide +kernel
theorem dX0_eliminate_61 : decode cX0_eliminate 61 = .ok (.iload_n 2, 1) := by decide +kernel
theorem dX0_eliminate_62 : decode cX0_eliminate 62 = .ok (.iconst 1, 1) := by decide +kernel
theorem dX0_eliminate_63 : decode cX0_eliminate 63 = .ok (.bastore, 1) := by decide +kernel
theorem dX0_eliminate_64 : decode cX0_eliminate 64 = .ok (.aload_n 0, 1) := by decide +kernel
theorem dX0_eliminate_65 : decode cX0_eliminate 65 = .ok (.iload_n 1, 1) := by decide +kernel
theorem dX0_eliminate_66 : decode cX0_eliminate 66 = .ok (.iload_n 2, 1) := by decide +kernel
theorem dX0_eliminate_67 : decode cX0_eliminate 67 = .ok (.invokevirtual 74, 3) := by decide +kernel
theorem dX0_eliminate_70 : decode cX0_eliminate 70 = .ok (.iinc 1 1, 3) := by decide +kernel
theorem dX0_eliminate_73 : decode cX0_eliminate 73 = .ok (.goto (-47), 3) := by decide +kernel
theorem dX0_eliminate_76 : decode cX0_eliminate 76 = .ok (.return_, 1) := by decide +kernel
set_option maxRecDepth 20000 in
theorem ggX0_firstUntaken_X3_coefficient : GoodIn wsX0_firstUntaken wsX3_coefficient := goodIn_r _ [6, 7, 16, 17] (by decide +kernel) (by decide +kernel)
set_option maxRecDepth 20000 in
theorem gX0_firstUntaken_X3_coefficient : GoodIn wsX0_firstUntaken (wsV RX0 78 RX3 yX3_coefficient wsX3_coefficient) := goodIn_app (goodIn_of _ (by decide +kernel)) ggX0_firstUntaken_X3_coefficient
theorem dX0_firstUntaken_0 : decode cX0_firstUntaken 0 = .ok (.iconst 0, 1) := by decide +kernel
theorem dX0_firstUntaken_1 : decode cX0_firstUntaken 1 = .ok (.istore_n 2, 1) := by decide +kernel
theorem dX0_firstUntaken_2 : decode cX0_firstUntaken 2 = .ok (.iload_n 2, 1) := by decide +kernel
theorem dX0_firstUntaken_3 : decode cX0_firstUntaken 3 = .ok (.aload_n 0, 1) := by decide +kernel
theorem dX0_firstUntaken_4 : decode cX0_firstUntaken 4 = .ok (.getfield 40, 3) := by decide +kernel
theorem dX0_firstUntaken_7 : decode cX0_firstUntaken 7 = .ok (.arraylength, 1) := by decide +kernel
theorem dX0_firstUntaken_8 : decode cX0_firstUntaken 8 = .ok (.if_icmp .ge 28, 3) := by decide +kernel
theorem dX0_firstUntaken_11 : decode cX0_firstUntaken 11 = .ok (.aload_n 0, 1) := by decide +kernel
theorem dX0_firstUntaken_12 : decode cX0_firstUntaken 12 = .ok (.getfield 40, 3) := by decide +kernel
theorem dX0_firstUntaken_15 : decode cX0_firstUntaken 15 = .ok (.iload_n 2, 1) := by decide +kernel
theorem dX0_firstUntaken_16 : decode cX0_firstUntaken 16 = .ok (.baload, 1) := by decide +kernel
theorem dX0_firstUntaken_17 : decode cX0_firstUntaken 17 = .ok (.ifCond .ne 13, 3) := by decide +kernel
theorem dX0_firstUntaken_20 : decode cX0_firstUntaken 20 = .ok (.aload_n 1, 1) := by decide +kernel
theorem dX0_firstUntaken_21 : decode cX0_firstUntaken 21 = .ok (.iload_n 2, 1) := by decide +kernel
theorem dX0_firstUntaken_22 : decode cX0_firstUntaken 22 = .ok (.invokevirtual 78, 3) := by decide +kernel
theorem dX0_firstUntaken_25 : decode cX0_firstUntaken 25 = .ok (.ifCond .eq 5, 3) := by decide +kernel
theorem dX0_firstUntaken_28 : decode cX0_firstUntaken 28 = .ok (.iload_n 2, 1) := by decide +kernel
theorem dX0_firstUntaken_29 : decode cX0_firstUntaken 29 = .ok (.ireturn, 1) := by decide +kernel
theorem dX0_firstUntaken_30 : decode cX0_firstUntaken 30 = .ok (.iinc 2 1, 3) := by decide +kernel
theorem dX0_firstUntaken_33 : decode cX0_firstUntaken 33 = .ok (.goto (-31), 3) := by decide +kernel
theorem dX0_firstUntaken_36 : decode cX0_firstUntaken 36 = .ok (.iconst (-1), 1) := by decide +kernel
theorem dX0_firstUntaken_37 : decode cX0_firstUntaken 37 = .ok (.ireturn, 1) := by decide +kernel
set_option maxRecDepth 20000 in
theorem ggX0_solveFor_X3_coefficient : GoodIn wsX0_solveFor wsX3_coefficient := goodIn_r _ [7, 8, 44, 45] (by decide +kernel) (by decide +kernel)
set_option maxRecDepth 20000 in
theorem gX0_solveFor_X3_coefficient : GoodIn wsX0_solveFor (wsV RX0 78 RX3 yX3_coefficient wsX3_coefficient) := goodIn_app (goodIn_of _ (by decide +kernel)) ggX0_solveFor_X3_coefficient
set_option maxRecDepth 20000 in
theorem ggX0_solveFor_X2_inverse : GoodIn wsX0_solveFor wsX2_inverse := goodIn_r _ [12, 13, 14, 11, 15, 16] (by decide +kernel) (by decide +kernel)
set_option maxRecDepth 20000 in
theorem gX0_solveFor_X2_inverse : GoodIn wsX0_solveFor (va_wsS RX0 82 yX2_inverse wsX2_inverse) := goodIn_app (goodIn_of _ (by decide +kernel)) ggX0_solveFor_X2_inverse
set_option maxRecDepth 20000 in
theorem ggX0_solveFor_X0_putInto : GoodIn wsX0_solveFor wsX0_putInto := goodIn_r _ [20, 3, 4, 5, 6, 7, 8, 21, 22, 11, 23, 13, 14, 15, 16, 24, 25, 26, 27, 28, 29, 30, 31, 32, 33, 34, 35, 44, 45] (by decide +kernel) (by decide +kernel)
set_option maxRecDepth 20000 in
theorem gX0_solveFor_X0_putInto : GoodIn wsX0_solveFor (va_wsS RX0 87 yX0_putInto wsX0_putInto) := goodIn_app (goodIn_of _ (by decide +kernel)) ggX0_solveFor_X0_putInto
theorem dX0_solveFor_0 : decode cX0_solveFor 0 = .ok (.aload_n 0, 1) := by decide +kernel
theorem dX0_solveFor_1 : decode cX0_solveFor 1 = .ok (.getfield 11, 3) := by decide +kernel
theorem dX0_solveFor_4 : decode cX0_solveFor 4 = .ok (.iload_n 1, 1) := by decide +kernel
theorem dX0_solveFor_5 : decode cX0_solveFor 5 = .ok (.aaload, 1) := by decide +kernel
theorem dX0_solveFor_6 : decode cX0_solveFor 6 = .ok (.iload_n 2, 1) := by decide +kernel
theorem dX0_solveFor_7 : decode cX0_solveFor 7 = .ok (.invokevirtual 78, 3) := by decide +kernel
theorem dX0_solveFor_10 : decode cX0_solveFor 10 = .ok (.invokestatic 82, 3) := by decide +kernel
theorem dX0_solveFor_13 : decode cX0_solveFor 13 = .ok (.istore_n 3, 1) := by decide +kernel
theorem dX0_solveFor_14 : decode cX0_solveFor 14 = .ok (.iload_n 1, 1) := by decide +kernel
theorem dX0_solveFor_15 : decode cX0_solveFor 15 = .ok (.iconst 1, 1) := by decide +kernel
theorem dX0_solveFor_16 : decode cX0_solveFor 16 = .ok (.iadd, 1) := by decide +kernel
theorem dX0_solveFor_17 : decode cX0_solveFor 17 = .ok (.istore 4, 2) := by decide +kernel
theorem dX0_solveFor_19 : decode cX0_solveFor 19 = .ok (.iload 4, 2) := by decide +kernel
theorem dX0_solveFor_21 : decode cX0_solveFor 21 = .ok (.aload_n 0, 1) := by decide +kernel
theorem dX0_solveFor_22 : decode cX0_solveFor 22 = .ok (.getfield 11, 3) := by decide +kernel
theorem dX0_solveFor_25 : decode cX0_solveFor 25 = .ok (.arraylength, 1) := by decide +kernel
theorem dX0_solveFor_26 : decode cX0_solveFor 26 = .ok (.if_icmp .ge 27, 3) := by decide +kernel
theorem dX0_solveFor_29 : decode cX0_solveFor 29 = .ok (.aload_n 0, 1) := by decide +kernel
theorem dX0_solveFor_30 : decode cX0_solveFor 30 = .ok (.getfield 11, 3) := by decide +kernel
theorem dX0_solveFor_33 : decode cX0_solveFor 33 = .ok (.iload 4, 2) := by decide +kernel
theorem dX0_solveFor_35 : decode cX0_solveFor 35 = .ok (.aaload, 1) := by decide +kernel
theorem dX0_solveFor_36 : decode cX0_solveFor 36 = .ok (.aload_n 0, 1) := by decide +kernel
theorem dX0_solveFor_37 : decode cX0_solveFor 37 = .ok (.getfield 11, 3) := by decide +kernel
theorem dX0_solveFor_40 : decode cX0_solveFor 40 = .ok (.iload_n 1, 1) := by decide +kernel
theorem dX0_solveFor_41 : decode cX0_solveFor 41 = .ok (.aaload, 1) := by decide +kernel
theorem dX0_solveFor_42 : decode cX0_solveFor 42 = .ok (.iload_n 2, 1) := by decide +kernel
theorem dX0_solveFor_43 : decode cX0_solveFor 43 = .ok (.iload_n 3, 1) := by decide +kernel
theorem dX0_solveFor_44 : decode cX0_solveFor 44 = .ok (.invokestatic 87, 3) := by decide +kernel
theorem dX0_solveFor_47 : decode cX0_solveFor 47 = .ok (.iinc 4 1, 3) := by decide +kernel
theorem dX0_solveFor_50 : decode cX0_solveFor 50 = .ok (.goto (-31), 3) := by decide +kernel
theorem dX0_solveFor_53 : decode cX0_solveFor 53 = .ok (.aload_n 0, 1) := by decide +kernel
theorem dX0_solveFor_54 : decode cX0_solveFor 54 = .ok (.getfield 20, 3) := by decide +kernel
theorem dX0_solveFor_57 : decode cX0_solveFor 57 = .ok (.aload_n 0, 1) := by decide +kernel
theorem dX0_solveFor_58 : decode cX0_solveFor 58 = .ok (.getfield 11, 3) := by decide +kernel
theorem dX0_solveFor_61 : decode cX0_solveFor 61 = .ok (.iload_n 1, 1) := by decide +kernel
theorem dX0_solveFor_62 : decode cX0_solveFor 62 = .ok (.aaload, 1) := by decide +kernel
theorem dX0_solveFor_63 : decode cX0_solveFor 63 = .ok (.iload_n 2, 1) := by decide +kernel
theorem dX0_solveFor_64 : decode cX0_solveFor 64 = .ok (.iload_n 3, 1) := by decide +kernel
theorem dX0_solveFor_65 : decode cX0_solveFor 65 = .ok (.invokestatic 87, 3) := by decide +kernel
theorem dX0_solveFor_68 : decode cX0_solveFor 68 = .ok (.return_, 1) := by decide +kernel
set_option maxRecDepth 20000 in
theorem ggX0_putInto_X3_coefficient : GoodIn wsX0_putInto wsX3_coefficient := goodIn_r _ [5, 6, 27, 28] (by decide +kernel) (by decide +kernel)
set_option maxRecDepth 20000 in
theorem gX0_putInto_X3_coefficient : GoodIn wsX0_putInto (wsV RX0 78 RX3 yX3_coefficient wsX3_coefficient) := goodIn_app (goodIn_of _ (by decide +kernel)) ggX0_putInto_X3_coefficient
set_option maxRecDepth 20000 in
theorem ggX0_putInto_X2_product : GoodIn wsX0_putInto wsX2_product := goodIn_r _ [10, 11, 12, 9, 13, 14] (by decide +kernel) (by decide +kernel)
set_option maxRecDepth 20000 in
theorem gX0_putInto_X2_product : GoodIn wsX0_putInto (va_wsS RX0 91 yX2_product wsX2_product) := goodIn_app (goodIn_of _ (by decide +kernel)) ggX0_putInto_X2_product
set_option maxRecDepth 20000 in
theorem ggX0_putInto_X3_gather : GoodIn wsX0_putInto wsX3_gather := goodIn_r _ [18, 19, 20, 2, 3, 4, 5, 6, 21, 12, 9, 13, 14, 22, 23, 24, 25, 27, 28] (by decide +kernel) (by decide +kernel)
set_option maxRecDepth 20000 in
theorem gX0_putInto_X3_gather : GoodIn wsX0_putInto (wsV RX0 63 RX3 yX3_gather wsX3_gather) := goodIn_app (goodIn_of _ (by decide +kernel)) ggX0_putInto_X3_gather
set_option maxRecDepth 20000 in
theorem ggX0_putInto_X3_put : GoodIn wsX0_putInto wsX3_put := goodIn_r _ [25, 6, 19, 27, 28] (by decide +kernel) (by decide +kernel)
set_option maxRecDepth 20000 in
theorem gX0_putInto_X3_put : GoodIn wsX0_putInto (wsV RX0 95 RX3 yX3_put wsX3_put) := goodIn_app (goodIn_of _ (by decide +kernel)) ggX0_putInto_X3_put
theorem dX0_putInto_0 : decode cX0_putInto 0 = .ok (.aload_n 0, 1) := by decide +kernel
theorem dX0_putInto_1 : decode cX0_putInto 1 = .ok (.iload_n 2, 1) := by decide +kernel
theorem dX0_putInto_2 : decode cX0_putInto 2 = .ok (.invokevirtual 78, 3) := by decide +kernel
theorem dX0_putInto_5 : decode cX0_putInto 5 = .ok (.iload_n 3, 1) := by decide +kernel
theorem dX0_putInto_6 : decode cX0_putInto 6 = .ok (.invokestatic 91, 3) := by decide +kernel
theorem dX0_putInto_9 : decode cX0_putInto 9 = .ok (.istore 4, 2) := by decide +kernel
theorem dX0_putInto_11 : decode cX0_putInto 11 = .ok (.aload_n 0, 1) := by decide +kernel
theorem dX0_putInto_12 : decode cX0_putInto 12 = .ok (.aload_n 1, 1) := by decide +kernel
theorem dX0_putInto_13 : decode cX0_putInto 13 = .ok (.sipush 32003, 3) := by decide +kernel
theorem dX0_putInto_16 : decode cX0_putInto 16 = .ok (.iload 4, 2) := by decide +kernel
theorem dX0_putInto_18 : decode cX0_putInto 18 = .ok (.isub, 1) := by decide +kernel
theorem dX0_putInto_19 : decode cX0_putInto 19 = .ok (.iconst 0, 1) := by decide +kernel
theorem dX0_putInto_20 : decode cX0_putInto 20 = .ok (.invokevirtual 63, 3) := by decide +kernel
theorem dX0_putInto_23 : decode cX0_putInto 23 = .ok (.aload_n 0, 1) := by decide +kernel
theorem dX0_putInto_24 : decode cX0_putInto 24 = .ok (.iload_n 2, 1) := by decide +kernel
theorem dX0_putInto_25 : decode cX0_putInto 25 = .ok (.iload 4, 2) := by decide +kernel
theorem dX0_putInto_27 : decode cX0_putInto 27 = .ok (.invokevirtual 95, 3) := by decide +kernel
theorem dX0_putInto_30 : decode cX0_putInto 30 = .ok (.return_, 1) := by decide +kernel
set_option maxRecDepth 20000 in
theorem ggX0_areSolvable_X0_firstUntaken : GoodIn wsX0_areSolvable wsX0_firstUntaken := goodIn_r _ [6, 7, 8, 9, 10, 11, 12, 13, 14, 15, 16, 17, 18, 19, 20, 21, 22, 23] (by decide +kernel) (by decide +kernel)
set_option maxRecDepth 20000 in
theorem gX0_areSolvable_X0_firstUntaken : GoodIn wsX0_areSolvable (wsV RX0 70 RX0 yX0_firstUntaken wsX0_firstUntaken) := goodIn_app (goodIn_of _ (by decide +kernel)) ggX0_areSolvable_X0_firstUntaken
theorem dX0_areSolvable_0 : decode cX0_areSolvable 0 = .ok (.aload_n 0, 1) := by decide +kernel
theorem dX0_areSolvable_1 : decode cX0_areSolvable 1 = .ok (.aload_n 0, 1) := by decide +kernel
theorem dX0_areSolvable_2 : decode cX0_areSolvable 2 = .ok (.getfield 20, 3) := by decide +kernel
theorem dX0_areSolvable_5 : decode cX0_areSolvable 5 = .ok (.invokevirtual 70, 3) := by decide +kernel
theorem dX0_areSolvable_8 : decode cX0_areSolvable 8 = .ok (.ifCond .ge 7, 3) := by decide +kernel
theorem dX0_areSolvable_11 : decode cX0_areSolvable 11 = .ok (.iconst 1, 1) := by decide +kernel
theorem dX0_areSolvable_12 : decode cX0_areSolvable 12 = .ok (.goto 4, 3) := by decide +kernel
theorem dX0_areSolvable_15 : decode cX0_areSolvable 15 = .ok (.iconst 0, 1) := by decide +kernel
theorem dX0_areSolvable_16 : decode cX0_areSolvable 16 = .ok (.ireturn, 1) := by decide +kernel
set_option maxRecDepth 20000 in
theorem ggX0_writeSolution_X3_clear : GoodIn wsX0_writeSolution wsX3_clear := goodIn_r _ [7, 8, 9, 10, 11, 6, 12, 13, 27, 28] (by decide +kernel) (by decide +kernel)
set_option maxRecDepth 20000 in
theorem gX0_writeSolution_X3_clear : GoodIn wsX0_writeSolution (wsV RX0 98 RX3 yX3_clear wsX3_clear) := goodIn_app (goodIn_of _ (by decide +kernel)) ggX0_writeSolution_X3_clear
set_option maxRecDepth 20000 in
theorem ggX0_writeSolution_X3_coefficient : GoodIn wsX0_writeSolution wsX3_coefficient := goodIn_r _ [17, 13, 27, 28] (by decide +kernel) (by decide +kernel)
set_option maxRecDepth 20000 in
theorem gX0_writeSolution_X3_coefficient : GoodIn wsX0_writeSolution (wsV RX0 78 RX3 yX3_coefficient wsX3_coefficient) := goodIn_app (goodIn_of _ (by decide +kernel)) ggX0_writeSolution_X3_coefficient
set_option maxRecDepth 20000 in
theorem ggX0_writeSolution_X3_put : GoodIn wsX0_writeSolution wsX3_put := goodIn_r _ [12, 13, 8, 27, 28] (by decide +kernel) (by decide +kernel)
set_option maxRecDepth 20000 in
theorem gX0_writeSolution_X3_put : GoodIn wsX0_writeSolution (wsV RX0 95 RX3 yX3_put wsX3_put) := goodIn_app (goodIn_of _ (by decide +kernel)) ggX0_writeSolution_X3_put
theorem dX0_writeSolution_0 : decode cX0_writeSolution 0 = .ok (.aload_n 1, 1) := by decide +kernel
theorem dX0_writeSolution_1 : decode cX0_writeSolution 1 = .ok (.invokevirtual 98, 3) := by decide +kernel
theorem dX0_writeSolution_4 : decode cX0_writeSolution 4 = .ok (.iconst 0, 1) := by decide +kernel
theorem dX0_writeSolution_5 : decode cX0_writeSolution 5 = .ok (.istore_n 2, 1) := by decide +kernel
theorem dX0_writeSolution_6 : decode cX0_writeSolution 6 = .ok (.iload_n 2, 1) := by decide +kernel
theorem dX0_writeSolution_7 : decode cX0_writeSolution 7 = .ok (.aload_n 0, 1) := by decide +kernel
theorem dX0_writeSolution_8 : decode cX0_writeSolution 8 = .ok (.getfield 36, 3) := by decide +kernel
theorem dX0_writeSolution_11 : decode cX0_writeSolution 11 = .ok (.arraylength, 1) := by decide +kernel
theorem dX0_writeSolution_12 : decode cX0_writeSolution 12 = .ok (.if_icmp .ge 27, 3) := by decide +kernel
theorem dX0_writeSolution_15 : decode cX0_writeSolution 15 = .ok (.aload_n 1, 1) := by decide +kernel
theorem dX0_writeSolution_16 : decode cX0_writeSolution 16 = .ok (.iload_n 2, 1) := by decide +kernel
theorem dX0_writeSolution_17 : decode cX0_writeSolution 17 = .ok (.aload_n 0, 1) := by decide +kernel
theorem dX0_writeSolution_18 : decode cX0_writeSolution 18 = .ok (.getfield 20, 3) := by decide +kernel
theorem dX0_writeSolution_21 : decode cX0_writeSolution 21 = .ok (.aload_n 0, 1) := by decide +kernel
theorem dX0_writeSolution_22 : decode cX0_writeSolution 22 = .ok (.getfield 36, 3) := by decide +kernel
theorem dX0_writeSolution_25 : decode cX0_writeSolution 25 = .ok (.iload_n 2, 1) := by decide +kernel
theorem dX0_writeSolution_26 : decode cX0_writeSolution 26 = .ok (.iaload, 1) := by decide +kernel
theorem dX0_writeSolution_27 : decode cX0_writeSolution 27 = .ok (.invokevirtual 78, 3) := by decide +kernel
theorem dX0_writeSolution_30 : decode cX0_writeSolution 30 = .ok (.invokevirtual 95, 3) := by decide +kernel
theorem dX0_writeSolution_33 : decode cX0_writeSolution 33 = .ok (.iinc 2 1, 3) := by decide +kernel
theorem dX0_writeSolution_36 : decode cX0_writeSolution 36 = .ok (.goto (-30), 3) := by decide +kernel
theorem dX0_writeSolution_39 : decode cX0_writeSolution 39 = .ok (.return_, 1) := by decide +kernel
theorem dX0_freeUpTo_0 : decode cX0_freeUpTo 0 = .ok (.iconst 0, 1) := by decide +kernel
theorem dX0_freeUpTo_1 : decode cX0_freeUpTo 1 = .ok (.istore_n 2, 1) := by decide +kernel
theorem dX0_freeUpTo_2 : decode cX0_freeUpTo 2 = .ok (.iconst 0, 1) := by decide +kernel
theorem dX0_freeUpTo_3 : decode cX0_freeUpTo 3 = .ok (.istore_n 3, 1) := by decide +kernel
theorem dX0_freeUpTo_4 : decode cX0_freeUpTo 4 = .ok (.iload_n 3, 1) := by decide +kernel
theorem dX0_freeUpTo_5 : decode cX0_freeUpTo 5 = .ok (.iload_n 1, 1) := by decide +kernel
theorem dX0_freeUpTo_6 : decode cX0_freeUpTo 6 = .ok (.if_icmp .gt 30, 3) := by decide +kernel
theorem dX0_freeUpTo_9 : decode cX0_freeUpTo 9 = .ok (.iload_n 3, 1) := by decide +kernel
theorem dX0_freeUpTo_10 : decode cX0_freeUpTo 10 = .ok (.aload_n 0, 1) := by decide +kernel
theorem dX0_freeUpTo_11 : decode cX0_freeUpTo 11 = .ok (.getfield 36, 3) := by decide +kernel
theorem dX0_freeUpTo_14 : decode cX0_freeUpTo 14 = .ok (.arraylength, 1) := by decide +kernel
theorem dX0_freeUpTo_15 : decode cX0_freeUpTo 15 = .ok (.if_icmp .ge 21, 3) := by decide +kernel
theorem dX0_freeUpTo_18 : decode cX0_freeUpTo 18 = .ok (.aload_n 0, 1) := by decide +kernel
theorem dX0_freeUpTo_19 : decode cX0_freeUpTo 19 = .ok (.getfield 36, 3) := by decide +kernel
theorem dX0_freeUpTo_22 : decode cX0_freeUpTo 22 = .ok (.iload_n 3, 1) := by decide +kernel
theorem dX0_freeUpTo_23 : decode cX0_freeUpTo 23 = .ok (.iaload, 1) := by decide +kernel
theorem dX0_freeUpTo_24 : decode cX0_freeUpTo 24 = .ok (.ifCond .ge 6, 3) := by decide +kernel
theorem dX0_freeUpTo_27 : decode cX0_freeUpTo 27 = .ok (.iinc 2 1, 3) := by decide +kernel
theorem dX0_freeUpTo_30 : decode cX0_freeUpTo 30 = .ok (.iinc 3 1, 3) := by decide +kernel
theorem dX0_freeUpTo_33 : decode cX0_freeUpTo 33 = .ok (.goto (-29), 3) := by decide +kernel
theorem dX0_freeUpTo_36 : decode cX0_freeUpTo 36 = .ok (.iload_n 2, 1) := by decide +kernel
theorem dX0_freeUpTo_37 : decode cX0_freeUpTo 37 = .ok (.ireturn, 1) := by decide +kernel
set_option maxRecDepth 20000 in
theorem ggX1_init_X3_init_ : GoodIn wsX1_init wsX3_init_ := goodIn_r _ [11, 12, 2, 3, 13, 14, 15, 16, 17, 18, 19, 20, 21, 22, 6, 23, 24, 25, 26, 27, 28, 29, 30, 31, 32, 33, 34, 35, 36, 37] (by decide +kernel) (by decide +kernel)
set_option maxRecDepth 20000 in
theorem gX1_init_X3_init_ : GoodIn wsX1_init (wsX3_init_) := ggX1_init_X3_init_
theorem dX1_init_0 : decode cX1_init 0 = .ok (.aload_n 0, 1) := by decide +kernel
theorem dX1_init_1 : decode cX1_init 1 = .ok (.invokespecial 1, 3) := by decide +kernel
theorem dX1_init_4 : decode cX1_init 4 = .ok (.aload_n 0, 1) := by decide +kernel
theorem dX1_init_5 : decode cX1_init 5 = .ok (.new 7, 3) := by decide +kernel
theorem dX1_init_8 : decode cX1_init 8 = .ok (.dup, 1) := by decide +kernel
theorem dX1_init_9 : decode cX1_init 9 = .ok (.aload_n 1, 1) := by decide +kernel
theorem dX1_init_10 : decode cX1_init 10 = .ok (.invokespecial 9, 3) := by decide +kernel
theorem dX1_init_13 : decode cX1_init 13 = .ok (.putfield 12, 3) := by decide +kernel
theorem dX1_init_16 : decode cX1_init 16 = .ok (.aload_n 0, 1) := by decide +kernel
theorem dX1_init_17 : decode cX1_init 17 = .ok (.new 7, 3) := by decide +kernel
theorem dX1_init_20 : decode cX1_init 20 = .ok (.dup, 1) := by decide +kernel
theorem dX1_init_21 : decode cX1_init 21 = .ok (.aload_n 2, 1) := by decide +kernel
theorem dX1_init_22 : decode cX1_init 22 = .ok (.invokespecial 9, 3) := by decide +kernel
theorem dX1_init_25 : decode cX1_init 25 = .ok (.putfield 18, 3) := by decide +kernel
theorem dX1_init_28 : decode cX1_init 28 = .ok (.return_, 1) := by decide +kernel
theorem dX1_part_0 : decode cX1_part 0 = .ok (.iload_n 1, 1) := by decide +kernel
theorem dX1_part_1 : decode cX1_part 1 = .ok (.ifCond .eq 10, 3) := by decide +kernel
theorem dX1_part_4 : decode cX1_part 4 = .ok (.aload_n 0, 1) := by decide +kernel
theorem dX1_part_5 : decode cX1_part 5 = .ok (.getfield 12, 3) := by decide +kernel
theorem dX1_part_8 : decode cX1_part 8 = .ok (.goto 7, 3) := by decide +kernel
theorem dX1_part_11 : decode cX1_part 11 = .ok (.aload_n 0, 1) := by decide +kernel
theorem dX1_part_12 : decode cX1_part 12 = .ok (.getfield 18, 3) := by decide +kernel
theorem dX1_part_15 : decode cX1_part 15 = .ok (.areturn, 1) := by decide +kernel
theorem dX2_reduced_0 : decode cX2_reduced 0 = .ok (.lload_n 0, 1) := by decide +kernel
theorem dX2_reduced_1 : decode cX2_reduced 1 = .ok (.ldc2_w 9, 3) := by decide +kernel
theorem dX2_reduced_4 : decode cX2_reduced 4 = .ok (.lrem, 1) := by decide +kernel
theorem dX2_reduced_5 : decode cX2_reduced 5 = .ok (.l2i, 1) := by decide +kernel
theorem dX2_reduced_6 : decode cX2_reduced 6 = .ok (.istore_n 2, 1) := by decide +kernel
theorem dX2_reduced_7 : decode cX2_reduced 7 = .ok (.iload_n 2, 1) := by decide +kernel
theorem dX2_reduced_8 : decode cX2_reduced 8 = .ok (.ifCond .ge 11, 3) := by decide +kernel
theorem dX2_reduced_11 : decode cX2_reduced 11 = .ok (.iload_n 2, 1) := by decide +kernel
theorem dX2_reduced_12 : decode cX2_reduced 12 = .ok (.sipush 32003, 3) := by decide +kernel
theorem dX2_reduced_15 : decode cX2_reduced 15 = .ok (.iadd, 1) := by decide +kernel
theorem dX2_reduced_16 : decode cX2_reduced 16 = .ok (.goto 4, 3) := by decide +kernel
theorem dX2_reduced_19 : decode cX2_reduced 19 = .ok (.iload_n 2, 1) := by decide +kernel
theorem dX2_reduced_20 : decode cX2_reduced 20 = .ok (.ireturn, 1) := by decide +kernel
set_option maxRecDepth 20000 in
theorem ggX2_product_X2_reduced : GoodIn wsX2_product wsX2_reduced := goodIn_r _ [4, 5] (by decide +kernel) (by decide +kernel)
set_option maxRecDepth 20000 in
theorem gX2_product_X2_reduced : GoodIn wsX2_product (va_wsS RX2 11 yX2_reduced wsX2_reduced) := goodIn_app (goodIn_of _ (by decide +kernel)) ggX2_product_X2_reduced
theorem dX2_product_0 : decode cX2_product 0 = .ok (.iload_n 0, 1) := by decide +kernel
theorem dX2_product_1 : decode cX2_product 1 = .ok (.i2l, 1) := by decide +kernel
theorem dX2_product_2 : decode cX2_product 2 = .ok (.iload_n 1, 1) := by decide +kernel
theorem dX2_product_3 : decode cX2_product 3 = .ok (.i2l, 1) := by decide +kernel
theorem dX2_product_4 : decode cX2_product 4 = .ok (.lmul, 1) := by decide +kernel
theorem dX2_product_5 : decode cX2_product 5 = .ok (.invokestatic 11, 3) := by decide +kernel
theorem dX2_product_8 : decode cX2_product 8 = .ok (.ireturn, 1) := by decide +kernel
set_option maxRecDepth 20000 in
theorem ggX2_inverse_X2_reduced : GoodIn wsX2_inverse wsX2_reduced := goodIn_r _ [4, 5] (by decide +kernel) (by decide +kernel)
set_option maxRecDepth 20000 in
theorem gX2_inverse_X2_reduced : GoodIn wsX2_inverse (va_wsS RX2 11 yX2_reduced wsX2_reduced) := goodIn_app (goodIn_of _ (by decide +kernel)) ggX2_inverse_X2_reduced
theorem dX2_inverse_0 : decode cX2_inverse 0 = .ok (.iconst 1, 1) := by decide +kernel
theorem dX2_inverse_1 : decode cX2_inverse 1 = .ok (.istore_n 1, 1) := by decide +kernel
theorem dX2_inverse_2 : decode cX2_inverse 2 = .ok (.iload_n 0, 1) := by decide +kernel
theorem dX2_inverse_3 : decode cX2_inverse 3 = .ok (.istore_n 2, 1) := by decide +kernel
theorem dX2_inverse_4 : decode cX2_inverse 4 = .ok (.sipush 32001, 3) := by decide +kernel
theorem dX2_inverse_7 : decode cX2_inverse 7 = .ok (.istore_n 3, 1) := by decide +kernel
theorem dX2_inverse_8 : decode cX2_inverse 8 = .ok (.iload_n 3, 1) := by decide +kernel
theorem dX2_inverse_9 : decode cX2_inverse 9 = .ok (.ifCond .le 35, 3) := by decide +kernel
theorem dX2_inverse_12 : decode cX2_inverse 12 = .ok (.iload_n 3, 1) := by decide +kernel
theorem dX2_inverse_13 : decode cX2_inverse 13 = .ok (.iconst 1, 1) := by decide +kernel
theorem dX2_inverse_14 : decode cX2_inverse 14 = .ok (.iand, 1) := by decide +kernel
theorem dX2_inverse_15 : decode cX2_inverse 15 = .ok (.iconst 1, 1) := by decide +kernel
theorem dX2_inverse_16 : decode cX2_inverse 16 = .ok (.if_icmp .ne 12, 3) := by decide +kernel
theorem dX2_inverse_19 : decode cX2_inverse 19 = .ok (.iload_n 1, 1) := by decide +kernel
theorem dX2_inverse_20 : decode cX2_inverse 20 = .ok (.i2l, 1) := by decide +kernel
theorem dX2_inverse_21 : decode cX2_inverse 21 = .ok (.iload_n 2, 1) := by decide +kernel
theorem dX2_inverse_22 : decode cX2_inverse 22 = .ok (.i2l, 1) := by decide +kernel
theorem dX2_inverse_23 : decode cX2_inverse 23 = .ok (.lmul, 1) := by decide +kernel
theorem dX2_inverse_24 : decode cX2_inverse 24 = .ok (.invokestatic 11, 3) := by decide +kernel
theorem dX2_inverse_27 : decode cX2_inverse 27 = .ok (.istore_n 1, 1) := by decide +kernel
theorem dX2_inverse_28 : decode cX2_inverse 28 = .ok (.iload_n 2, 1) := by decide +kernel
theorem dX2_inverse_29 : decode cX2_inverse 29 = .ok (.i2l, 1) := by decide +kernel
theorem dX2_inverse_30 : decode cX2_inverse 30 = .ok (.iload_n 2, 1) := by decide +kernel
theorem dX2_inverse_31 : decode cX2_inverse 31 = .ok (.i2l, 1) := by decide +kernel
theorem dX2_inverse_32 : decode cX2_inverse 32 = .ok (.lmul, 1) := by decide +kernel
theorem dX2_inverse_33 : decode cX2_inverse 33 = .ok (.invokestatic 11, 3) := by decide +kernel
theorem dX2_inverse_36 : decode cX2_inverse 36 = .ok (.istore_n 2, 1) := by decide +kernel
theorem dX2_inverse_37 : decode cX2_inverse 37 = .ok (.iload_n 3, 1) := by decide +kernel
theorem dX2_inverse_38 : decode cX2_inverse 38 = .ok (.iconst 1, 1) := by decide +kernel
theorem dX2_inverse_39 : decode cX2_inverse 39 = .ok (.ishr, 1) := by decide +kernel
theorem dX2_inverse_40 : decode cX2_inverse 40 = .ok (.istore_n 3, 1) := by decide +kernel
theorem dX2_inverse_41 : decode cX2_inverse 41 = .ok (.goto (-33), 3) := by decide +kernel
theorem dX2_inverse_44 : decode cX2_inverse 44 = .ok (.iload_n 1, 1) := by decide +kernel
theorem dX2_inverse_45 : decode cX2_inverse 45 = .ok (.ireturn, 1) := by decide +kernel
theorem dX3_init_0 : decode cX3_init 0 = .ok (.aload_n 0, 1) := by decide +kernel
theorem dX3_init_1 : decode cX3_init 1 = .ok (.invokespecial 3, 3) := by decide +kernel
theorem dX3_init_4 : decode cX3_init 4 = .ok (.aload_n 0, 1) := by decide +kernel
theorem dX3_init_5 : decode cX3_init 5 = .ok (.iload_n 1, 1) := by decide +kernel
theorem dX3_init_6 : decode cX3_init 6 = .ok (.iconst 0, 1) := by decide +kernel
theorem dX3_init_7 : decode cX3_init 7 = .ok (.invokestatic 9, 3) := by decide +kernel
theorem dX3_init_10 : decode cX3_init 10 = .ok (.newarray .int, 2) := by decide +kernel
theorem dX3_init_12 : decode cX3_init 12 = .ok (.putfield 15, 3) := by decide +kernel
theorem dX3_init_15 : decode cX3_init 15 = .ok (.aload_n 0, 1) := by decide +kernel
theorem dX3_init_16 : decode cX3_init 16 = .ok (.iconst (-1), 1) := by decide +kernel
theorem dX3_init_17 : decode cX3_init 17 = .ok (.putfield 21, 3) := by decide +kernel
theorem dX3_init_20 : decode cX3_init 20 = .ok (.return_, 1) := by decide +kernel
set_option maxRecDepth 20000 in
theorem ggX3_init__X3_copy : GoodIn wsX3_init_ wsX3_copy := goodIn_r _ [15, 4, 16, 17, 18, 14, 19, 20, 21, 22, 23, 10, 24, 25, 26, 27, 28, 29] (by decide +kernel) (by decide +kernel)
set_option maxRecDepth 20000 in
theorem gX3_init__X3_copy : GoodIn wsX3_init_ (wsV RX3 25 RX3 yX3_copy wsX3_copy) := goodIn_app (goodIn_of _ (by decide +kernel)) ggX3_init__X3_copy
theorem dX3_init__0 : decode cX3_init_ 0 = .ok (.aload_n 0, 1) := by decide +kernel
theorem dX3_init__1 : decode cX3_init_ 1 = .ok (.invokespecial 3, 3) := by decide +kernel
theorem dX3_init__4 : decode cX3_init_ 4 = .ok (.aload_n 0, 1) := by decide +kernel
theorem dX3_init__5 : decode cX3_init_ 5 = .ok (.aload_n 1, 1) := by decide +kernel
theorem dX3_init__6 : decode cX3_init_ 6 = .ok (.getfield 21, 3) := by decide +kernel
theorem dX3_init__9 : decode cX3_init_ 9 = .ok (.iconst 1, 1) := by decide +kernel
theorem dX3_init__10 : decode cX3_init_ 10 = .ok (.iadd, 1) := by decide +kernel
theorem dX3_init__11 : decode cX3_init_ 11 = .ok (.iconst 0, 1) := by decide +kernel
theorem dX3_init__12 : decode cX3_init_ 12 = .ok (.invokestatic 9, 3) := by decide +kernel
theorem dX3_init__15 : decode cX3_init_ 15 = .ok (.newarray .int, 2) := by decide +kernel
theorem dX3_init__17 : decode cX3_init_ 17 = .ok (.putfield 15, 3) := by decide +kernel
theorem dX3_init__20 : decode cX3_init_ 20 = .ok (.aload_n 0, 1) := by decide +kernel
theorem dX3_init__21 : decode cX3_init_ 21 = .ok (.iconst (-1), 1) := by decide +kernel
theorem dX3_init__22 : decode cX3_init_ 22 = .ok (.putfield 21, 3) := by decide +kernel
theorem dX3_init__25 : decode cX3_init_ 25 = .ok (.aload_n 0, 1) := by decide +kernel
theorem dX3_init__26 : decode cX3_init_ 26 = .ok (.aload_n 1, 1) := by decide +kernel
theorem dX3_init__27 : decode cX3_init_ 27 = .ok (.invokevirtual 25, 3) := by decide +kernel
theorem dX3_init__30 : decode cX3_init_ 30 = .ok (.return_, 1) := by decide +kernel
theorem dX3_isZero_0 : decode cX3_isZero 0 = .ok (.aload_n 0, 1) := by decide +kernel
theorem dX3_isZero_1 : decode cX3_isZero 1 = .ok (.getfield 21, 3) := by decide +kernel
theorem dX3_isZero_4 : decode cX3_isZero 4 = .ok (.ifCond .ge 7, 3) := by decide +kernel
theorem dX3_isZero_7 : decode cX3_isZero 7 = .ok (.iconst 1, 1) := by decide +kernel
theorem dX3_isZero_8 : decode cX3_isZero 8 = .ok (.goto 4, 3) := by decide +kernel
theorem dX3_isZero_11 : decode cX3_isZero 11 = .ok (.iconst 0, 1) := by decide +kernel
theorem dX3_isZero_12 : decode cX3_isZero 12 = .ok (.ireturn, 1) := by decide +kernel
theorem dX3_coefficient_0 : decode cX3_coefficient 0 = .ok (.iload_n 1, 1) := by decide +kernel
theorem dX3_coefficient_1 : decode cX3_coefficient 1 = .ok (.ifCond .lt 21, 3) := by decide +kernel
theorem dX3_coefficient_4 : decode cX3_coefficient 4 = .ok (.iload_n 1, 1) := by decide +kernel
theorem dX3_coefficient_5 : decode cX3_coefficient 5 = .ok (.aload_n 0, 1) := by decide +kernel
theorem dX3_coefficient_6 : decode cX3_coefficient 6 = .ok (.getfield 15, 3) := by decide +kernel
theorem dX3_coefficient_9 : decode cX3_coefficient 9 = .ok (.arraylength, 1) := by decide +kernel
theorem dX3_coefficient_10 : decode cX3_coefficient 10 = .ok (.if_icmp .ge 12, 3) := by decide +kernel
theorem dX3_coefficient_13 : decode cX3_coefficient 13 = .ok (.aload_n 0, 1) := by decide +kernel
theorem dX3_coefficient_14 : decode cX3_coefficient 14 = .ok (.getfield 15, 3) := by decide +kernel
theorem dX3_coefficient_17 : decode cX3_coefficient 17 = .ok (.iload_n 1, 1) := by decide +kernel
theorem dX3_coefficient_18 : decode cX3_coefficient 18 = .ok (.iaload, 1) := by decide +kernel
theorem dX3_coefficient_19 : decode cX3_coefficient 19 = .ok (.goto 4, 3) := by decide +kernel
theorem dX3_coefficient_22 : decode cX3_coefficient 22 = .ok (.iconst 0, 1) := by decide +kernel
theorem dX3_coefficient_23 : decode cX3_coefficient 23 = .ok (.ireturn, 1) := by decide +kernel
set_option maxRecDepth 20000 in
theorem ggX3_leading_X3_coefficient : GoodIn wsX3_leading wsX3_coefficient := goodIn_r _ [6, 7, 8, 9] (by decide +kernel) (by decide +kernel)
set_option maxRecDepth 20000 in
theorem gX3_leading_X3_coefficient : GoodIn wsX3_leading (wsV RX3 29 RX3 yX3_coefficient wsX3_coefficient) := goodIn_app (goodIn_of _ (by decide +kernel)) ggX3_leading_X3_coefficient
theorem dX3_leading_0 : decode cX3_leading 0 = .ok (.aload_n 0, 1) := by decide +kernel
theorem dX3_leading_1 : decode cX3_leading 1 = .ok (.aload_n 0, 1) := by decide +kernel
theorem dX3_leading_2 : decode cX3_leading 2 = .ok (.getfield 21, 3) := by decide +kernel
theorem dX3_leading_5 : decode cX3_leading 5 = .ok (.invokevirtual 29, 3) := by decide +kernel
theorem dX3_leading_8 : decode cX3_leading 8 = .ok (.ireturn, 1) := by decide +kernel
theorem dX3_put_0 : decode cX3_put 0 = .ok (.iload_n 1, 1) := by decide +kernel
theorem dX3_put_1 : decode cX3_put 1 = .ok (.ifCond .lt 12, 3) := by decide +kernel
theorem dX3_put_4 : decode cX3_put 4 = .ok (.iload_n 1, 1) := by decide +kernel
theorem dX3_put_5 : decode cX3_put 5 = .ok (.aload_n 0, 1) := by decide +kernel
theorem dX3_put_6 : decode cX3_put 6 = .ok (.getfield 15, 3) := by decide +kernel
theorem dX3_put_9 : decode cX3_put 9 = .ok (.arraylength, 1) := by decide +kernel
theorem dX3_put_10 : decode cX3_put 10 = .ok (.if_icmp .lt 4, 3) := by decide +kernel
theorem dX3_put_13 : decode cX3_put 13 = .ok (.return_, 1) := by decide +kernel
theorem dX3_put_14 : decode cX3_put 14 = .ok (.aload_n 0, 1) := by decide +kernel
theorem dX3_put_15 : decode cX3_put 15 = .ok (.getfield 15, 3) := by decide +kernel
theorem dX3_put_18 : decode cX3_put 18 = .ok (.iload_n 1, 1) := by decide +kernel
theorem dX3_put_19 : decode cX3_put 19 = .ok (.iload_n 2, 1) := by decide +kernel
theorem dX3_put_20 : decode cX3_put 20 = .ok (.iastore, 1) := by decide +kernel
theorem dX3_put_21 : decode cX3_put 21 = .ok (.iload_n 1, 1) := by decide +kernel
theorem dX3_put_22 : decode cX3_put 22 = .ok (.aload_n 0, 1) := by decide +kernel
theorem dX3_put_23 : decode cX3_put 23 = .ok (.getfield 21, 3) := by decide +kernel
theorem dX3_put_26 : decode cX3_put 26 = .ok (.if_icmp .lt 29, 3) := by decide +kernel
theorem dX3_put_29 : decode cX3_put 29 = .ok (.iload_n 1, 1) := by decide +kernel
theorem dX3_put_30 : decode cX3_put 30 = .ok (.istore_n 3, 1) := by decide +kernel
theorem dX3_put_31 : decode cX3_put 31 = .ok (.iload_n 3, 1) := by decide +kernel
theorem dX3_put_32 : decode cX3_put 32 = .ok (.ifCond .lt 18, 3) := by decide +kernel
theorem dX3_put_35 : decode cX3_put 35 = .ok (.aload_n 0, 1) := by decide +kernel
theorem dX3_put_36 : decode cX3_put 36 = .ok (.getfield 15, 3) := by decide +kernel
theorem dX3_put_39 : decode cX3_put 39 = .ok (.iload_n 3, 1) := by decide +kernel
theorem dX3_put_40 : decode cX3_put 40 = .ok (.iaload, 1) := by decide +kernel
theorem dX3_put_41 : decode cX3_put 41 = .ok (.ifCond .ne 9, 3) := by decide +kernel
theorem dX3_put_44 : decode cX3_put 44 = .ok (.iinc 3 (-1), 3) := by decide +kernel
theorem dX3_put_47 : decode cX3_put 47 = .ok (.goto (-16), 3) := by decide +kernel
theorem dX3_put_50 : decode cX3_put 50 = .ok (.aload_n 0, 1) := by decide +kernel
theorem dX3_put_51 : decode cX3_put 51 = .ok (.iload_n 3, 1) := by decide +kernel
theorem dX3_put_52 : decode cX3_put 52 = .ok (.putfield 21, 3) := by decide +kernel
theorem dX3_put_55 : decode cX3_put 55 = .ok (.return_, 1) := by decide +kernel
set_option maxRecDepth 20000 in
theorem ggX3_clear_X3_put : GoodIn wsX3_clear wsX3_put := goodIn_r _ [6, 7, 1, 8, 9] (by decide +kernel) (by decide +kernel)
set_option maxRecDepth 20000 in
theorem gX3_clear_X3_put : GoodIn wsX3_clear (wsV RX3 33 RX3 yX3_put wsX3_put) := goodIn_app (goodIn_of _ (by decide +kernel)) ggX3_clear_X3_put
theorem dX3_clear_0 : decode cX3_clear 0 = .ok (.aload_n 0, 1) := by decide +kernel
theorem dX3_clear_1 : decode cX3_clear 1 = .ok (.getfield 21, 3) := by decide +kernel
theorem dX3_clear_4 : decode cX3_clear 4 = .ok (.istore_n 1, 1) := by decide +kernel
theorem dX3_clear_5 : decode cX3_clear 5 = .ok (.iload_n 1, 1) := by decide +kernel
theorem dX3_clear_6 : decode cX3_clear 6 = .ok (.ifCond .lt 15, 3) := by decide +kernel
theorem dX3_clear_9 : decode cX3_clear 9 = .ok (.aload_n 0, 1) := by decide +kernel
theorem dX3_clear_10 : decode cX3_clear 10 = .ok (.iload_n 1, 1) := by decide +kernel
theorem dX3_clear_11 : decode cX3_clear 11 = .ok (.iconst 0, 1) := by decide +kernel
theorem dX3_clear_12 : decode cX3_clear 12 = .ok (.invokevirtual 33, 3) := by decide +kernel
theorem dX3_clear_15 : decode cX3_clear 15 = .ok (.iinc 1 (-1), 3) := by decide +kernel
theorem dX3_clear_18 : decode cX3_clear 18 = .ok (.goto (-13), 3) := by decide +kernel
theorem dX3_clear_21 : decode cX3_clear 21 = .ok (.return_, 1) := by decide +kernel
set_option maxRecDepth 20000 in
theorem ggX3_copy_X3_clear : GoodIn wsX3_copy wsX3_clear := goodIn_r _ [6, 1, 7, 8, 9, 5, 10, 11, 16, 17] (by decide +kernel) (by decide +kernel)
set_option maxRecDepth 20000 in
theorem gX3_copy_X3_clear : GoodIn wsX3_copy (wsV RX3 37 RX3 yX3_clear wsX3_clear) := goodIn_app (goodIn_of _ (by decide +kernel)) ggX3_copy_X3_clear
set_option maxRecDepth 20000 in
theorem ggX3_copy_X3_coefficient : GoodIn wsX3_copy wsX3_coefficient := goodIn_r _ [15, 11, 16, 17] (by decide +kernel) (by decide +kernel)
set_option maxRecDepth 20000 in
theorem gX3_copy_X3_coefficient : GoodIn wsX3_copy (wsV RX3 29 RX3 yX3_coefficient wsX3_coefficient) := goodIn_app (goodIn_of _ (by decide +kernel)) ggX3_copy_X3_coefficient
set_option maxRecDepth 20000 in
theorem ggX3_copy_X3_put : GoodIn wsX3_copy wsX3_put := goodIn_r _ [10, 11, 1, 16, 17] (by decide +kernel) (by decide +kernel)
set_option maxRecDepth 20000 in
theorem gX3_copy_X3_put : GoodIn wsX3_copy (wsV RX3 33 RX3 yX3_put wsX3_put) := goodIn_app (goodIn_of _ (by decide +kernel)) ggX3_copy_X3_put
theorem dX3_copy_0 : decode cX3_copy 0 = .ok (.aload_n 0, 1) := by decide +kernel
theorem dX3_copy_1 : decode cX3_copy 1 = .ok (.invokevirtual 37, 3) := by decide +kernel
theorem dX3_copy_4 : decode cX3_copy 4 = .ok (.iconst 0, 1) := by decide +kernel
theorem dX3_copy_5 : decode cX3_copy 5 = .ok (.istore_n 2, 1) := by decide +kernel
theorem dX3_copy_6 : decode cX3_copy 6 = .ok (.iload_n 2, 1) := by decide +kernel
theorem dX3_copy_7 : decode cX3_copy 7 = .ok (.aload_n 1, 1) := by decide +kernel
theorem dX3_copy_8 : decode cX3_copy 8 = .ok (.getfield 21, 3) := by decide +kernel
theorem dX3_copy_11 : decode cX3_copy 11 = .ok (.if_icmp .gt 19, 3) := by decide +kernel
theorem dX3_copy_14 : decode cX3_copy 14 = .ok (.aload_n 0, 1) := by decide +kernel
theorem dX3_copy_15 : decode cX3_copy 15 = .ok (.iload_n 2, 1) := by decide +kernel
theorem dX3_copy_16 : decode cX3_copy 16 = .ok (.aload_n 1, 1) := by decide +kernel
theorem dX3_copy_17 : decode cX3_copy 17 = .ok (.iload_n 2, 1) := by decide +kernel
theorem dX3_copy_18 : decode cX3_copy 18 = .ok (.invokevirtual 29, 3) := by decide +kernel
theorem dX3_copy_21 : decode cX3_copy 21 = .ok (.invokevirtual 33, 3) := by decide +kernel
theorem dX3_copy_24 : decode cX3_copy 24 = .ok (.iinc 2 1, 3) := by decide +kernel
theorem dX3_copy_27 : decode cX3_copy 27 = .ok (.goto (-21), 3) := by decide +kernel
theorem dX3_copy_30 : decode cX3_copy 30 = .ok (.return_, 1) := by decide +kernel
set_option maxRecDepth 20000 in
theorem ggX3_setProduct_X3_clear : GoodIn wsX3_setProduct wsX3_clear := goodIn_r _ [13, 1, 14, 15, 16, 12, 17, 18, 28, 29] (by decide +kernel) (by decide +kernel)
set_option maxRecDepth 20000 in
theorem gX3_setProduct_X3_clear : GoodIn wsX3_setProduct (wsV RX3 37 RX3 yX3_clear wsX3_clear) := goodIn_app (goodIn_of _ (by decide +kernel)) ggX3_setProduct_X3_clear
set_option maxRecDepth 20000 in
theorem ggX3_setProduct_X3_coefficient : GoodIn wsX3_setProduct wsX3_coefficient := goodIn_r _ [22, 18, 28, 29] (by decide +kernel) (by decide +kernel)
set_option maxRecDepth 20000 in
theorem gX3_setProduct_X3_coefficient : GoodIn wsX3_setProduct (wsV RX3 29 RX3 yX3_coefficient wsX3_coefficient) := goodIn_app (goodIn_of _ (by decide +kernel)) ggX3_setProduct_X3_coefficient
set_option maxRecDepth 20000 in
theorem ggX3_setProduct_X2_reduced : GoodIn wsX3_setProduct wsX2_reduced := goodIn_r _ [26, 27] (by decide +kernel) (by decide +kernel)
set_option maxRecDepth 20000 in
theorem gX3_setProduct_X2_reduced : GoodIn wsX3_setProduct (va_wsS RX3 43 yX2_reduced wsX2_reduced) := goodIn_app (goodIn_of _ (by decide +kernel)) ggX3_setProduct_X2_reduced
set_option maxRecDepth 20000 in
theorem ggX3_setProduct_X3_put : GoodIn wsX3_setProduct wsX3_put := goodIn_r _ [17, 18, 1, 28, 29] (by decide +kernel) (by decide +kernel)
set_option maxRecDepth 20000 in
theorem gX3_setProduct_X3_put : GoodIn wsX3_setProduct (wsV RX3 33 RX3 yX3_put wsX3_put) := goodIn_app (goodIn_of _ (by decide +kernel)) ggX3_setProduct_X3_put
theorem dX3_setProduct_0 : decode cX3_setProduct 0 = .ok (.aload_n 0, 1) := by decide +kernel
theorem dX3_setProduct_1 : decode cX3_setProduct 1 = .ok (.invokevirtual 37, 3) := by decide +kernel
theorem dX3_setProduct_4 : decode cX3_setProduct 4 = .ok (.iconst 0, 1) := by decide +kernel
theorem dX3_setProduct_5 : decode cX3_setProduct 5 = .ok (.istore_n 3, 1) := by decide +kernel
theorem dX3_setProduct_6 : decode cX3_setProduct 6 = .ok (.iload_n 3, 1) := by decide +kernel
theorem dX3_setProduct_7 : decode cX3_setProduct 7 = .ok (.aload_n 1, 1) := by decide +kernel
theorem dX3_setProduct_8 : decode cX3_setProduct 8 = .ok (.getfield 21, 3) := by decide +kernel
theorem dX3_setProduct_11 : decode cX3_setProduct 11 = .ok (.aload_n 2, 1) := by decide +kernel
theorem dX3_setProduct_12 : decode cX3_setProduct 12 = .ok (.getfield 21, 3) := by decide +kernel
theorem dX3_setProduct_15 : decode cX3_setProduct 15 = .ok (.iadd, 1) := by decide +kernel
theorem dX3_setProduct_16 : decode cX3_setProduct 16 = .ok (.if_icmp .gt 79, 3) := by decide +kernel
theorem dX3_setProduct_19 : decode cX3_setProduct 19 = .ok (.lconst 0, 1) := by decide +kernel
theorem dX3_setProduct_20 : decode cX3_setProduct 20 = .ok (.lstore 4, 2) := by decide +kernel
theorem dX3_setProduct_22 : decode cX3_setProduct 22 = .ok (.iload_n 3, 1) := by decide +kernel
theorem dX3_setProduct_23 : decode cX3_setProduct 23 = .ok (.aload_n 1, 1) := by decide +kernel
theorem dX3_setProduct_24 : decode cX3_setProduct 24 = .ok (.getfield 21, 3) := by decide +kernel
theorem dX3_setProduct_27 : decode cX3_setProduct 27 = .ok (.invokestatic 40, 3) := by decide +kernel
theorem dX3_setProduct_30 : decode cX3_setProduct 30 = .ok (.istore 6, 2) := by decide +kernel
theorem dX3_setProduct_32 : decode cX3_setProduct 32 = .ok (.iload_n 3, 1) := by decide +kernel
theorem dX3_setProduct_33 : decode cX3_setProduct 33 = .ok (.aload_n 2, 1) := by decide +kernel
theorem dX3_setProduct_34 : decode cX3_setProduct 34 = .ok (.getfield 21, 3) := by decide +kernel
theorem dX3_setProduct_37 : decode cX3_setProduct 37 = .ok (.isub, 1) := by decide +kernel
theorem dX3_setProduct_38 : decode cX3_setProduct 38 = .ok (.iconst 0, 1) := by decide +kernel
theorem dX3_setProduct_39 : decode cX3_setProduct 39 = .ok (.invokestatic 9, 3) := by decide +kernel
theorem dX3_setProduct_42 : decode cX3_setProduct 42 = .ok (.istore 7, 2) := by decide +kernel
theorem dX3_setProduct_44 : decode cX3_setProduct 44 = .ok (.iload 7, 2) := by decide +kernel
theorem dX3_setProduct_46 : decode cX3_setProduct 46 = .ok (.iload 6, 2) := by decide +kernel
theorem dX3_setProduct_48 : decode cX3_setProduct 48 = .ok (.if_icmp .gt 31, 3) := by decide +kernel
theorem dX3_setProduct_51 : decode cX3_setProduct 51 = .ok (.lload 4, 2) := by decide +kernel
theorem dX3_setProduct_53 : decode cX3_setProduct 53 = .ok (.aload_n 1, 1) := by decide +kernel
theorem dX3_setProduct_54 : decode cX3_setProduct 54 = .ok (.iload 7, 2) := by decide +kernel
theorem dX3_setProduct_56 : decode cX3_setProduct 56 = .ok (.invokevirtual 29, 3) := by decide +kernel
theorem dX3_setProduct_59 : decode cX3_setProduct 59 = .ok (.i2l, 1) := by decide +kernel
theorem dX3_setProduct_60 : decode cX3_setProduct 60 = .ok (.aload_n 2, 1) := by decide +kernel
theorem dX3_setProduct_61 : decode cX3_setProduct 61 = .ok (.iload_n 3, 1) := by decide +kernel
theorem dX3_setProduct_62 : decode cX3_setProduct 62 = .ok (.iload 7, 2) := by decide +kernel
theorem dX3_setProduct_64 : decode cX3_setProduct 64 = .ok (.isub, 1) := by decide +kernel
theorem dX3_setProduct_65 : decode cX3_setProduct 65 = .ok (.invokevirtual 29, 3) := by decide +kernel
theorem dX3_setProduct_68 : decode cX3_setProduct 68 = .ok (.i2l, 1) := by decide +kernel
theorem dX3_setProduct_69 : decode cX3_setProduct 69 = .ok (.lmul, 1) := by decide +kernel
theorem dX3_setProduct_70 : decode cX3_setProduct 70 = .ok (.ladd, 1) := by decide +kernel
theorem dX3_setProduct_71 : decode cX3_setProduct 71 = .ok (.lstore 4, 2) := by decide +kernel
theorem dX3_setProduct_73 : decode cX3_setProduct 73 = .ok (.iinc 7 1, 3) := by decide +kernel
theorem dX3_setProduct_76 : decode cX3_setProduct 76 = .ok (.goto (-32), 3) := by decide +kernel
theorem dX3_setProduct_79 : decode cX3_setProduct 79 = .ok (.aload_n 0, 1) := by decide +kernel
theorem dX3_setProduct_80 : decode cX3_setProduct 80 = .ok (.iload_n 3, 1) := by decide +kernel
theorem dX3_setProduct_81 : decode cX3_setProduct 81 = .ok (.lload 4, 2) := by decide +kernel
theorem dX3_setProduct_83 : decode cX3_setProduct 83 = .ok (.invokestatic 43, 3) := by decide +kernel
theorem dX3_setProduct_86 : decode cX3_setProduct 86 = .ok (.invokevirtual 33, 3) := by decide +kernel
theorem dX3_setProduct_89 : decode cX3_setProduct 89 = .ok (.iinc 3 1, 3) := by decide +kernel
theorem dX3_setProduct_92 : decode cX3_setProduct 92 = .ok (.goto (-86), 3) := by decide +kernel
theorem dX3_setProduct_95 : decode cX3_setProduct 95 = .ok (.return_, 1) := by decide +kernel
set_option maxRecDepth 20000 in
theorem ggX3_gather_X3_coefficient : GoodIn wsX3_gather wsX3_coefficient := goodIn_r _ [6, 7, 17, 18] (by decide +kernel) (by decide +kernel)
set_option maxRecDepth 20000 in
theorem gX3_gather_X3_coefficient : GoodIn wsX3_gather (wsV RX3 29 RX3 yX3_coefficient wsX3_coefficient) := goodIn_app (goodIn_of _ (by decide +kernel)) ggX3_gather_X3_coefficient
set_option maxRecDepth 20000 in
theorem ggX3_gather_X2_reduced : GoodIn wsX3_gather wsX2_reduced := goodIn_r _ [11, 12] (by decide +kernel) (by decide +kernel)
set_option maxRecDepth 20000 in
theorem gX3_gather_X2_reduced : GoodIn wsX3_gather (va_wsS RX3 43 yX2_reduced wsX2_reduced) := goodIn_app (goodIn_of _ (by decide +kernel)) ggX3_gather_X2_reduced
set_option maxRecDepth 20000 in
theorem ggX3_gather_X3_put : GoodIn wsX3_gather wsX3_put := goodIn_r _ [16, 7, 1, 17, 18] (by decide +kernel) (by decide +kernel)
set_option maxRecDepth 20000 in
theorem gX3_gather_X3_put : GoodIn wsX3_gather (wsV RX3 33 RX3 yX3_put wsX3_put) := goodIn_app (goodIn_of _ (by decide +kernel)) ggX3_gather_X3_put
theorem dX3_gather_0 : decode cX3_gather 0 = .ok (.iconst 0, 1) := by decide +kernel
theorem dX3_gather_1 : decode cX3_gather 1 = .ok (.istore 4, 2) := by decide +kernel
theorem dX3_gather_3 : decode cX3_gather 3 = .ok (.iload 4, 2) := by decide +kernel
theorem dX3_gather_5 : decode cX3_gather 5 = .ok (.aload_n 1, 1) := by decide +kernel
theorem dX3_gather_6 : decode cX3_gather 6 = .ok (.getfield 21, 3) := by decide +kernel
theorem dX3_gather_9 : decode cX3_gather 9 = .ok (.if_icmp .gt 44, 3) := by decide +kernel
theorem dX3_gather_12 : decode cX3_gather 12 = .ok (.aload_n 0, 1) := by decide +kernel
theorem dX3_gather_13 : decode cX3_gather 13 = .ok (.iload 4, 2) := by decide +kernel
theorem dX3_gather_15 : decode cX3_gather 15 = .ok (.iload_n 3, 1) := by decide +kernel
theorem dX3_gather_16 : decode cX3_gather 16 = .ok (.iadd, 1) := by decide +kernel
theorem dX3_gather_17 : decode cX3_gather 17 = .ok (.invokevirtual 29, 3) := by decide +kernel
theorem dX3_gather_20 : decode cX3_gather 20 = .ok (.i2l, 1) := by decide +kernel
theorem dX3_gather_21 : decode cX3_gather 21 = .ok (.iload_n 2, 1) := by decide +kernel
theorem dX3_gather_22 : decode cX3_gather 22 = .ok (.i2l, 1) := by decide +kernel
theorem dX3_gather_23 : decode cX3_gather 23 = .ok (.aload_n 1, 1) := by decide +kernel
theorem dX3_gather_24 : decode cX3_gather 24 = .ok (.iload 4, 2) := by decide +kernel
theorem dX3_gather_26 : decode cX3_gather 26 = .ok (.invokevirtual 29, 3) := by decide +kernel
theorem dX3_gather_29 : decode cX3_gather 29 = .ok (.i2l, 1) := by decide +kernel
theorem dX3_gather_30 : decode cX3_gather 30 = .ok (.lmul, 1) := by decide +kernel
theorem dX3_gather_31 : decode cX3_gather 31 = .ok (.ladd, 1) := by decide +kernel
theorem dX3_gather_32 : decode cX3_gather 32 = .ok (.lstore 5, 2) := by decide +kernel
theorem dX3_gather_34 : decode cX3_gather 34 = .ok (.aload_n 0, 1) := by decide +kernel
theorem dX3_gather_35 : decode cX3_gather 35 = .ok (.iload 4, 2) := by decide +kernel
theorem dX3_gather_37 : decode cX3_gather 37 = .ok (.iload_n 3, 1) := by decide +kernel
theorem dX3_gather_38 : decode cX3_gather 38 = .ok (.iadd, 1) := by decide +kernel
theorem dX3_gather_39 : decode cX3_gather 39 = .ok (.lload 5, 2) := by decide +kernel
theorem dX3_gather_41 : decode cX3_gather 41 = .ok (.invokestatic 43, 3) := by decide +kernel
theorem dX3_gather_44 : decode cX3_gather 44 = .ok (.invokevirtual 33, 3) := by decide +kernel
theorem dX3_gather_47 : decode cX3_gather 47 = .ok (.iinc 4 1, 3) := by decide +kernel
theorem dX3_gather_50 : decode cX3_gather 50 = .ok (.goto (-47), 3) := by decide +kernel
theorem dX3_gather_53 : decode cX3_gather 53 = .ok (.return_, 1) := by decide +kernel
set_option maxRecDepth 20000 in
theorem ggX3_scale_X3_coefficient : GoodIn wsX3_scale wsX3_coefficient := goodIn_r _ [6, 7, 20, 21] (by decide +kernel) (by decide +kernel)
set_option maxRecDepth 20000 in
theorem gX3_scale_X3_coefficient : GoodIn wsX3_scale (wsV RX3 29 RX3 yX3_coefficient wsX3_coefficient) := goodIn_app (goodIn_of _ (by decide +kernel)) ggX3_scale_X3_coefficient
set_option maxRecDepth 20000 in
theorem ggX3_scale_X2_product : GoodIn wsX3_scale wsX2_product := goodIn_r _ [11, 12, 13, 10, 14, 15] (by decide +kernel) (by decide +kernel)
set_option maxRecDepth 20000 in
theorem gX3_scale_X2_product : GoodIn wsX3_scale (va_wsS RX3 49 yX2_product wsX2_product) := goodIn_app (goodIn_of _ (by decide +kernel)) ggX3_scale_X2_product
set_option maxRecDepth 20000 in
theorem ggX3_scale_X3_put : GoodIn wsX3_scale wsX3_put := goodIn_r _ [19, 7, 1, 20, 21] (by decide +kernel) (by decide +kernel)
set_option maxRecDepth 20000 in
theorem gX3_scale_X3_put : GoodIn wsX3_scale (wsV RX3 33 RX3 yX3_put wsX3_put) := goodIn_app (goodIn_of _ (by decide +kernel)) ggX3_scale_X3_put
theorem dX3_scale_0 : decode cX3_scale 0 = .ok (.aload_n 0, 1) := by decide +kernel
theorem dX3_scale_1 : decode cX3_scale 1 = .ok (.getfield 21, 3) := by decide +kernel
theorem dX3_scale_4 : decode cX3_scale 4 = .ok (.istore_n 2, 1) := by decide +kernel
theorem dX3_scale_5 : decode cX3_scale 5 = .ok (.iload_n 2, 1) := by decide +kernel
theorem dX3_scale_6 : decode cX3_scale 6 = .ok (.ifCond .lt 23, 3) := by decide +kernel
theorem dX3_scale_9 : decode cX3_scale 9 = .ok (.aload_n 0, 1) := by decide +kernel
theorem dX3_scale_10 : decode cX3_scale 10 = .ok (.iload_n 2, 1) := by decide +kernel
theorem dX3_scale_11 : decode cX3_scale 11 = .ok (.aload_n 0, 1) := by decide +kernel
theorem dX3_scale_12 : decode cX3_scale 12 = .ok (.iload_n 2, 1) := by decide +kernel
theorem dX3_scale_13 : decode cX3_scale 13 = .ok (.invokevirtual 29, 3) := by decide +kernel
theorem dX3_scale_16 : decode cX3_scale 16 = .ok (.iload_n 1, 1) := by decide +kernel
theorem dX3_scale_17 : decode cX3_scale 17 = .ok (.invokestatic 49, 3) := by decide +kernel
theorem dX3_scale_20 : decode cX3_scale 20 = .ok (.invokevirtual 33, 3) := by decide +kernel
theorem dX3_scale_23 : decode cX3_scale 23 = .ok (.iinc 2 (-1), 3) := by decide +kernel
theorem dX3_scale_26 : decode cX3_scale 26 = .ok (.goto (-21), 3) := by decide +kernel
theorem dX3_scale_29 : decode cX3_scale 29 = .ok (.return_, 1) := by decide +kernel
set_option maxRecDepth 20000 in
theorem ggX3_multiplyByLinear_X3_coefficient : GoodIn wsX3_multiplyByLinear wsX3_coefficient := goodIn_r _ [6, 7, 17, 18] (by decide +kernel) (by decide +kernel)
set_option maxRecDepth 20000 in
theorem gX3_multiplyByLinear_X3_coefficient : GoodIn wsX3_multiplyByLinear (wsV RX3 29 RX3 yX3_coefficient wsX3_coefficient) := goodIn_app (goodIn_of _ (by decide +kernel)) ggX3_multiplyByLinear_X3_coefficient
set_option maxRecDepth 20000 in
theorem ggX3_multiplyByLinear_X2_reduced : GoodIn wsX3_multiplyByLinear wsX2_reduced := goodIn_r _ [11, 12] (by decide +kernel) (by decide +kernel)
set_option maxRecDepth 20000 in
theorem gX3_multiplyByLinear_X2_reduced : GoodIn wsX3_multiplyByLinear (va_wsS RX3 43 yX2_reduced wsX2_reduced) := goodIn_app (goodIn_of _ (by decide +kernel)) ggX3_multiplyByLinear_X2_reduced
set_option maxRecDepth 20000 in
theorem ggX3_multiplyByLinear_X3_put : GoodIn wsX3_multiplyByLinear wsX3_put := goodIn_r _ [16, 7, 1, 17, 18] (by decide +kernel) (by decide +kernel)
set_option maxRecDepth 20000 in
theorem gX3_multiplyByLinear_X3_put : GoodIn wsX3_multiplyByLinear (wsV RX3 33 RX3 yX3_put wsX3_put) := goodIn_app (goodIn_of _ (by decide +kernel)) ggX3_multiplyByLinear_X3_put
theorem dX3_multiplyByLinear_0 : decode cX3_multiplyByLinear 0 = .ok (.aload_n 0, 1) := by decide +kernel
theorem dX3_multiplyByLinear_1 : decode cX3_multiplyByLinear 1 = .ok (.getfield 21, 3) := by decide +kernel
theorem dX3_multiplyByLinear_4 : decode cX3_multiplyByLinear 4 = .ok (.iconst 1, 1) := by decide +kernel
theorem dX3_multiplyByLinear_5 : decode cX3_multiplyByLinear 5 = .ok (.iadd, 1) := by decide +kernel
theorem dX3_multiplyByLinear_6 : decode cX3_multiplyByLinear 6 = .ok (.istore_n 2, 1) := by decide +kernel
theorem dX3_multiplyByLinear_7 : decode cX3_multiplyByLinear 7 = .ok (.iload_n 2, 1) := by decide +kernel
theorem dX3_multiplyByLinear_8 : decode cX3_multiplyByLinear 8 = .ok (.ifCond .lt 37, 3) := by decide +kernel
theorem dX3_multiplyByLinear_11 : decode cX3_multiplyByLinear 11 = .ok (.aload_n 0, 1) := by decide +kernel
theorem dX3_multiplyByLinear_12 : decode cX3_multiplyByLinear 12 = .ok (.iload_n 2, 1) := by decide +kernel
theorem dX3_multiplyByLinear_13 : decode cX3_multiplyByLinear 13 = .ok (.iconst 1, 1) := by decide +kernel
theorem dX3_multiplyByLinear_14 : decode cX3_multiplyByLinear 14 = .ok (.isub, 1) := by decide +kernel
theorem dX3_multiplyByLinear_15 : decode cX3_multiplyByLinear 15 = .ok (.invokevirtual 29, 3) := by decide +kernel
theorem dX3_multiplyByLinear_18 : decode cX3_multiplyByLinear 18 = .ok (.i2l, 1) := by decide +kernel
theorem dX3_multiplyByLinear_19 : decode cX3_multiplyByLinear 19 = .ok (.iload_n 1, 1) := by decide +kernel
theorem dX3_multiplyByLinear_20 : decode cX3_multiplyByLinear 20 = .ok (.i2l, 1) := by decide +kernel
theorem dX3_multiplyByLinear_21 : decode cX3_multiplyByLinear 21 = .ok (.aload_n 0, 1) := by decide +kernel
theorem dX3_multiplyByLinear_22 : decode cX3_multiplyByLinear 22 = .ok (.iload_n 2, 1) := by decide +kernel
theorem dX3_multiplyByLinear_23 : decode cX3_multiplyByLinear 23 = .ok (.invokevirtual 29, 3) := by decide +kernel
theorem dX3_multiplyByLinear_26 : decode cX3_multiplyByLinear 26 = .ok (.i2l, 1) := by decide +kernel
theorem dX3_multiplyByLinear_27 : decode cX3_multiplyByLinear 27 = .ok (.lmul, 1) := by decide +kernel
theorem dX3_multiplyByLinear_28 : decode cX3_multiplyByLinear 28 = .ok (.ladd, 1) := by decide +kernel
theorem dX3_multiplyByLinear_29 : decode cX3_multiplyByLinear 29 = .ok (.lstore_n 3, 1) := by decide +kernel
theorem dX3_multiplyByLinear_30 : decode cX3_multiplyByLinear 30 = .ok (.aload_n 0, 1) := by decide +kernel
theorem dX3_multiplyByLinear_31 : decode cX3_multiplyByLinear 31 = .ok (.iload_n 2, 1) := by decide +kernel
theorem dX3_multiplyByLinear_32 : decode cX3_multiplyByLinear 32 = .ok (.lload_n 3, 1) := by decide +kernel
theorem dX3_multiplyByLinear_33 : decode cX3_multiplyByLinear 33 = .ok (.invokestatic 43, 3) := by decide +kernel
theorem dX3_multiplyByLinear_36 : decode cX3_multiplyByLinear 36 = .ok (.invokevirtual 33, 3) := by decide +kernel
theorem dX3_multiplyByLinear_39 : decode cX3_multiplyByLinear 39 = .ok (.iinc 2 (-1), 3) := by decide +kernel
theorem dX3_multiplyByLinear_42 : decode cX3_multiplyByLinear 42 = .ok (.goto (-35), 3) := by decide +kernel
theorem dX3_multiplyByLinear_45 : decode cX3_multiplyByLinear 45 = .ok (.return_, 1) := by decide +kernel
set_option maxRecDepth 20000 in
theorem ggX3_moveByOne_X3_coefficient : GoodIn wsX3_moveByOne wsX3_coefficient := goodIn_r _ [6, 7, 17, 18] (by decide +kernel) (by decide +kernel)
set_option maxRecDepth 20000 in
theorem gX3_moveByOne_X3_coefficient : GoodIn wsX3_moveByOne (wsV RX3 29 RX3 yX3_coefficient wsX3_coefficient) := goodIn_app (goodIn_of _ (by decide +kernel)) ggX3_moveByOne_X3_coefficient
set_option maxRecDepth 20000 in
theorem ggX3_moveByOne_X2_reduced : GoodIn wsX3_moveByOne wsX2_reduced := goodIn_r _ [11, 12] (by decide +kernel) (by decide +kernel)
set_option maxRecDepth 20000 in
theorem gX3_moveByOne_X2_reduced : GoodIn wsX3_moveByOne (va_wsS RX3 43 yX2_reduced wsX2_reduced) := goodIn_app (goodIn_of _ (by decide +kernel)) ggX3_moveByOne_X2_reduced
set_option maxRecDepth 20000 in
theorem ggX3_moveByOne_X3_put : GoodIn wsX3_moveByOne wsX3_put := goodIn_r _ [16, 7, 1, 17, 18] (by decide +kernel) (by decide +kernel)
set_option maxRecDepth 20000 in
theorem gX3_moveByOne_X3_put : GoodIn wsX3_moveByOne (wsV RX3 33 RX3 yX3_put wsX3_put) := goodIn_app (goodIn_of _ (by decide +kernel)) ggX3_moveByOne_X3_put
theorem dX3_moveByOne_0 : decode cX3_moveByOne 0 = .ok (.iconst 0, 1) := by decide +kernel
theorem dX3_moveByOne_1 : decode cX3_moveByOne 1 = .ok (.istore_n 1, 1) := by decide +kernel
theorem dX3_moveByOne_2 : decode cX3_moveByOne 2 = .ok (.iload_n 1, 1) := by decide +kernel
theorem dX3_moveByOne_3 : decode cX3_moveByOne 3 = .ok (.aload_n 0, 1) := by decide +kernel
theorem dX3_moveByOne_4 : decode cX3_moveByOne 4 = .ok (.getfield 21, 3) := by decide +kernel
theorem dX3_moveByOne_7 : decode cX3_moveByOne 7 = .ok (.if_icmp .ge 50, 3) := by decide +kernel
theorem dX3_moveByOne_10 : decode cX3_moveByOne 10 = .ok (.aload_n 0, 1) := by decide +kernel
theorem dX3_moveByOne_11 : decode cX3_moveByOne 11 = .ok (.getfield 21, 3) := by decide +kernel
theorem dX3_moveByOne_14 : decode cX3_moveByOne 14 = .ok (.iconst 1, 1) := by decide +kernel
theorem dX3_moveByOne_15 : decode cX3_moveByOne 15 = .ok (.isub, 1) := by decide +kernel
theorem dX3_moveByOne_16 : decode cX3_moveByOne 16 = .ok (.istore_n 2, 1) := by decide +kernel
theorem dX3_moveByOne_17 : decode cX3_moveByOne 17 = .ok (.iload_n 2, 1) := by decide +kernel
theorem dX3_moveByOne_18 : decode cX3_moveByOne 18 = .ok (.iload_n 1, 1) := by decide +kernel
theorem dX3_moveByOne_19 : decode cX3_moveByOne 19 = .ok (.if_icmp .lt 32, 3) := by decide +kernel
theorem dX3_moveByOne_22 : decode cX3_moveByOne 22 = .ok (.aload_n 0, 1) := by decide +kernel
theorem dX3_moveByOne_23 : decode cX3_moveByOne 23 = .ok (.iload_n 2, 1) := by decide +kernel
theorem dX3_moveByOne_24 : decode cX3_moveByOne 24 = .ok (.aload_n 0, 1) := by decide +kernel
theorem dX3_moveByOne_25 : decode cX3_moveByOne 25 = .ok (.iload_n 2, 1) := by decide +kernel
theorem dX3_moveByOne_26 : decode cX3_moveByOne 26 = .ok (.invokevirtual 29, 3) := by decide +kernel
theorem dX3_moveByOne_29 : decode cX3_moveByOne 29 = .ok (.i2l, 1) := by decide +kernel
theorem dX3_moveByOne_30 : decode cX3_moveByOne 30 = .ok (.aload_n 0, 1) := by decide +kernel
theorem dX3_moveByOne_31 : decode cX3_moveByOne 31 = .ok (.iload_n 2, 1) := by decide +kernel
theorem dX3_moveByOne_32 : decode cX3_moveByOne 32 = .ok (.iconst 1, 1) := by decide +kernel
theorem dX3_moveByOne_33 : decode cX3_moveByOne 33 = .ok (.iadd, 1) := by decide +kernel
theorem dX3_moveByOne_34 : decode cX3_moveByOne 34 = .ok (.invokevirtual 29, 3) := by decide +kernel
theorem dX3_moveByOne_37 : decode cX3_moveByOne 37 = .ok (.i2l, 1) := by decide +kernel
theorem dX3_moveByOne_38 : decode cX3_moveByOne 38 = .ok (.ladd, 1) := by decide +kernel
theorem dX3_moveByOne_39 : decode cX3_moveByOne 39 = .ok (.invokestatic 43, 3) := by decide +kernel
theorem dX3_moveByOne_42 : decode cX3_moveByOne 42 = .ok (.invokevirtual 33, 3) := by decide +kernel
theorem dX3_moveByOne_45 : decode cX3_moveByOne 45 = .ok (.iinc 2 (-1), 3) := by decide +kernel
theorem dX3_moveByOne_48 : decode cX3_moveByOne 48 = .ok (.goto (-31), 3) := by decide +kernel
theorem dX3_moveByOne_51 : decode cX3_moveByOne 51 = .ok (.iinc 1 1, 3) := by decide +kernel
theorem dX3_moveByOne_54 : decode cX3_moveByOne 54 = .ok (.goto (-52), 3) := by decide +kernel
theorem dX3_moveByOne_57 : decode cX3_moveByOne 57 = .ok (.return_, 1) := by decide +kernel
set_option maxRecDepth 20000 in
theorem ggX3_divide_X3_clear : GoodIn wsX3_divide wsX3_clear := goodIn_r _ [6, 1, 7, 8, 9, 5, 10, 11, 40, 41] (by decide +kernel) (by decide +kernel)
set_option maxRecDepth 20000 in
theorem gX3_divide_X3_clear : GoodIn wsX3_divide (wsV RX3 37 RX3 yX3_clear wsX3_clear) := goodIn_app (goodIn_of _ (by decide +kernel)) ggX3_divide_X3_clear
set_option maxRecDepth 20000 in
theorem ggX3_divide_X3_isZero : GoodIn wsX3_divide wsX3_isZero := goodIn_r _ [15, 1, 40, 41] (by decide +kernel) (by decide +kernel)
set_option maxRecDepth 20000 in
theorem gX3_divide_X3_isZero : GoodIn wsX3_divide (wsV RX3 52 RX3 yX3_isZero wsX3_isZero) := goodIn_app (goodIn_of _ (by decide +kernel)) ggX3_divide_X3_isZero
set_option maxRecDepth 20000 in
theorem ggX3_divide_X3_leading : GoodIn wsX3_divide wsX3_leading := goodIn_r _ [19, 1, 20, 21, 22, 5, 23, 11, 40, 41] (by decide +kernel) (by decide +kernel)
set_option maxRecDepth 20000 in
theorem gX3_divide_X3_leading : GoodIn wsX3_divide (wsV RX3 56 RX3 yX3_leading wsX3_leading) := goodIn_app (goodIn_of _ (by decide +kernel)) ggX3_divide_X3_leading
set_option maxRecDepth 20000 in
theorem ggX3_divide_X2_inverse : GoodIn wsX3_divide wsX2_inverse := goodIn_r _ [27, 28, 29, 26, 30, 31] (by decide +kernel) (by decide +kernel)
set_option maxRecDepth 20000 in
theorem gX3_divide_X2_inverse : GoodIn wsX3_divide (va_wsS RX3 60 yX2_inverse wsX2_inverse) := goodIn_app (goodIn_of _ (by decide +kernel)) ggX3_divide_X2_inverse
set_option maxRecDepth 20000 in
theorem ggX3_divide_X3_coefficient : GoodIn wsX3_divide wsX3_coefficient := goodIn_r _ [23, 11, 40, 41] (by decide +kernel) (by decide +kernel)
set_option maxRecDepth 20000 in
theorem gX3_divide_X3_coefficient : GoodIn wsX3_divide (wsV RX3 29 RX3 yX3_coefficient wsX3_coefficient) := goodIn_app (goodIn_of _ (by decide +kernel)) ggX3_divide_X3_coefficient
set_option maxRecDepth 20000 in
theorem ggX3_divide_X2_product : GoodIn wsX3_divide wsX2_product := goodIn_r _ [34, 28, 29, 26, 30, 31] (by decide +kernel) (by decide +kernel)
set_option maxRecDepth 20000 in
theorem gX3_divide_X2_product : GoodIn wsX3_divide (va_wsS RX3 49 yX2_product wsX2_product) := goodIn_app (goodIn_of _ (by decide +kernel)) ggX3_divide_X2_product
set_option maxRecDepth 20000 in
theorem ggX3_divide_X3_put : GoodIn wsX3_divide wsX3_put := goodIn_r _ [10, 11, 1, 40, 41] (by decide +kernel) (by decide +kernel)
set_option maxRecDepth 20000 in
theorem gX3_divide_X3_put : GoodIn wsX3_divide (wsV RX3 33 RX3 yX3_put wsX3_put) := goodIn_app (goodIn_of _ (by decide +kernel)) ggX3_divide_X3_put
set_option maxRecDepth 20000 in
theorem ggX3_divide_X3_gather : GoodIn wsX3_divide wsX3_gather := goodIn_r _ [38, 1, 20, 21, 22, 5, 23, 11, 39, 29, 26, 30, 31, 7, 8, 9, 10, 40, 41] (by decide +kernel) (by decide +kernel)
set_option maxRecDepth 20000 in
theorem gX3_divide_X3_gather : GoodIn wsX3_divide (wsV RX3 63 RX3 yX3_gather wsX3_gather) := goodIn_app (goodIn_of _ (by decide +kernel)) ggX3_divide_X3_gather
theorem dX3_divide_0 : decode cX3_divide 0 = .ok (.aload_n 2, 1) := by decide +kernel
theorem dX3_divide_1 : decode cX3_divide 1 = .ok (.invokevirtual 37, 3) := by decide +kernel
theorem dX3_divide_4 : decode cX3_divide 4 = .ok (.aload_n 1, 1) := by decide +kernel
theorem dX3_divide_5 : decode cX3_divide 5 = .ok (.invokevirtual 52, 3) := by decide +kernel
theorem dX3_divide_8 : decode cX3_divide 8 = .ok (.ifCond .eq 4, 3) := by decide +kernel
theorem dX3_divide_11 : decode cX3_divide 11 = .ok (.return_, 1) := by decide +kernel
theorem dX3_divide_12 : decode cX3_divide 12 = .ok (.aload_n 1, 1) := by decide +kernel
theorem dX3_divide_13 : decode cX3_divide 13 = .ok (.invokevirtual 56, 3) := by decide +kernel
theorem dX3_divide_16 : decode cX3_divide 16 = .ok (.invokestatic 60, 3) := by decide +kernel
theorem dX3_divide_19 : decode cX3_divide 19 = .ok (.istore_n 3, 1) := by decide +kernel
theorem dX3_divide_20 : decode cX3_divide 20 = .ok (.aload_n 0, 1) := by decide +kernel
theorem dX3_divide_21 : decode cX3_divide 21 = .ok (.getfield 21, 3) := by decide +kernel
theorem dX3_divide_24 : decode cX3_divide 24 = .ok (.aload_n 1, 1) := by decide +kernel
theorem dX3_divide_25 : decode cX3_divide 25 = .ok (.getfield 21, 3) := by decide +kernel
theorem dX3_divide_28 : decode cX3_divide 28 = .ok (.isub, 1) := by decide +kernel
theorem dX3_divide_29 : decode cX3_divide 29 = .ok (.istore 4, 2) := by decide +kernel
theorem dX3_divide_31 : decode cX3_divide 31 = .ok (.iload 4, 2) := by decide +kernel
theorem dX3_divide_33 : decode cX3_divide 33 = .ok (.ifCond .lt 47, 3) := by decide +kernel
theorem dX3_divide_36 : decode cX3_divide 36 = .ok (.aload_n 0, 1) := by decide +kernel
theorem dX3_divide_37 : decode cX3_divide 37 = .ok (.iload 4, 2) := by decide +kernel
theorem dX3_divide_39 : decode cX3_divide 39 = .ok (.aload_n 1, 1) := by decide +kernel
theorem dX3_divide_40 : decode cX3_divide 40 = .ok (.getfield 21, 3) := by decide +kernel
theorem dX3_divide_43 : decode cX3_divide 43 = .ok (.iadd, 1) := by decide +kernel
theorem dX3_divide_44 : decode cX3_divide 44 = .ok (.invokevirtual 29, 3) := by decide +kernel
theorem dX3_divide_47 : decode cX3_divide 47 = .ok (.iload_n 3, 1) := by decide +kernel
theorem dX3_divide_48 : decode cX3_divide 48 = .ok (.invokestatic 49, 3) := by decide +kernel
theorem dX3_divide_51 : decode cX3_divide 51 = .ok (.istore 5, 2) := by decide +kernel
theorem dX3_divide_53 : decode cX3_divide 53 = .ok (.aload_n 2, 1) := by decide +kernel
theorem dX3_divide_54 : decode cX3_divide 54 = .ok (.iload 4, 2) := by decide +kernel
theorem dX3_divide_56 : decode cX3_divide 56 = .ok (.iload 5, 2) := by decide +kernel
theorem dX3_divide_58 : decode cX3_divide 58 = .ok (.invokevirtual 33, 3) := by decide +kernel
theorem dX3_divide_61 : decode cX3_divide 61 = .ok (.aload_n 0, 1) := by decide +kernel
theorem dX3_divide_62 : decode cX3_divide 62 = .ok (.aload_n 1, 1) := by decide +kernel
theorem dX3_divide_63 : decode cX3_divide 63 = .ok (.sipush 32003, 3) := by decide +kernel
theorem dX3_divide_66 : decode cX3_divide 66 = .ok (.iload 5, 2) := by decide +kernel
theorem dX3_divide_68 : decode cX3_divide 68 = .ok (.isub, 1) := by decide +kernel
theorem dX3_divide_69 : decode cX3_divide 69 = .ok (.iload 4, 2) := by decide +kernel
theorem dX3_divide_71 : decode cX3_divide 71 = .ok (.invokevirtual 63, 3) := by decide +kernel
theorem dX3_divide_74 : decode cX3_divide 74 = .ok (.iinc 4 (-1), 3) := by decide +kernel
theorem dX3_divide_77 : decode cX3_divide 77 = .ok (.goto (-46), 3) := by decide +kernel
theorem dX3_divide_80 : decode cX3_divide 80 = .ok (.return_, 1) := by decide +kernel
set_option maxRecDepth 20000 in
theorem ggX3_evaluate_X3_coefficient : GoodIn wsX3_evaluate wsX3_coefficient := goodIn_r _ [6, 7, 13, 14] (by decide +kernel) (by decide +kernel)
set_option maxRecDepth 20000 in
theorem gX3_evaluate_X3_coefficient : GoodIn wsX3_evaluate (wsV RX3 29 RX3 yX3_coefficient wsX3_coefficient) := goodIn_app (goodIn_of _ (by decide +kernel)) ggX3_evaluate_X3_coefficient
set_option maxRecDepth 20000 in
theorem ggX3_evaluate_X2_reduced : GoodIn wsX3_evaluate wsX2_reduced := goodIn_r _ [11, 12] (by decide +kernel) (by decide +kernel)
set_option maxRecDepth 20000 in
theorem gX3_evaluate_X2_reduced : GoodIn wsX3_evaluate (va_wsS RX3 43 yX2_reduced wsX2_reduced) := goodIn_app (goodIn_of _ (by decide +kernel)) ggX3_evaluate_X2_reduced
theorem dX3_evaluate_0 : decode cX3_evaluate 0 = .ok (.iconst 0, 1) := by decide +kernel
theorem dX3_evaluate_1 : decode cX3_evaluate 1 = .ok (.istore_n 2, 1) := by decide +kernel
theorem dX3_evaluate_2 : decode cX3_evaluate 2 = .ok (.aload_n 0, 1) := by decide +kernel
theorem dX3_evaluate_3 : decode cX3_evaluate 3 = .ok (.getfield 21, 3) := by decide +kernel
theorem dX3_evaluate_6 : decode cX3_evaluate 6 = .ok (.istore_n 3, 1) := by decide +kernel
theorem dX3_evaluate_7 : decode cX3_evaluate 7 = .ok (.iload_n 3, 1) := by decide +kernel
theorem dX3_evaluate_8 : decode cX3_evaluate 8 = .ok (.ifCond .lt 25, 3) := by decide +kernel
theorem dX3_evaluate_11 : decode cX3_evaluate 11 = .ok (.iload_n 2, 1) := by decide +kernel
theorem dX3_evaluate_12 : decode cX3_evaluate 12 = .ok (.i2l, 1) := by decide +kernel
theorem dX3_evaluate_13 : decode cX3_evaluate 13 = .ok (.iload_n 1, 1) := by decide +kernel
theorem dX3_evaluate_14 : decode cX3_evaluate 14 = .ok (.i2l, 1) := by decide +kernel
theorem dX3_evaluate_15 : decode cX3_evaluate 15 = .ok (.lmul, 1) := by decide +kernel
theorem dX3_evaluate_16 : decode cX3_evaluate 16 = .ok (.aload_n 0, 1) := by decide +kernel
theorem dX3_evaluate_17 : decode cX3_evaluate 17 = .ok (.iload_n 3, 1) := by decide +kernel
theorem dX3_evaluate_18 : decode cX3_evaluate 18 = .ok (.invokevirtual 29, 3) := by decide +kernel
theorem dX3_evaluate_21 : decode cX3_evaluate 21 = .ok (.i2l, 1) := by decide +kernel
theorem dX3_evaluate_22 : decode cX3_evaluate 22 = .ok (.ladd, 1) := by decide +kernel
theorem dX3_evaluate_23 : decode cX3_evaluate 23 = .ok (.invokestatic 43, 3) := by decide +kernel
theorem dX3_evaluate_26 : decode cX3_evaluate 26 = .ok (.istore_n 2, 1) := by decide +kernel
theorem dX3_evaluate_27 : decode cX3_evaluate 27 = .ok (.iinc 3 (-1), 3) := by decide +kernel
theorem dX3_evaluate_30 : decode cX3_evaluate 30 = .ok (.goto (-23), 3) := by decide +kernel
theorem dX3_evaluate_33 : decode cX3_evaluate 33 = .ok (.iload_n 2, 1) := by decide +kernel
theorem dX3_evaluate_34 : decode cX3_evaluate 34 = .ok (.ireturn, 1) := by decide +kernel
set_option maxRecDepth 20000 in
theorem ggX3_matches_X3_coefficient : GoodIn wsX3_matches wsX3_coefficient := goodIn_r _ [6, 7, 8, 9] (by decide +kernel) (by decide +kernel)
set_option maxRecDepth 20000 in
theorem gX3_matches_X3_coefficient : GoodIn wsX3_matches (wsV RX3 29 RX3 yX3_coefficient wsX3_coefficient) := goodIn_app (goodIn_of _ (by decide +kernel)) ggX3_matches_X3_coefficient
theorem dX3_matches_0 : decode cX3_matches 0 = .ok (.aload_n 0, 1) := by decide +kernel
theorem dX3_matches_1 : decode cX3_matches 1 = .ok (.getfield 21, 3) := by decide +kernel
theorem dX3_matches_4 : decode cX3_matches 4 = .ok (.aload_n 1, 1) := by decide +kernel
theorem dX3_matches_5 : decode cX3_matches 5 = .ok (.getfield 21, 3) := by decide +kernel
theorem dX3_matches_8 : decode cX3_matches 8 = .ok (.if_icmp .eq 5, 3) := by decide +kernel
theorem dX3_matches_11 : decode cX3_matches 11 = .ok (.iconst 0, 1) := by decide +kernel
theorem dX3_matches_12 : decode cX3_matches 12 = .ok (.ireturn, 1) := by decide +kernel
theorem dX3_matches_13 : decode cX3_matches 13 = .ok (.iconst 0, 1) := by decide +kernel
theorem dX3_matches_14 : decode cX3_matches 14 = .ok (.istore_n 2, 1) := by decide +kernel
theorem dX3_matches_15 : decode cX3_matches 15 = .ok (.iload_n 2, 1) := by decide +kernel
theorem dX3_matches_16 : decode cX3_matches 16 = .ok (.aload_n 0, 1) := by decide +kernel
theorem dX3_matches_17 : decode cX3_matches 17 = .ok (.getfield 21, 3) := by decide +kernel
theorem dX3_matches_20 : decode cX3_matches 20 = .ok (.if_icmp .gt 24, 3) := by decide +kernel
theorem dX3_matches_23 : decode cX3_matches 23 = .ok (.aload_n 0, 1) := by decide +kernel
theorem dX3_matches_24 : decode cX3_matches 24 = .ok (.iload_n 2, 1) := by decide +kernel
theorem dX3_matches_25 : decode cX3_matches 25 = .ok (.invokevirtual 29, 3) := by decide +kernel
theorem dX3_matches_28 : decode cX3_matches 28 = .ok (.aload_n 1, 1) := by decide +kernel
theorem dX3_matches_29 : decode cX3_matches 29 = .ok (.iload_n 2, 1) := by decide +kernel
theorem dX3_matches_30 : decode cX3_matches 30 = .ok (.invokevirtual 29, 3) := by decide +kernel
theorem dX3_matches_33 : decode cX3_matches 33 = .ok (.if_icmp .eq 5, 3) := by decide +kernel
theorem dX3_matches_36 : decode cX3_matches 36 = .ok (.iconst 0, 1) := by decide +kernel
theorem dX3_matches_37 : decode cX3_matches 37 = .ok (.ireturn, 1) := by decide +kernel
theorem dX3_matches_38 : decode cX3_matches 38 = .ok (.iinc 2 1, 3) := by decide +kernel
theorem dX3_matches_41 : decode cX3_matches 41 = .ok (.goto (-26), 3) := by decide +kernel
theorem dX3_matches_44 : decode cX3_matches 44 = .ok (.iconst 1, 1) := by decide +kernel
theorem dX3_matches_45 : decode cX3_matches 45 = .ok (.ireturn, 1) := by decide +kernel
end
section
set_option maxRecDepth 20000 in
theorem ggX4_init_X3_init : GoodIn wsX4_init wsX3_init := goodIn_r _ [23, 24, 2, 3, 25, 26, 27, 28, 29, 30, 31, 51, 52] (by decide +kernel) (by decide +kernel)
set_option maxRecDepth 20000 in
theorem gX4_init_X3_init : GoodIn wsX4_init (wsX3_init) := ggX4_init_X3_init
set_option maxRecDepth 20000 in
theorem ggX4_init_X3_put : GoodIn wsX4_init wsX3_put := goodIn_r _ [35, 30, 31, 51, 52] (by decide +kernel) (by decide +kernel)
set_option maxRecDepth 20000 in
theorem gX4_init_X3_put : GoodIn wsX4_init (wsV RX4 18 RX3 yX3_put wsX3_put) := goodIn_app (goodIn_of _ (by decide +kernel)) ggX4_init_X3_put
set_option maxRecDepth 20000 in
theorem ggX4_init_X0_init : GoodIn wsX4_init wsX0_init := goodIn_r _ [38, 39, 2, 3, 40, 41, 5, 6, 42, 43, 44, 45, 46, 29, 47, 48, 49, 50, 22, 23, 24, 25, 26, 27, 28, 30, 31, 63, 64, 65, 66, 67, 68, 69, 70, 51, 52] (by decide +kernel) (by decide +kernel)
set_option maxRecDepth 20000 in
theorem gX4_init_X0_init : GoodIn wsX4_init (wsX0_init) := ggX4_init_X0_init
theorem dX4_init_0 : decode cX4_init 0 = .ok (.aload_n 0, 1) := by decide +kernel
theorem dX4_init_1 : decode cX4_init 1 = .ok (.invokespecial 3, 3) := by decide +kernel
theorem dX4_init_4 : decode cX4_init 4 = .ok (.aload_n 0, 1) := by decide +kernel
theorem dX4_init_5 : decode cX4_init 5 = .ok (.new 9, 3) := by decide +kernel
theorem dX4_init_8 : decode cX4_init 8 = .ok (.dup, 1) := by decide +kernel
theorem dX4_init_9 : decode cX4_init 9 = .ok (.iconst 4, 1) := by decide +kernel
theorem dX4_init_10 : decode cX4_init 10 = .ok (.invokespecial 11, 3) := by decide +kernel
theorem dX4_init_13 : decode cX4_init 13 = .ok (.putfield 14, 3) := by decide +kernel
theorem dX4_init_16 : decode cX4_init 16 = .ok (.aload_n 0, 1) := by decide +kernel
theorem dX4_init_17 : decode cX4_init 17 = .ok (.getfield 14, 3) := by decide +kernel
theorem dX4_init_20 : decode cX4_init 20 = .ok (.iconst 0, 1) := by decide +kernel
theorem dX4_init_21 : decode cX4_init 21 = .ok (.iconst 1, 1) := by decide +kernel
theorem dX4_init_22 : decode cX4_init 22 = .ok (.invokevirtual 18, 3) := by decide +kernel
theorem dX4_init_25 : decode cX4_init 25 = .ok (.aload_n 0, 1) := by decide +kernel
theorem dX4_init_26 : decode cX4_init 26 = .ok (.new 9, 3) := by decide +kernel
theorem dX4_init_29 : decode cX4_init 29 = .ok (.dup, 1) := by decide +kernel
theorem dX4_init_30 : decode cX4_init 30 = .ok (.iconst 4, 1) := by decide +kernel
theorem dX4_init_31 : decode cX4_init 31 = .ok (.invokespecial 11, 3) := by decide +kernel
theorem dX4_init_34 : decode cX4_init 34 = .ok (.putfield 22, 3) := by decide +kernel
theorem dX4_init_37 : decode cX4_init 37 = .ok (.aload_n 0, 1) := by decide +kernel
theorem dX4_init_38 : decode cX4_init 38 = .ok (.getfield 22, 3) := by decide +kernel
theorem dX4_init_41 : decode cX4_init 41 = .ok (.iconst 0, 1) := by decide +kernel
theorem dX4_init_42 : decode cX4_init 42 = .ok (.iconst 1, 1) := by decide +kernel
theorem dX4_init_43 : decode cX4_init 43 = .ok (.invokevirtual 18, 3) := by decide +kernel
theorem dX4_init_46 : decode cX4_init 46 = .ok (.aload_n 0, 1) := by decide +kernel
theorem dX4_init_47 : decode cX4_init 47 = .ok (.bipush 50, 2) := by decide +kernel
theorem dX4_init_49 : decode cX4_init 49 = .ok (.anewarray 25, 3) := by decide +kernel
theorem dX4_init_52 : decode cX4_init 52 = .ok (.putfield 27, 3) := by decide +kernel
theorem dX4_init_55 : decode cX4_init 55 = .ok (.aload_n 0, 1) := by decide +kernel
theorem dX4_init_56 : decode cX4_init 56 = .ok (.iconst 0, 1) := by decide +kernel
theorem dX4_init_57 : decode cX4_init 57 = .ok (.putfield 31, 3) := by decide +kernel
theorem dX4_init_60 : decode cX4_init 60 = .ok (.aload_n 0, 1) := by decide +kernel
theorem dX4_init_61 : decode cX4_init 61 = .ok (.new 9, 3) := by decide +kernel
theorem dX4_init_64 : decode cX4_init 64 = .ok (.dup, 1) := by decide +kernel
theorem dX4_init_65 : decode cX4_init 65 = .ok (.bipush 64, 2) := by decide +kernel
theorem dX4_init_67 : decode cX4_init 67 = .ok (.invokespecial 11, 3) := by decide +kernel
theorem dX4_init_70 : decode cX4_init 70 = .ok (.putfield 35, 3) := by decide +kernel
theorem dX4_init_73 : decode cX4_init 73 = .ok (.aload_n 0, 1) := by decide +kernel
theorem dX4_init_74 : decode cX4_init 74 = .ok (.new 9, 3) := by decide +kernel
theorem dX4_init_77 : decode cX4_init 77 = .ok (.dup, 1) := by decide +kernel
theorem dX4_init_78 : decode cX4_init 78 = .ok (.bipush 64, 2) := by decide +kernel
theorem dX4_init_80 : decode cX4_init 80 = .ok (.invokespecial 11, 3) := by decide +kernel
theorem dX4_init_83 : decode cX4_init 83 = .ok (.putfield 38, 3) := by decide +kernel
theorem dX4_init_86 : decode cX4_init 86 = .ok (.aload_n 0, 1) := by decide +kernel
theorem dX4_init_87 : decode cX4_init 87 = .ok (.new 9, 3) := by decide +kernel
theorem dX4_init_90 : decode cX4_init 90 = .ok (.dup, 1) := by decide +kernel
theorem dX4_init_91 : decode cX4_init 91 = .ok (.bipush 64, 2) := by decide +kernel
theorem dX4_init_93 : decode cX4_init 93 = .ok (.invokespecial 11, 3) := by decide +kernel
theorem dX4_init_96 : decode cX4_init 96 = .ok (.putfield 41, 3) := by decide +kernel
theorem dX4_init_99 : decode cX4_init 99 = .ok (.aload_n 0, 1) := by decide +kernel
theorem dX4_init_100 : decode cX4_init 100 = .ok (.new 9, 3) := by decide +kernel
theorem dX4_init_103 : decode cX4_init 103 = .ok (.dup, 1) := by decide +kernel
theorem dX4_init_104 : decode cX4_init 104 = .ok (.bipush 64, 2) := by decide +kernel
theorem dX4_init_106 : decode cX4_init 106 = .ok (.invokespecial 11, 3) := by decide +kernel
theorem dX4_init_109 : decode cX4_init 109 = .ok (.putfield 44, 3) := by decide +kernel
theorem dX4_init_112 : decode cX4_init 112 = .ok (.aload_n 0, 1) := by decide +kernel
theorem dX4_init_113 : decode cX4_init 113 = .ok (.new 9, 3) := by decide +kernel
theorem dX4_init_116 : decode cX4_init 116 = .ok (.dup, 1) := by decide +kernel
theorem dX4_init_117 : decode cX4_init 117 = .ok (.bipush 64, 2) := by decide +kernel
theorem dX4_init_119 : decode cX4_init 119 = .ok (.invokespecial 11, 3) := by decide +kernel
theorem dX4_init_122 : decode cX4_init 122 = .ok (.putfield 47, 3) := by decide +kernel
theorem dX4_init_125 : decode cX4_init 125 = .ok (.aload_n 0, 1) := by decide +kernel
theorem dX4_init_126 : decode cX4_init 126 = .ok (.new 50, 3) := by decide +kernel
theorem dX4_init_129 : decode cX4_init 129 = .ok (.dup, 1) := by decide +kernel
theorem dX4_init_130 : decode cX4_init 130 = .ok (.invokespecial 52, 3) := by decide +kernel
theorem dX4_init_133 : decode cX4_init 133 = .ok (.putfield 53, 3) := by decide +kernel
theorem dX4_init_136 : decode cX4_init 136 = .ok (.return_, 1) := by decide +kernel
set_option maxRecDepth 20000 in
theorem ggX4_ratio_X2_reduced : GoodIn wsX4_ratio wsX2_reduced := goodIn_r _ [8, 9] (by decide +kernel) (by decide +kernel)
set_option maxRecDepth 20000 in
theorem gX4_ratio_X2_reduced : GoodIn wsX4_ratio (va_wsS RX4 64 yX2_reduced wsX2_reduced) := goodIn_app (goodIn_of _ (by decide +kernel)) ggX4_ratio_X2_reduced
set_option maxRecDepth 20000 in
theorem ggX4_ratio_X3_coefficient : GoodIn wsX4_ratio wsX3_coefficient := goodIn_r _ [14, 15, 31, 32] (by decide +kernel) (by decide +kernel)
set_option maxRecDepth 20000 in
theorem gX4_ratio_X3_coefficient : GoodIn wsX4_ratio (wsV RX4 70 RX3 yX3_coefficient wsX3_coefficient) := goodIn_app (goodIn_of _ (by decide +kernel)) ggX4_ratio_X3_coefficient
set_option maxRecDepth 20000 in
theorem ggX4_ratio_X3_put : GoodIn wsX4_ratio wsX3_put := goodIn_r _ [19, 15, 20, 31, 32] (by decide +kernel) (by decide +kernel)
set_option maxRecDepth 20000 in
theorem gX4_ratio_X3_put : GoodIn wsX4_ratio (wsV RX4 18 RX3 yX3_put wsX3_put) := goodIn_app (goodIn_of _ (by decide +kernel)) ggX4_ratio_X3_put
theorem dX4_ratio_0 : decode cX4_ratio 0 = .ok (.iload_n 2, 1) := by decide +kernel
theorem dX4_ratio_1 : decode cX4_ratio 1 = .ok (.ifCond .lt 8, 3) := by decide +kernel
theorem dX4_ratio_4 : decode cX4_ratio 4 = .ok (.iload_n 2, 1) := by decide +kernel
theorem dX4_ratio_5 : decode cX4_ratio 5 = .ok (.iconst 3, 1) := by decide +kernel
theorem dX4_ratio_6 : decode cX4_ratio 6 = .ok (.if_icmp .le 13, 3) := by decide +kernel
theorem dX4_ratio_9 : decode cX4_ratio 9 = .ok (.new 57, 3) := by decide +kernel
theorem dX4_ratio_12 : decode cX4_ratio 12 = .ok (.dup, 1) := by decide +kernel
theorem dX4_ratio_13 : decode cX4_ratio 13 = .ok (.ldc 59, 2) := by decide +kernel
theorem dX4_ratio_15 : decode cX4_ratio 15 = .ok (.invokespecial 61, 3) := by decide +kernel
theorem dX4_ratio_18 : decode cX4_ratio 18 = .ok (.athrow, 1) := by decide +kernel
theorem dX4_ratio_19 : decode cX4_ratio 19 = .ok (.iload_n 1, 1) := by decide +kernel
theorem dX4_ratio_20 : decode cX4_ratio 20 = .ok (.ifCond .eq 10, 3) := by decide +kernel
theorem dX4_ratio_23 : decode cX4_ratio 23 = .ok (.aload_n 0, 1) := by decide +kernel
theorem dX4_ratio_24 : decode cX4_ratio 24 = .ok (.getfield 14, 3) := by decide +kernel
theorem dX4_ratio_27 : decode cX4_ratio 27 = .ok (.goto 7, 3) := by decide +kernel
theorem dX4_ratio_30 : decode cX4_ratio 30 = .ok (.aload_n 0, 1) := by decide +kernel
theorem dX4_ratio_31 : decode cX4_ratio 31 = .ok (.getfield 22, 3) := by decide +kernel
theorem dX4_ratio_34 : decode cX4_ratio 34 = .ok (.astore 5, 2) := by decide +kernel
theorem dX4_ratio_36 : decode cX4_ratio 36 = .ok (.lload_n 3, 1) := by decide +kernel
theorem dX4_ratio_37 : decode cX4_ratio 37 = .ok (.invokestatic 64, 3) := by decide +kernel
theorem dX4_ratio_40 : decode cX4_ratio 40 = .ok (.istore 6, 2) := by decide +kernel
theorem dX4_ratio_42 : decode cX4_ratio 42 = .ok (.aload 5, 2) := by decide +kernel
theorem dX4_ratio_44 : decode cX4_ratio 44 = .ok (.iload_n 2, 1) := by decide +kernel
theorem dX4_ratio_45 : decode cX4_ratio 45 = .ok (.invokevirtual 70, 3) := by decide +kernel
theorem dX4_ratio_48 : decode cX4_ratio 48 = .ok (.iload 6, 2) := by decide +kernel
theorem dX4_ratio_50 : decode cX4_ratio 50 = .ok (.if_icmp .eq 7, 3) := by decide +kernel
theorem dX4_ratio_53 : decode cX4_ratio 53 = .ok (.iconst 1, 1) := by decide +kernel
theorem dX4_ratio_54 : decode cX4_ratio 54 = .ok (.goto 4, 3) := by decide +kernel
theorem dX4_ratio_57 : decode cX4_ratio 57 = .ok (.iconst 0, 1) := by decide +kernel
theorem dX4_ratio_58 : decode cX4_ratio 58 = .ok (.istore 7, 2) := by decide +kernel
theorem dX4_ratio_60 : decode cX4_ratio 60 = .ok (.aload 5, 2) := by decide +kernel
theorem dX4_ratio_62 : decode cX4_ratio 62 = .ok (.iload_n 2, 1) := by decide +kernel
theorem dX4_ratio_63 : decode cX4_ratio 63 = .ok (.iload 6, 2) := by decide +kernel
theorem dX4_ratio_65 : decode cX4_ratio 65 = .ok (.invokevirtual 18, 3) := by decide +kernel
theorem dX4_ratio_68 : decode cX4_ratio 68 = .ok (.iload 7, 2) := by decide +kernel
theorem dX4_ratio_70 : decode cX4_ratio 70 = .ok (.ireturn, 1) := by decide +kernel
set_option maxRecDepth 20000 in
theorem ggX4_number_X3_clear : GoodIn wsX4_number wsX3_clear := goodIn_r _ [7, 8, 9, 10, 11, 6, 12, 13, 117, 118] (by decide +kernel) (by decide +kernel)
set_option maxRecDepth 20000 in
theorem gX4_number_X3_clear : GoodIn wsX4_number (wsV RX4 74 RX3 yX3_clear wsX3_clear) := goodIn_app (goodIn_of _ (by decide +kernel)) ggX4_number_X3_clear
set_option maxRecDepth 20000 in
theorem ggX4_number_X2_reduced : GoodIn wsX4_number wsX2_reduced := goodIn_r _ [17, 18] (by decide +kernel) (by decide +kernel)
set_option maxRecDepth 20000 in
theorem gX4_number_X2_reduced : GoodIn wsX4_number (va_wsS RX4 64 yX2_reduced wsX2_reduced) := goodIn_app (goodIn_of _ (by decide +kernel)) ggX4_number_X2_reduced
set_option maxRecDepth 20000 in
theorem ggX4_number_X3_put : GoodIn wsX4_number wsX3_put := goodIn_r _ [12, 13, 8, 117, 118] (by decide +kernel) (by decide +kernel)
set_option maxRecDepth 20000 in
theorem gX4_number_X3_put : GoodIn wsX4_number (wsV RX4 18 RX3 yX3_put wsX3_put) := goodIn_app (goodIn_of _ (by decide +kernel)) ggX4_number_X3_put
set_option maxRecDepth 20000 in
theorem ggX4_number_X4_keepResult : GoodIn wsX4_number wsX4_keepResult := goodIn_ca (goodIn_r _ [24, 25, 26, 1, 27, 2, 28, 29, 30, 31, 32, 33, 34, 35, 23, 36, 37, 38, 39, 40, 41, 42, 43, 44, 45, 46, 6, 47, 8, 48, 4, 5, 7, 9, 10, 11, 12, 13, 49, 50, 51, 52, 53, 54, 55, 56, 57, 58, 59, 60, 61, 62, 63, 64, 65, 66, 67, 68, 69, 70, 16, 71, 72, 15, 17, 18, 73, 74, 75, 76, 77, 78, 79, 80, 81, 82, 83, 84, 85, 86, 87, 88, 89, 90, 91, 92, 93, 94, 95, 96, 97, 98, 99, 100, 101, 102, 103, 104, 105, 106, 107, 108, 109, 110, 111, 112, 113, 114, 115, 116, 117, 118, 119, 120] (by decide +kernel) (by decide +kernel)) (goodIn_sub (fun _ h => List.mem_cons_of_mem _ (List.mem_append_right _ h)) (by decide +kernel))
set_option maxRecDepth 20000 in
theorem gX4_number_X4_keepResult : GoodIn wsX4_number (wsV RX4 77 RX4 yX4_keepResult wsX4_keepResult) := goodIn_app (goodIn_of _ (by decide +kernel)) ggX4_number_X4_keepResult
theorem dX4_number_0 : decode cX4_number 0 = .ok (.aload_n 0, 1) := by decide +kernel
theorem dX4_number_1 : decode cX4_number 1 = .ok (.getfield 35, 3) := by decide +kernel
theorem dX4_number_4 : decode cX4_number 4 = .ok (.invokevirtual 74, 3) := by decide +kernel
theorem dX4_number_7 : decode cX4_number 7 = .ok (.aload_n 0, 1) := by decide +kernel
theorem dX4_number_8 : decode cX4_number 8 = .ok (.getfield 35, 3) := by decide +kernel
theorem dX4_number_11 : decode cX4_number 11 = .ok (.iconst 0, 1) := by decide +kernel
theorem dX4_number_12 : decode cX4_number 12 = .ok (.lload_n 1, 1) := by decide +kernel
theorem dX4_number_13 : decode cX4_number 13 = .ok (.invokestatic 64, 3) := by decide +kernel
theorem dX4_number_16 : decode cX4_number 16 = .ok (.invokevirtual 18, 3) := by decide +kernel
theorem dX4_number_19 : decode cX4_number 19 = .ok (.aload_n 0, 1) := by decide +kernel
theorem dX4_number_20 : decode cX4_number 20 = .ok (.getfield 38, 3) := by decide +kernel
theorem dX4_number_23 : decode cX4_number 23 = .ok (.invokevirtual 74, 3) := by decide +kernel
theorem dX4_number_26 : decode cX4_number 26 = .ok (.aload_n 0, 1) := by decide +kernel
theorem dX4_number_27 : decode cX4_number 27 = .ok (.getfield 38, 3) := by decide +kernel
theorem dX4_number_30 : decode cX4_number 30 = .ok (.iconst 0, 1) := by decide +kernel
theorem dX4_number_31 : decode cX4_number 31 = .ok (.iconst 1, 1) := by decide +kernel
theorem dX4_number_32 : decode cX4_number 32 = .ok (.invokevirtual 18, 3) := by decide +kernel
theorem dX4_number_35 : decode cX4_number 35 = .ok (.aload_n 0, 1) := by decide +kernel
theorem dX4_number_36 : decode cX4_number 36 = .ok (.invokevirtual 77, 3) := by decide +kernel
theorem dX4_number_39 : decode cX4_number 39 = .ok (.ireturn, 1) := by decide +kernel
set_option maxRecDepth 20000 in
theorem ggX4_letter_X3_clear : GoodIn wsX4_letter wsX3_clear := goodIn_r _ [7, 8, 9, 10, 11, 6, 12, 13, 116, 117] (by decide +kernel) (by decide +kernel)
set_option maxRecDepth 20000 in
theorem gX4_letter_X3_clear : GoodIn wsX4_letter (wsV RX4 74 RX3 yX3_clear wsX3_clear) := goodIn_app (goodIn_of _ (by decide +kernel)) ggX4_letter_X3_clear
set_option maxRecDepth 20000 in
theorem ggX4_letter_X3_put : GoodIn wsX4_letter wsX3_put := goodIn_r _ [12, 13, 8, 116, 117] (by decide +kernel) (by decide +kernel)
set_option maxRecDepth 20000 in
theorem gX4_letter_X3_put : GoodIn wsX4_letter (wsV RX4 18 RX3 yX3_put wsX3_put) := goodIn_app (goodIn_of _ (by decide +kernel)) ggX4_letter_X3_put
set_option maxRecDepth 20000 in
theorem ggX4_letter_X4_keepResult : GoodIn wsX4_letter wsX4_keepResult := goodIn_ca (goodIn_r _ [19, 20, 21, 1, 22, 2, 23, 24, 25, 26, 27, 28, 29, 30, 18, 31, 32, 33, 34, 35, 36, 37, 38, 39, 40, 41, 6, 42, 8, 43, 4, 5, 7, 9, 10, 11, 12, 13, 44, 45, 46, 47, 48, 49, 50, 51, 52, 53, 54, 55, 56, 57, 58, 59, 60, 61, 62, 63, 64, 65, 66, 67, 68, 69, 70, 71, 72, 73, 74, 75, 76, 77, 78, 79, 80, 81, 82, 83, 84, 85, 86, 87, 88, 89, 90, 91, 92, 93, 94, 95, 96, 97, 98, 99, 100, 101, 102, 103, 104, 105, 106, 107, 108, 109, 110, 111, 112, 113, 114, 115, 116, 117, 118, 119] (by decide +kernel) (by decide +kernel)) (goodIn_sub (fun _ h => List.mem_cons_of_mem _ (List.mem_append_right _ h)) (by decide +kernel))
set_option maxRecDepth 20000 in
theorem gX4_letter_X4_keepResult : GoodIn wsX4_letter (wsV RX4 77 RX4 yX4_keepResult wsX4_keepResult) := goodIn_app (goodIn_of _ (by decide +kernel)) ggX4_letter_X4_keepResult
theorem dX4_letter_0 : decode cX4_letter 0 = .ok (.aload_n 0, 1) := by decide +kernel
theorem dX4_letter_1 : decode cX4_letter 1 = .ok (.getfield 35, 3) := by decide +kernel
theorem dX4_letter_4 : decode cX4_letter 4 = .ok (.invokevirtual 74, 3) := by decide +kernel
theorem dX4_letter_7 : decode cX4_letter 7 = .ok (.aload_n 0, 1) := by decide +kernel
theorem dX4_letter_8 : decode cX4_letter 8 = .ok (.getfield 35, 3) := by decide +kernel
theorem dX4_letter_11 : decode cX4_letter 11 = .ok (.iconst 1, 1) := by decide +kernel
theorem dX4_letter_12 : decode cX4_letter 12 = .ok (.iconst 1, 1) := by decide +kernel
theorem dX4_letter_13 : decode cX4_letter 13 = .ok (.invokevirtual 18, 3) := by decide +kernel
theorem dX4_letter_16 : decode cX4_letter 16 = .ok (.aload_n 0, 1) := by decide +kernel
theorem dX4_letter_17 : decode cX4_letter 17 = .ok (.getfield 38, 3) := by decide +kernel
theorem dX4_letter_20 : decode cX4_letter 20 = .ok (.invokevirtual 74, 3) := by decide +kernel
theorem dX4_letter_23 : decode cX4_letter 23 = .ok (.aload_n 0, 1) := by decide +kernel
theorem dX4_letter_24 : decode cX4_letter 24 = .ok (.getfield 38, 3) := by decide +kernel
theorem dX4_letter_27 : decode cX4_letter 27 = .ok (.iconst 0, 1) := by decide +kernel
theorem dX4_letter_28 : decode cX4_letter 28 = .ok (.iconst 1, 1) := by decide +kernel
theorem dX4_letter_29 : decode cX4_letter 29 = .ok (.invokevirtual 18, 3) := by decide +kernel
theorem dX4_letter_32 : decode cX4_letter 32 = .ok (.aload_n 0, 1) := by decide +kernel
theorem dX4_letter_33 : decode cX4_letter 33 = .ok (.invokevirtual 77, 3) := by decide +kernel
theorem dX4_letter_36 : decode cX4_letter 36 = .ok (.ireturn, 1) := by decide +kernel
set_option maxRecDepth 20000 in
theorem ggX4_add_X4_known : GoodIn wsX4_add wsX4_known := goodIn_ca (goodIn_r _ [10, 11, 12, 13, 120, 121, 122, 123, 124, 125, 126, 127, 128, 129] (by decide +kernel) (by decide +kernel)) (goodIn_sub (fun _ h => List.mem_cons_of_mem _ (List.mem_append_left _ (List.mem_append_right _ h))) (by decide +kernel))
set_option maxRecDepth 20000 in
theorem gX4_add_X4_known : GoodIn wsX4_add (wsV RX4 81 RX4 yX4_known wsX4_known) := goodIn_app (goodIn_of _ (by decide +kernel)) ggX4_add_X4_known
set_option maxRecDepth 20000 in
theorem ggX4_add_X3_setProduct : GoodIn wsX4_add wsX3_setProduct := goodIn_r _ [18, 19, 20, 21, 22, 23, 24, 25, 26, 27, 28, 29, 17, 30, 31, 32, 33, 34, 35, 36, 37, 38, 39, 40, 41, 42, 43, 44, 132, 133] (by decide +kernel) (by decide +kernel)
set_option maxRecDepth 20000 in
theorem gX4_add_X3_setProduct : GoodIn wsX4_add (wsV RX4 87 RX3 yX3_setProduct wsX3_setProduct) := goodIn_app (goodIn_of _ (by decide +kernel)) ggX4_add_X3_setProduct
set_option maxRecDepth 20000 in
theorem ggX4_add_X3_gather : GoodIn wsX4_add wsX3_gather := goodIn_r _ [48, 19, 36, 37, 38, 17, 39, 35, 40, 41, 42, 43, 44, 31, 32, 33, 34, 132, 133] (by decide +kernel) (by decide +kernel)
set_option maxRecDepth 20000 in
theorem gX4_add_X3_gather : GoodIn wsX4_add (wsV RX4 91 RX3 yX3_gather wsX3_gather) := goodIn_app (goodIn_of _ (by decide +kernel)) ggX4_add_X3_gather
set_option maxRecDepth 20000 in
theorem ggX4_add_X4_keepResult : GoodIn wsX4_add wsX4_keepResult := goodIn_ca (goodIn_r _ [52, 53, 54, 1, 55, 5, 56, 13, 57, 58, 59, 60, 61, 62, 9, 63, 64, 65, 66, 67, 4, 68, 69, 70, 71, 72, 17, 73, 19, 27, 28, 29, 30, 31, 32, 33, 34, 35, 36, 37, 38, 39, 74, 75, 76, 77, 78, 79, 80, 81, 82, 83, 84, 85, 86, 87, 88, 89, 90, 91, 42, 92, 93, 41, 43, 44, 94, 95, 96, 97, 46, 47, 48, 40, 98, 99, 100, 101, 102, 103, 104, 105, 106, 107, 108, 109, 110, 111, 112, 113, 114, 115, 116, 117, 24, 25, 22, 26, 118, 119, 120, 121, 122, 123, 124, 125, 126, 127, 128, 129, 132, 133, 130, 131] (by decide +kernel) (by decide +kernel)) (goodIn_sub (fun _ h => List.mem_cons_of_mem _ (List.mem_append_right _ h)) (by decide +kernel))
set_option maxRecDepth 20000 in
theorem gX4_add_X4_keepResult : GoodIn wsX4_add (wsV RX4 77 RX4 yX4_keepResult wsX4_keepResult) := goodIn_app (goodIn_of _ (by decide +kernel)) ggX4_add_X4_keepResult
theorem dX4_add_0 : decode cX4_add 0 = .ok (.aload_n 0, 1) := by decide +kernel
theorem dX4_add_1 : decode cX4_add 1 = .ok (.iload_n 1, 1) := by decide +kernel
theorem dX4_add_2 : decode cX4_add 2 = .ok (.invokevirtual 81, 3) := by decide +kernel
theorem dX4_add_5 : decode cX4_add 5 = .ok (.astore_n 3, 1) := by decide +kernel
theorem dX4_add_6 : decode cX4_add 6 = .ok (.aload_n 0, 1) := by decide +kernel
theorem dX4_add_7 : decode cX4_add 7 = .ok (.iload_n 2, 1) := by decide +kernel
theorem dX4_add_8 : decode cX4_add 8 = .ok (.invokevirtual 81, 3) := by decide +kernel
theorem dX4_add_11 : decode cX4_add 11 = .ok (.astore 4, 2) := by decide +kernel
theorem dX4_add_13 : decode cX4_add 13 = .ok (.aload_n 0, 1) := by decide +kernel
theorem dX4_add_14 : decode cX4_add 14 = .ok (.getfield 35, 3) := by decide +kernel
theorem dX4_add_17 : decode cX4_add 17 = .ok (.aload_n 3, 1) := by decide +kernel
theorem dX4_add_18 : decode cX4_add 18 = .ok (.getfield 85, 3) := by decide +kernel
theorem dX4_add_21 : decode cX4_add 21 = .ok (.aload 4, 2) := by decide +kernel
theorem dX4_add_23 : decode cX4_add 23 = .ok (.getfield 86, 3) := by decide +kernel
theorem dX4_add_26 : decode cX4_add 26 = .ok (.invokevirtual 87, 3) := by decide +kernel
theorem dX4_add_29 : decode cX4_add 29 = .ok (.aload_n 0, 1) := by decide +kernel
theorem dX4_add_30 : decode cX4_add 30 = .ok (.getfield 41, 3) := by decide +kernel
theorem dX4_add_33 : decode cX4_add 33 = .ok (.aload 4, 2) := by decide +kernel
theorem dX4_add_35 : decode cX4_add 35 = .ok (.getfield 85, 3) := by decide +kernel
theorem dX4_add_38 : decode cX4_add 38 = .ok (.aload_n 3, 1) := by decide +kernel
theorem dX4_add_39 : decode cX4_add 39 = .ok (.getfield 86, 3) := by decide +kernel
theorem dX4_add_42 : decode cX4_add 42 = .ok (.invokevirtual 87, 3) := by decide +kernel
theorem dX4_add_45 : decode cX4_add 45 = .ok (.aload_n 0, 1) := by decide +kernel
theorem dX4_add_46 : decode cX4_add 46 = .ok (.getfield 35, 3) := by decide +kernel
theorem dX4_add_49 : decode cX4_add 49 = .ok (.aload_n 0, 1) := by decide +kernel
theorem dX4_add_50 : decode cX4_add 50 = .ok (.getfield 41, 3) := by decide +kernel
theorem dX4_add_53 : decode cX4_add 53 = .ok (.iconst 1, 1) := by decide +kernel
theorem dX4_add_54 : decode cX4_add 54 = .ok (.iconst 0, 1) := by decide +kernel
theorem dX4_add_55 : decode cX4_add 55 = .ok (.invokevirtual 91, 3) := by decide +kernel
theorem dX4_add_58 : decode cX4_add 58 = .ok (.aload_n 0, 1) := by decide +kernel
theorem dX4_add_59 : decode cX4_add 59 = .ok (.getfield 38, 3) := by decide +kernel
theorem dX4_add_62 : decode cX4_add 62 = .ok (.aload_n 3, 1) := by decide +kernel
theorem dX4_add_63 : decode cX4_add 63 = .ok (.getfield 86, 3) := by decide +kernel
theorem dX4_add_66 : decode cX4_add 66 = .ok (.aload 4, 2) := by decide +kernel
theorem dX4_add_68 : decode cX4_add 68 = .ok (.getfield 86, 3) := by decide +kernel
theorem dX4_add_71 : decode cX4_add 71 = .ok (.invokevirtual 87, 3) := by decide +kernel
theorem dX4_add_74 : decode cX4_add 74 = .ok (.aload_n 0, 1) := by decide +kernel
theorem dX4_add_75 : decode cX4_add 75 = .ok (.invokevirtual 77, 3) := by decide +kernel
theorem dX4_add_78 : decode cX4_add 78 = .ok (.ireturn, 1) := by decide +kernel
set_option maxRecDepth 20000 in
theorem ggX4_times_X4_known : GoodIn wsX4_times wsX4_known := goodIn_ca (goodIn_r _ [9, 10, 11, 12, 119, 120, 121, 122, 123, 124, 125, 126, 127, 128] (by decide +kernel) (by decide +kernel)) (goodIn_sub (fun _ h => List.mem_cons_of_mem _ (List.mem_append_left _ (List.mem_append_right _ h))) (by decide +kernel))
set_option maxRecDepth 20000 in
theorem gX4_times_X4_known : GoodIn wsX4_times (wsV RX4 81 RX4 yX4_known wsX4_known) := goodIn_app (goodIn_of _ (by decide +kernel)) ggX4_times_X4_known
set_option maxRecDepth 20000 in
theorem ggX4_times_X3_setProduct : GoodIn wsX4_times wsX3_setProduct := goodIn_r _ [17, 18, 19, 20, 21, 22, 23, 24, 25, 26, 27, 28, 16, 29, 30, 31, 32, 33, 34, 35, 36, 37, 38, 39, 40, 41, 42, 43, 131, 132] (by decide +kernel) (by decide +kernel)
set_option maxRecDepth 20000 in
theorem gX4_times_X3_setProduct : GoodIn wsX4_times (wsV RX4 87 RX3 yX3_setProduct wsX3_setProduct) := goodIn_app (goodIn_of _ (by decide +kernel)) ggX4_times_X3_setProduct
set_option maxRecDepth 20000 in
theorem ggX4_times_X4_keepResult : GoodIn wsX4_times wsX4_keepResult := goodIn_ca (goodIn_r _ [47, 48, 49, 1, 50, 3, 51, 12, 52, 53, 54, 55, 56, 57, 8, 58, 59, 60, 61, 62, 63, 64, 65, 66, 67, 68, 16, 69, 18, 26, 27, 28, 29, 30, 31, 32, 33, 34, 35, 36, 37, 38, 70, 71, 72, 73, 74, 75, 76, 77, 78, 79, 80, 81, 82, 83, 84, 85, 86, 87, 41, 88, 89, 40, 42, 43, 90, 91, 92, 93, 94, 95, 96, 39, 97, 98, 99, 100, 101, 102, 103, 104, 105, 106, 107, 108, 109, 110, 111, 112, 113, 114, 115, 116, 23, 24, 21, 25, 117, 118, 119, 120, 121, 122, 123, 124, 125, 126, 127, 128, 131, 132, 129, 130] (by decide +kernel) (by decide +kernel)) (goodIn_sub (fun _ h => List.mem_cons_of_mem _ (List.mem_append_right _ h)) (by decide +kernel))
set_option maxRecDepth 20000 in
theorem gX4_times_X4_keepResult : GoodIn wsX4_times (wsV RX4 77 RX4 yX4_keepResult wsX4_keepResult) := goodIn_app (goodIn_of _ (by decide +kernel)) ggX4_times_X4_keepResult
theorem dX4_times_0 : decode cX4_times 0 = .ok (.aload_n 0, 1) := by decide +kernel
theorem dX4_times_1 : decode cX4_times 1 = .ok (.iload_n 1, 1) := by decide +kernel
theorem dX4_times_2 : decode cX4_times 2 = .ok (.invokevirtual 81, 3) := by decide +kernel
theorem dX4_times_5 : decode cX4_times 5 = .ok (.astore_n 3, 1) := by decide +kernel
theorem dX4_times_6 : decode cX4_times 6 = .ok (.aload_n 0, 1) := by decide +kernel
theorem dX4_times_7 : decode cX4_times 7 = .ok (.iload_n 2, 1) := by decide +kernel
theorem dX4_times_8 : decode cX4_times 8 = .ok (.invokevirtual 81, 3) := by decide +kernel
theorem dX4_times_11 : decode cX4_times 11 = .ok (.astore 4, 2) := by decide +kernel
theorem dX4_times_13 : decode cX4_times 13 = .ok (.aload_n 0, 1) := by decide +kernel
theorem dX4_times_14 : decode cX4_times 14 = .ok (.getfield 35, 3) := by decide +kernel
theorem dX4_times_17 : decode cX4_times 17 = .ok (.aload_n 3, 1) := by decide +kernel
theorem dX4_times_18 : decode cX4_times 18 = .ok (.getfield 85, 3) := by decide +kernel
theorem dX4_times_21 : decode cX4_times 21 = .ok (.aload 4, 2) := by decide +kernel
theorem dX4_times_23 : decode cX4_times 23 = .ok (.getfield 85, 3) := by decide +kernel
theorem dX4_times_26 : decode cX4_times 26 = .ok (.invokevirtual 87, 3) := by decide +kernel
theorem dX4_times_29 : decode cX4_times 29 = .ok (.aload_n 0, 1) := by decide +kernel
theorem dX4_times_30 : decode cX4_times 30 = .ok (.getfield 38, 3) := by decide +kernel
theorem dX4_times_33 : decode cX4_times 33 = .ok (.aload_n 3, 1) := by decide +kernel
theorem dX4_times_34 : decode cX4_times 34 = .ok (.getfield 86, 3) := by decide +kernel
theorem dX4_times_37 : decode cX4_times 37 = .ok (.aload 4, 2) := by decide +kernel
theorem dX4_times_39 : decode cX4_times 39 = .ok (.getfield 86, 3) := by decide +kernel
theorem dX4_times_42 : decode cX4_times 42 = .ok (.invokevirtual 87, 3) := by decide +kernel
theorem dX4_times_45 : decode cX4_times 45 = .ok (.aload_n 0, 1) := by decide +kernel
theorem dX4_times_46 : decode cX4_times 46 = .ok (.invokevirtual 77, 3) := by decide +kernel
theorem dX4_times_49 : decode cX4_times 49 = .ok (.ireturn, 1) := by decide +kernel
set_option maxRecDepth 20000 in
theorem ggX4_over_X4_known : GoodIn wsX4_over wsX4_known := goodIn_ca (goodIn_r _ [11, 12, 13, 14, 123, 124, 125, 126, 127, 128, 129, 130, 131, 132] (by decide +kernel) (by decide +kernel)) (goodIn_sub (fun _ h => List.mem_cons_of_mem _ (List.mem_append_left _ (List.mem_append_right _ h))) (by decide +kernel))
set_option maxRecDepth 20000 in
theorem gX4_over_X4_known : GoodIn wsX4_over (wsV RX4 81 RX4 yX4_known wsX4_known) := goodIn_app (goodIn_of _ (by decide +kernel)) ggX4_over_X4_known
set_option maxRecDepth 20000 in
theorem ggX4_over_X3_isZero : GoodIn wsX4_over wsX3_isZero := goodIn_r _ [19, 20, 133, 134] (by decide +kernel) (by decide +kernel)
set_option maxRecDepth 20000 in
theorem gX4_over_X3_isZero : GoodIn wsX4_over (wsV RX4 95 RX3 yX3_isZero wsX3_isZero) := goodIn_app (goodIn_of _ (by decide +kernel)) ggX4_over_X3_isZero
set_option maxRecDepth 20000 in
theorem ggX4_over_X3_setProduct : GoodIn wsX4_over wsX3_setProduct := goodIn_r _ [24, 20, 25, 26, 27, 28, 29, 30, 31, 32, 33, 34, 18, 35, 36, 37, 38, 39, 40, 41, 42, 43, 44, 45, 46, 47, 48, 49, 133, 134] (by decide +kernel) (by decide +kernel)
set_option maxRecDepth 20000 in
theorem gX4_over_X3_setProduct : GoodIn wsX4_over (wsV RX4 87 RX3 yX3_setProduct wsX3_setProduct) := goodIn_app (goodIn_of _ (by decide +kernel)) ggX4_over_X3_setProduct
set_option maxRecDepth 20000 in
theorem ggX4_over_X4_keepResult : GoodIn wsX4_over wsX4_keepResult := goodIn_ca (goodIn_r _ [53, 54, 55, 4, 56, 6, 57, 14, 58, 59, 60, 61, 62, 63, 10, 64, 65, 66, 67, 68, 69, 70, 71, 72, 73, 74, 18, 75, 20, 32, 33, 34, 35, 36, 37, 38, 39, 40, 41, 42, 43, 44, 76, 77, 78, 15, 16, 17, 19, 79, 80, 81, 82, 83, 84, 85, 86, 87, 88, 89, 47, 90, 91, 46, 48, 49, 92, 93, 94, 95, 96, 97, 98, 45, 99, 100, 101, 102, 103, 104, 105, 106, 107, 108, 109, 110, 111, 112, 113, 114, 115, 116, 117, 118, 29, 30, 27, 31, 119, 120, 123, 124, 125, 126, 127, 128, 129, 130, 131, 132, 133, 134, 121, 122] (by decide +kernel) (by decide +kernel)) (goodIn_sub (fun _ h => List.mem_cons_of_mem _ (List.mem_append_right _ h)) (by decide +kernel))
set_option maxRecDepth 20000 in
theorem gX4_over_X4_keepResult : GoodIn wsX4_over (wsV RX4 77 RX4 yX4_keepResult wsX4_keepResult) := goodIn_app (goodIn_of _ (by decide +kernel)) ggX4_over_X4_keepResult
theorem dX4_over_0 : decode cX4_over 0 = .ok (.aload_n 0, 1) := by decide +kernel
theorem dX4_over_1 : decode cX4_over 1 = .ok (.iload_n 1, 1) := by decide +kernel
theorem dX4_over_2 : decode cX4_over 2 = .ok (.invokevirtual 81, 3) := by decide +kernel
theorem dX4_over_5 : decode cX4_over 5 = .ok (.astore_n 3, 1) := by decide +kernel
theorem dX4_over_6 : decode cX4_over 6 = .ok (.aload_n 0, 1) := by decide +kernel
theorem dX4_over_7 : decode cX4_over 7 = .ok (.iload_n 2, 1) := by decide +kernel
theorem dX4_over_8 : decode cX4_over 8 = .ok (.invokevirtual 81, 3) := by decide +kernel
theorem dX4_over_11 : decode cX4_over 11 = .ok (.astore 4, 2) := by decide +kernel
theorem dX4_over_13 : decode cX4_over 13 = .ok (.aload 4, 2) := by decide +kernel
theorem dX4_over_15 : decode cX4_over 15 = .ok (.getfield 85, 3) := by decide +kernel
theorem dX4_over_18 : decode cX4_over 18 = .ok (.invokevirtual 95, 3) := by decide +kernel
theorem dX4_over_21 : decode cX4_over 21 = .ok (.ifCond .eq 13, 3) := by decide +kernel
theorem dX4_over_24 : decode cX4_over 24 = .ok (.new 99, 3) := by decide +kernel
theorem dX4_over_27 : decode cX4_over 27 = .ok (.dup, 1) := by decide +kernel
theorem dX4_over_28 : decode cX4_over 28 = .ok (.ldc 101, 2) := by decide +kernel
theorem dX4_over_30 : decode cX4_over 30 = .ok (.invokespecial 103, 3) := by decide +kernel
theorem dX4_over_33 : decode cX4_over 33 = .ok (.athrow, 1) := by decide +kernel
theorem dX4_over_34 : decode cX4_over 34 = .ok (.aload_n 0, 1) := by decide +kernel
theorem dX4_over_35 : decode cX4_over 35 = .ok (.getfield 35, 3) := by decide +kernel
theorem dX4_over_38 : decode cX4_over 38 = .ok (.aload_n 3, 1) := by decide +kernel
theorem dX4_over_39 : decode cX4_over 39 = .ok (.getfield 85, 3) := by decide +kernel
theorem dX4_over_42 : decode cX4_over 42 = .ok (.aload 4, 2) := by decide +kernel
theorem dX4_over_44 : decode cX4_over 44 = .ok (.getfield 86, 3) := by decide +kernel
theorem dX4_over_47 : decode cX4_over 47 = .ok (.invokevirtual 87, 3) := by decide +kernel
theorem dX4_over_50 : decode cX4_over 50 = .ok (.aload_n 0, 1) := by decide +kernel
theorem dX4_over_51 : decode cX4_over 51 = .ok (.getfield 38, 3) := by decide +kernel
theorem dX4_over_54 : decode cX4_over 54 = .ok (.aload_n 3, 1) := by decide +kernel
theorem dX4_over_55 : decode cX4_over 55 = .ok (.getfield 86, 3) := by decide +kernel
theorem dX4_over_58 : decode cX4_over 58 = .ok (.aload 4, 2) := by decide +kernel
theorem dX4_over_60 : decode cX4_over 60 = .ok (.getfield 85, 3) := by decide +kernel
theorem dX4_over_63 : decode cX4_over 63 = .ok (.invokevirtual 87, 3) := by decide +kernel
theorem dX4_over_66 : decode cX4_over 66 = .ok (.aload_n 0, 1) := by decide +kernel
theorem dX4_over_67 : decode cX4_over 67 = .ok (.invokevirtual 77, 3) := by decide +kernel
theorem dX4_over_70 : decode cX4_over 70 = .ok (.ireturn, 1) := by decide +kernel
set_option maxRecDepth 20000 in
theorem ggX4_moved_X4_known : GoodIn wsX4_moved wsX4_known := goodIn_ca (goodIn_r _ [9, 10, 11, 12, 116, 117, 118, 119, 120, 121, 122, 123, 124, 125] (by decide +kernel) (by decide +kernel)) (goodIn_sub (fun _ h => List.mem_cons_of_mem _ (List.mem_append_left _ (List.mem_append_right _ h))) (by decide +kernel))
set_option maxRecDepth 20000 in
theorem gX4_moved_X4_known : GoodIn wsX4_moved (wsV RX4 81 RX4 yX4_known wsX4_known) := goodIn_app (goodIn_of _ (by decide +kernel)) ggX4_moved_X4_known
set_option maxRecDepth 20000 in
theorem ggX4_moved_X3_copy : GoodIn wsX4_moved wsX3_copy := goodIn_r _ [17, 18, 19, 20, 21, 16, 22, 23, 24, 25, 26, 27, 28, 29, 30, 31, 128, 129] (by decide +kernel) (by decide +kernel)
set_option maxRecDepth 20000 in
theorem gX4_moved_X3_copy : GoodIn wsX4_moved (wsV RX4 104 RX3 yX3_copy wsX3_copy) := goodIn_app (goodIn_of _ (by decide +kernel)) ggX4_moved_X3_copy
set_option maxRecDepth 20000 in
theorem ggX4_moved_X3_moveByOne : GoodIn wsX4_moved wsX3_moveByOne := goodIn_r _ [35, 18, 28, 29, 30, 16, 31, 27, 36, 37, 38, 39, 40, 23, 24, 25, 26, 128, 129] (by decide +kernel) (by decide +kernel)
set_option maxRecDepth 20000 in
theorem gX4_moved_X3_moveByOne : GoodIn wsX4_moved (wsV RX4 108 RX3 yX3_moveByOne wsX3_moveByOne) := goodIn_app (goodIn_of _ (by decide +kernel)) ggX4_moved_X3_moveByOne
set_option maxRecDepth 20000 in
theorem ggX4_moved_X4_keepResult : GoodIn wsX4_moved wsX4_keepResult := goodIn_ca (goodIn_r _ [44, 45, 46, 1, 47, 3, 48, 12, 49, 50, 51, 52, 53, 54, 8, 55, 56, 57, 58, 59, 60, 61, 62, 13, 14, 15, 16, 17, 18, 19, 20, 21, 22, 23, 24, 25, 26, 27, 28, 29, 30, 31, 63, 64, 65, 66, 67, 68, 69, 70, 71, 72, 73, 74, 75, 76, 77, 78, 79, 80, 38, 81, 82, 37, 39, 40, 83, 84, 85, 86, 87, 88, 89, 36, 90, 91, 92, 93, 94, 95, 96, 97, 98, 99, 100, 101, 102, 103, 104, 105, 106, 107, 108, 109, 110, 111, 112, 113, 114, 115, 116, 117, 118, 119, 120, 121, 122, 123, 124, 125, 128, 129, 126, 127] (by decide +kernel) (by decide +kernel)) (goodIn_sub (fun _ h => List.mem_cons_of_mem _ (List.mem_append_right _ h)) (by decide +kernel))
set_option maxRecDepth 20000 in
theorem gX4_moved_X4_keepResult : GoodIn wsX4_moved (wsV RX4 77 RX4 yX4_keepResult wsX4_keepResult) := goodIn_app (goodIn_of _ (by decide +kernel)) ggX4_moved_X4_keepResult
theorem dX4_moved_0 : decode cX4_moved 0 = .ok (.aload_n 0, 1) := by decide +kernel
theorem dX4_moved_1 : decode cX4_moved 1 = .ok (.iload_n 1, 1) := by decide +kernel
theorem dX4_moved_2 : decode cX4_moved 2 = .ok (.invokevirtual 81, 3) := by decide +kernel
theorem dX4_moved_5 : decode cX4_moved 5 = .ok (.astore_n 2, 1) := by decide +kernel
theorem dX4_moved_6 : decode cX4_moved 6 = .ok (.aload_n 0, 1) := by decide +kernel
theorem dX4_moved_7 : decode cX4_moved 7 = .ok (.getfield 35, 3) := by decide +kernel
theorem dX4_moved_10 : decode cX4_moved 10 = .ok (.aload_n 2, 1) := by decide +kernel
theorem dX4_moved_11 : decode cX4_moved 11 = .ok (.getfield 85, 3) := by decide +kernel
theorem dX4_moved_14 : decode cX4_moved 14 = .ok (.invokevirtual 104, 3) := by decide +kernel
theorem dX4_moved_17 : decode cX4_moved 17 = .ok (.aload_n 0, 1) := by decide +kernel
theorem dX4_moved_18 : decode cX4_moved 18 = .ok (.getfield 35, 3) := by decide +kernel
theorem dX4_moved_21 : decode cX4_moved 21 = .ok (.invokevirtual 108, 3) := by decide +kernel
theorem dX4_moved_24 : decode cX4_moved 24 = .ok (.aload_n 0, 1) := by decide +kernel
theorem dX4_moved_25 : decode cX4_moved 25 = .ok (.getfield 38, 3) := by decide +kernel
theorem dX4_moved_28 : decode cX4_moved 28 = .ok (.aload_n 2, 1) := by decide +kernel
theorem dX4_moved_29 : decode cX4_moved 29 = .ok (.getfield 86, 3) := by decide +kernel
theorem dX4_moved_32 : decode cX4_moved 32 = .ok (.invokevirtual 104, 3) := by decide +kernel
theorem dX4_moved_35 : decode cX4_moved 35 = .ok (.aload_n 0, 1) := by decide +kernel
theorem dX4_moved_36 : decode cX4_moved 36 = .ok (.getfield 38, 3) := by decide +kernel
theorem dX4_moved_39 : decode cX4_moved 39 = .ok (.invokevirtual 108, 3) := by decide +kernel
theorem dX4_moved_42 : decode cX4_moved 42 = .ok (.aload_n 0, 1) := by decide +kernel
theorem dX4_moved_43 : decode cX4_moved 43 = .ok (.invokevirtual 77, 3) := by decide +kernel
theorem dX4_moved_46 : decode cX4_moved 46 = .ok (.ireturn, 1) := by decide +kernel
set_option maxRecDepth 20000 in
theorem ggX4_step_X4_known : GoodIn wsX4_step wsX4_known := goodIn_ca (goodIn_r _ [5, 6, 7, 8, 136, 137, 138, 139, 140, 141, 142, 143, 144, 145] (by decide +kernel) (by decide +kernel)) (goodIn_sub (fun _ h => List.mem_cons_of_mem _ (List.mem_append_left _ (List.mem_append_left _ (List.mem_append_right _ h)))) (by decide +kernel))
set_option maxRecDepth 20000 in
theorem gX4_step_X4_known : GoodIn wsX4_step (wsV RX4 81 RX4 yX4_known wsX4_known) := goodIn_app (goodIn_of _ (by decide +kernel)) ggX4_step_X4_known
set_option maxRecDepth 20000 in
theorem ggX4_step_X4_refuseZeroRatioBottom : GoodIn wsX4_step wsX4_refuseZeroRatioBottom := goodIn_ca (goodIn_r _ [12, 13, 14, 15, 16, 17, 18, 19, 20, 21, 136, 137, 138, 139, 140, 141, 142, 143, 144, 145, 146, 147] (by decide +kernel) (by decide +kernel)) (goodIn_sub (fun _ h => List.mem_cons_of_mem _ (List.mem_append_left _ (List.mem_append_right _ h))) (by decide +kernel))
set_option maxRecDepth 20000 in
theorem gX4_step_X4_refuseZeroRatioBottom : GoodIn wsX4_step (wsV RX4 111 RX4 yX4_refuseZeroRatioBottom wsX4_refuseZeroRatioBottom) := goodIn_app (goodIn_of _ (by decide +kernel)) ggX4_step_X4_refuseZeroRatioBottom
set_option maxRecDepth 20000 in
theorem ggX4_step_X4_setToStep : GoodIn wsX4_step wsX4_setToStep := goodIn_r _ [25, 26, 27, 28, 29, 30, 31, 15, 32, 33, 34, 35, 19, 36, 21, 37, 38, 39, 40, 41, 42, 43, 44, 45, 46, 47, 48, 49, 50, 51, 52, 53, 54, 55, 56, 57, 58, 59, 60, 61, 62, 63, 64, 65, 66, 67, 68, 69, 70, 71, 72, 73, 136, 137, 138, 139, 140, 141, 142, 143, 144, 145, 148, 149, 146, 147] (by decide +kernel) (by decide +kernel)
set_option maxRecDepth 20000 in
theorem gX4_step_X4_setToStep : GoodIn wsX4_step (wsV RX4 114 RX4 yX4_setToStep wsX4_setToStep) := goodIn_app (goodIn_of _ (by decide +kernel)) ggX4_step_X4_setToStep
set_option maxRecDepth 20000 in
theorem ggX4_step_X4_keepResult : GoodIn wsX4_step wsX4_keepResult := goodIn_ca (goodIn_r _ [77, 78, 79, 30, 80, 32, 81, 8, 82, 83, 84, 85, 86, 87, 4, 88, 89, 90, 91, 92, 26, 28, 93, 33, 34, 35, 19, 36, 21, 37, 38, 39, 40, 41, 42, 43, 44, 45, 46, 47, 48, 49, 94, 95, 96, 16, 17, 18, 20, 97, 98, 99, 100, 101, 102, 103, 104, 105, 106, 107, 56, 108, 109, 55, 57, 58, 110, 111, 112, 113, 71, 72, 73, 54, 114, 115, 116, 117, 118, 119, 120, 121, 122, 123, 124, 125, 126, 127, 128, 129, 130, 131, 132, 133, 67, 68, 65, 69, 134, 135, 136, 137, 138, 139, 140, 141, 142, 143, 144, 145, 146, 147, 148, 149] (by decide +kernel) (by decide +kernel)) (goodIn_sub (fun _ h => List.mem_cons_of_mem _ (List.mem_append_right _ h)) (by decide +kernel))
set_option maxRecDepth 20000 in
theorem gX4_step_X4_keepResult : GoodIn wsX4_step (wsV RX4 77 RX4 yX4_keepResult wsX4_keepResult) := goodIn_app (goodIn_of _ (by decide +kernel)) ggX4_step_X4_keepResult
theorem dX4_step_0 : decode cX4_step 0 = .ok (.aload_n 0, 1) := by decide +kernel
theorem dX4_step_1 : decode cX4_step 1 = .ok (.iload_n 1, 1) := by decide +kernel
theorem dX4_step_2 : decode cX4_step 2 = .ok (.invokevirtual 81, 3) := by decide +kernel
theorem dX4_step_5 : decode cX4_step 5 = .ok (.astore_n 2, 1) := by decide +kernel
theorem dX4_step_6 : decode cX4_step 6 = .ok (.aload_n 0, 1) := by decide +kernel
theorem dX4_step_7 : decode cX4_step 7 = .ok (.invokevirtual 111, 3) := by decide +kernel
theorem dX4_step_10 : decode cX4_step 10 = .ok (.aload_n 0, 1) := by decide +kernel
theorem dX4_step_11 : decode cX4_step 11 = .ok (.aload_n 2, 1) := by decide +kernel
theorem dX4_step_12 : decode cX4_step 12 = .ok (.invokevirtual 114, 3) := by decide +kernel
theorem dX4_step_15 : decode cX4_step 15 = .ok (.aload_n 0, 1) := by decide +kernel
theorem dX4_step_16 : decode cX4_step 16 = .ok (.invokevirtual 77, 3) := by decide +kernel
theorem dX4_step_19 : decode cX4_step 19 = .ok (.ireturn, 1) := by decide +kernel
set_option maxRecDepth 20000 in
theorem ggX4_proves_X4_known : GoodIn wsX4_proves wsX4_known := goodIn_ca (goodIn_r _ [11, 12, 13, 14, 78, 79, 80, 81, 82, 83, 84, 85, 86, 87] (by decide +kernel) (by decide +kernel)) (goodIn_sub (fun _ h => List.mem_cons_of_mem _ (List.mem_append_left _ (List.mem_append_right _ h))) (by decide +kernel))
set_option maxRecDepth 20000 in
theorem gX4_proves_X4_known : GoodIn wsX4_proves (wsV RX4 81 RX4 yX4_known wsX4_known) := goodIn_app (goodIn_of _ (by decide +kernel)) ggX4_proves_X4_known
set_option maxRecDepth 20000 in
theorem ggX4_proves_X4_refuseZeroRatioBottom : GoodIn wsX4_proves wsX4_refuseZeroRatioBottom := goodIn_ca (goodIn_r _ [18, 19, 20, 21, 22, 23, 24, 25, 26, 27, 78, 79, 80, 81, 82, 83, 84, 85, 86, 87, 90, 91] (by decide +kernel) (by decide +kernel)) (goodIn_sub (fun _ h => List.mem_cons_of_mem _ (List.mem_append_right _ h)) (by decide +kernel))
set_option maxRecDepth 20000 in
theorem gX4_proves_X4_refuseZeroRatioBottom : GoodIn wsX4_proves (wsV RX4 111 RX4 yX4_refuseZeroRatioBottom wsX4_refuseZeroRatioBottom) := goodIn_app (goodIn_of _ (by decide +kernel)) ggX4_proves_X4_refuseZeroRatioBottom
set_option maxRecDepth 20000 in
theorem ggX4_proves_X4_setToStep : GoodIn wsX4_proves wsX4_setToStep := goodIn_r _ [31, 1, 2, 4, 32, 6, 5, 21, 3, 33, 34, 35, 25, 36, 27, 37, 38, 39, 40, 41, 42, 43, 44, 45, 46, 47, 48, 49, 50, 51, 52, 53, 54, 55, 56, 57, 58, 59, 60, 61, 62, 63, 64, 65, 66, 67, 68, 69, 70, 71, 72, 73, 78, 79, 80, 81, 82, 83, 84, 85, 86, 87, 88, 89, 90, 91] (by decide +kernel) (by decide +kernel)
set_option maxRecDepth 20000 in
theorem gX4_proves_X4_setToStep : GoodIn wsX4_proves (wsV RX4 114 RX4 yX4_setToStep wsX4_setToStep) := goodIn_app (goodIn_of _ (by decide +kernel)) ggX4_proves_X4_setToStep
set_option maxRecDepth 20000 in
theorem ggX4_proves_X3_setProduct : GoodIn wsX4_proves wsX3_setProduct := goodIn_r _ [62, 27, 63, 64, 65, 66, 67, 68, 69, 37, 38, 39, 25, 40, 41, 42, 43, 44, 45, 46, 47, 48, 49, 54, 55, 56, 57, 58, 90, 91] (by decide +kernel) (by decide +kernel)
set_option maxRecDepth 20000 in
theorem gX4_proves_X3_setProduct : GoodIn wsX4_proves (wsV RX4 87 RX3 yX3_setProduct wsX3_setProduct) := goodIn_app (goodIn_of _ (by decide +kernel)) ggX4_proves_X3_setProduct
set_option maxRecDepth 20000 in
theorem ggX4_proves_X3_matches : GoodIn wsX4_proves wsX3_matches := goodIn_r _ [77, 27, 46, 47, 48, 25, 49, 45, 90, 91] (by decide +kernel) (by decide +kernel)
set_option maxRecDepth 20000 in
theorem gX4_proves_X3_matches : GoodIn wsX4_proves (wsV RX4 118 RX3 yX3_matches wsX3_matches) := goodIn_app (goodIn_of _ (by decide +kernel)) ggX4_proves_X3_matches
theorem dX4_proves_0 : decode cX4_proves 0 = .ok (.aload_n 0, 1) := by decide +kernel
theorem dX4_proves_1 : decode cX4_proves 1 = .ok (.iload_n 1, 1) := by decide +kernel
theorem dX4_proves_2 : decode cX4_proves 2 = .ok (.invokevirtual 81, 3) := by decide +kernel
theorem dX4_proves_5 : decode cX4_proves 5 = .ok (.astore_n 3, 1) := by decide +kernel
theorem dX4_proves_6 : decode cX4_proves 6 = .ok (.aload_n 0, 1) := by decide +kernel
theorem dX4_proves_7 : decode cX4_proves 7 = .ok (.iload_n 2, 1) := by decide +kernel
theorem dX4_proves_8 : decode cX4_proves 8 = .ok (.invokevirtual 81, 3) := by decide +kernel
theorem dX4_proves_11 : decode cX4_proves 11 = .ok (.astore 4, 2) := by decide +kernel
theorem dX4_proves_13 : decode cX4_proves 13 = .ok (.aload_n 0, 1) := by decide +kernel
theorem dX4_proves_14 : decode cX4_proves 14 = .ok (.invokevirtual 111, 3) := by decide +kernel
theorem dX4_proves_17 : decode cX4_proves 17 = .ok (.aload_n 0, 1) := by decide +kernel
theorem dX4_proves_18 : decode cX4_proves 18 = .ok (.aload 4, 2) := by decide +kernel
theorem dX4_proves_20 : decode cX4_proves 20 = .ok (.invokevirtual 114, 3) := by decide +kernel
theorem dX4_proves_23 : decode cX4_proves 23 = .ok (.aload_n 0, 1) := by decide +kernel
theorem dX4_proves_24 : decode cX4_proves 24 = .ok (.getfield 41, 3) := by decide +kernel
theorem dX4_proves_27 : decode cX4_proves 27 = .ok (.aload_n 3, 1) := by decide +kernel
theorem dX4_proves_28 : decode cX4_proves 28 = .ok (.getfield 85, 3) := by decide +kernel
theorem dX4_proves_31 : decode cX4_proves 31 = .ok (.aload_n 0, 1) := by decide +kernel
theorem dX4_proves_32 : decode cX4_proves 32 = .ok (.getfield 38, 3) := by decide +kernel
theorem dX4_proves_35 : decode cX4_proves 35 = .ok (.invokevirtual 87, 3) := by decide +kernel
theorem dX4_proves_38 : decode cX4_proves 38 = .ok (.aload_n 0, 1) := by decide +kernel
theorem dX4_proves_39 : decode cX4_proves 39 = .ok (.getfield 44, 3) := by decide +kernel
theorem dX4_proves_42 : decode cX4_proves 42 = .ok (.aload_n 3, 1) := by decide +kernel
theorem dX4_proves_43 : decode cX4_proves 43 = .ok (.getfield 86, 3) := by decide +kernel
theorem dX4_proves_46 : decode cX4_proves 46 = .ok (.aload_n 0, 1) := by decide +kernel
theorem dX4_proves_47 : decode cX4_proves 47 = .ok (.getfield 35, 3) := by decide +kernel
theorem dX4_proves_50 : decode cX4_proves 50 = .ok (.invokevirtual 87, 3) := by decide +kernel
theorem dX4_proves_53 : decode cX4_proves 53 = .ok (.aload_n 0, 1) := by decide +kernel
theorem dX4_proves_54 : decode cX4_proves 54 = .ok (.getfield 41, 3) := by decide +kernel
theorem dX4_proves_57 : decode cX4_proves 57 = .ok (.aload_n 0, 1) := by decide +kernel
theorem dX4_proves_58 : decode cX4_proves 58 = .ok (.getfield 44, 3) := by decide +kernel
theorem dX4_proves_61 : decode cX4_proves 61 = .ok (.invokevirtual 118, 3) := by decide +kernel
theorem dX4_proves_64 : decode cX4_proves 64 = .ok (.ireturn, 1) := by decide +kernel
set_option maxRecDepth 20000 in
theorem ggX4_find_X4_known : GoodIn wsX4_find wsX4_known := goodIn_ca (goodIn_r _ [9, 10, 11, 12, 193, 194, 195, 196, 197, 198, 199, 200, 201, 202] (by decide +kernel) (by decide +kernel)) (goodIn_sub (fun _ h => List.mem_cons_of_mem _ (List.mem_append_left _ (List.mem_append_left _ (List.mem_append_left _ (List.mem_append_right _ h))))) (by decide +kernel))
set_option maxRecDepth 20000 in
theorem gX4_find_X4_known : GoodIn wsX4_find (wsV RX4 81 RX4 yX4_known wsX4_known) := goodIn_app (goodIn_of _ (by decide +kernel)) ggX4_find_X4_known
set_option maxRecDepth 20000 in
theorem ggX4_find_X4_refuseZeroDivisors : GoodIn wsX4_find wsX4_refuseZeroDivisors := goodIn_ca (goodIn_r _ [16, 17, 18, 4, 19, 20, 21, 8, 22, 23, 24, 25, 26, 27, 28, 29, 205, 206, 193, 194, 195, 196, 197, 198, 199, 200, 201, 202, 203, 204] (by decide +kernel) (by decide +kernel)) (goodIn_sub (fun _ h => List.mem_cons_of_mem _ (List.mem_append_left _ (List.mem_append_left _ (List.mem_append_right _ h)))) (by decide +kernel))
set_option maxRecDepth 20000 in
theorem gX4_find_X4_refuseZeroDivisors : GoodIn wsX4_find (wsV RX4 122 RX4 yX4_refuseZeroDivisors wsX4_refuseZeroDivisors) := goodIn_app (goodIn_of _ (by decide +kernel)) ggX4_find_X4_refuseZeroDivisors
set_option maxRecDepth 20000 in
theorem ggX4_find_X4_refuseWrongBound : GoodIn wsX4_find wsX4_refuseWrongBound := goodIn_ca (goodIn_r _ [32, 33, 34] (by decide +kernel) (by decide +kernel)) (goodIn_sub (fun _ h => List.mem_cons_of_mem _ (List.mem_append_left _ (List.mem_append_right _ h))) (by decide +kernel))
set_option maxRecDepth 20000 in
theorem gX4_find_X4_refuseWrongBound : GoodIn wsX4_find (va_wsS RX4 125 yX4_refuseWrongBound wsX4_refuseWrongBound) := goodIn_app (goodIn_of _ (by decide +kernel)) ggX4_find_X4_refuseWrongBound
set_option maxRecDepth 20000 in
theorem ggX4_find_X4_refuseWhenFull : GoodIn wsX4_find wsX4_refuseWhenFull := goodIn_ca (goodIn_r _ [38, 39, 40, 41, 12, 193, 194, 195, 196, 197, 198, 199, 200, 201, 202] (by decide +kernel) (by decide +kernel)) (goodIn_sub (fun _ h => List.mem_cons_of_mem _ (List.mem_append_right _ h)) (by decide +kernel))
set_option maxRecDepth 20000 in
theorem gX4_find_X4_refuseWhenFull : GoodIn wsX4_find (wsV RX4 128 RX4 yX4_refuseWhenFull wsX4_refuseWhenFull) := goodIn_app (goodIn_of _ (by decide +kernel)) ggX4_find_X4_refuseWhenFull
set_option maxRecDepth 20000 in
theorem ggX4_find_X4_findPlain : GoodIn wsX4_find wsX4_findPlain := goodIn_r _ [45, 46, 4, 47, 23, 1, 48, 49, 50, 51, 52, 53, 54, 55, 56, 57, 58, 59, 60, 61, 62, 63, 27, 64, 29, 65, 66, 67, 68, 69, 70, 71, 72, 73, 74, 75, 76, 77, 78, 79, 80, 81, 82, 83, 84, 85, 86, 87, 88, 89, 90, 91, 92, 93, 94, 95, 96, 97, 98, 99, 100, 101, 102, 103, 104, 105, 106, 107, 108, 109, 110, 111, 112, 113, 114, 115, 116, 117, 118, 119, 120, 121, 122, 123, 124, 125, 126, 127, 128, 129, 130, 131, 132, 133, 134, 135, 136, 137, 138, 139, 140, 193, 194, 195, 196, 197, 198, 199, 200, 201, 202, 205, 206, 207, 208, 209, 210, 211, 212, 213, 214, 203, 204] (by decide +kernel) (by decide +kernel)
set_option maxRecDepth 20000 in
theorem gX4_find_X4_findPlain : GoodIn wsX4_find (wsV RX4 131 RX4 yX4_findPlain wsX4_findPlain) := goodIn_app (goodIn_of _ (by decide +kernel)) ggX4_find_X4_findPlain
set_option maxRecDepth 20000 in
theorem ggX4_find_X3_copy : GoodIn wsX4_find wsX3_copy := goodIn_r _ [64, 29, 65, 66, 67, 27, 68, 69, 70, 71, 72, 73, 74, 75, 76, 77, 203, 204] (by decide +kernel) (by decide +kernel)
set_option maxRecDepth 20000 in
theorem gX4_find_X3_copy : GoodIn wsX4_find (wsV RX4 104 RX3 yX3_copy wsX3_copy) := goodIn_app (goodIn_of _ (by decide +kernel)) ggX4_find_X3_copy
set_option maxRecDepth 20000 in
theorem ggX4_find_X4_keepResult : GoodIn wsX4_find wsX4_keepResult := goodIn_ca (goodIn_r _ [145, 39, 40, 1, 2, 3, 41, 12, 146, 147, 148, 35, 36, 37, 8, 38, 149, 150, 151, 152, 153, 154, 155, 141, 62, 63, 27, 64, 29, 65, 66, 67, 68, 69, 70, 71, 72, 73, 74, 75, 76, 77, 156, 157, 158, 24, 25, 26, 28, 159, 160, 161, 162, 163, 164, 165, 166, 167, 168, 122, 84, 123, 124, 83, 85, 86, 169, 129, 130, 170, 99, 100, 101, 82, 171, 172, 173, 174, 175, 176, 177, 178, 179, 180, 181, 182, 183, 184, 185, 186, 187, 188, 189, 190, 95, 96, 93, 97, 191, 192, 193, 194, 195, 196, 197, 198, 199, 200, 201, 202, 203, 204, 205, 206] (by decide +kernel) (by decide +kernel)) (goodIn_sub (fun _ h => List.mem_cons_of_mem _ (List.mem_append_right _ h)) (by decide +kernel))
set_option maxRecDepth 20000 in
theorem gX4_find_X4_keepResult : GoodIn wsX4_find (wsV RX4 77 RX4 yX4_keepResult wsX4_keepResult) := goodIn_app (goodIn_of _ (by decide +kernel)) ggX4_find_X4_keepResult
theorem dX4_find_0 : decode cX4_find 0 = .ok (.aload_n 0, 1) := by decide +kernel
theorem dX4_find_1 : decode cX4_find 1 = .ok (.iload_n 1, 1) := by decide +kernel
theorem dX4_find_2 : decode cX4_find 2 = .ok (.invokevirtual 81, 3) := by decide +kernel
theorem dX4_find_5 : decode cX4_find 5 = .ok (.astore 4, 2) := by decide +kernel
theorem dX4_find_7 : decode cX4_find 7 = .ok (.aload_n 0, 1) := by decide +kernel
theorem dX4_find_8 : decode cX4_find 8 = .ok (.iload_n 2, 1) := by decide +kernel
theorem dX4_find_9 : decode cX4_find 9 = .ok (.invokevirtual 81, 3) := by decide +kernel
theorem dX4_find_12 : decode cX4_find 12 = .ok (.astore 5, 2) := by decide +kernel
theorem dX4_find_14 : decode cX4_find 14 = .ok (.aload_n 0, 1) := by decide +kernel
theorem dX4_find_15 : decode cX4_find 15 = .ok (.aload 5, 2) := by decide +kernel
theorem dX4_find_17 : decode cX4_find 17 = .ok (.invokevirtual 122, 3) := by decide +kernel
theorem dX4_find_20 : decode cX4_find 20 = .ok (.iload_n 3, 1) := by decide +kernel
theorem dX4_find_21 : decode cX4_find 21 = .ok (.invokestatic 125, 3) := by decide +kernel
theorem dX4_find_24 : decode cX4_find 24 = .ok (.aload_n 0, 1) := by decide +kernel
theorem dX4_find_25 : decode cX4_find 25 = .ok (.invokevirtual 128, 3) := by decide +kernel
theorem dX4_find_28 : decode cX4_find 28 = .ok (.aload_n 0, 1) := by decide +kernel
theorem dX4_find_29 : decode cX4_find 29 = .ok (.aload 4, 2) := by decide +kernel
theorem dX4_find_31 : decode cX4_find 31 = .ok (.aload 5, 2) := by decide +kernel
theorem dX4_find_33 : decode cX4_find 33 = .ok (.invokevirtual 131, 3) := by decide +kernel
theorem dX4_find_36 : decode cX4_find 36 = .ok (.ifCond .eq 14, 3) := by decide +kernel
theorem dX4_find_39 : decode cX4_find 39 = .ok (.aload_n 0, 1) := by decide +kernel
theorem dX4_find_40 : decode cX4_find 40 = .ok (.getfield 35, 3) := by decide +kernel
theorem dX4_find_43 : decode cX4_find 43 = .ok (.getfield 135, 3) := by decide +kernel
theorem dX4_find_46 : decode cX4_find 46 = .ok (.iload_n 3, 1) := by decide +kernel
theorem dX4_find_47 : decode cX4_find 47 = .ok (.if_icmp .le 5, 3) := by decide +kernel
theorem dX4_find_50 : decode cX4_find 50 = .ok (.iconst (-1), 1) := by decide +kernel
theorem dX4_find_51 : decode cX4_find 51 = .ok (.ireturn, 1) := by decide +kernel
theorem dX4_find_52 : decode cX4_find 52 = .ok (.aload_n 0, 1) := by decide +kernel
theorem dX4_find_53 : decode cX4_find 53 = .ok (.getfield 38, 3) := by decide +kernel
theorem dX4_find_56 : decode cX4_find 56 = .ok (.aload 5, 2) := by decide +kernel
theorem dX4_find_58 : decode cX4_find 58 = .ok (.getfield 85, 3) := by decide +kernel
theorem dX4_find_61 : decode cX4_find 61 = .ok (.invokevirtual 104, 3) := by decide +kernel
theorem dX4_find_64 : decode cX4_find 64 = .ok (.aload_n 0, 1) := by decide +kernel
theorem dX4_find_65 : decode cX4_find 65 = .ok (.invokevirtual 77, 3) := by decide +kernel
theorem dX4_find_68 : decode cX4_find 68 = .ok (.ireturn, 1) := by decide +kernel
set_option maxRecDepth 20000 in
theorem ggX4_least_X4_known : GoodIn wsX4_least wsX4_known := goodIn_ca (goodIn_r _ [11, 12, 13, 14, 129, 130, 131, 132, 133, 134, 135, 136, 137, 138] (by decide +kernel) (by decide +kernel)) (goodIn_sub (fun _ h => List.mem_cons_of_mem _ (List.mem_append_left _ (List.mem_append_right _ h))) (by decide +kernel))
set_option maxRecDepth 20000 in
theorem gX4_least_X4_known : GoodIn wsX4_least (wsV RX4 81 RX4 yX4_known wsX4_known) := goodIn_app (goodIn_of _ (by decide +kernel)) ggX4_least_X4_known
set_option maxRecDepth 20000 in
theorem ggX4_least_X4_refuseZeroDivisors : GoodIn wsX4_least wsX4_refuseZeroDivisors := goodIn_ca (goodIn_r _ [18, 19, 20, 21, 22, 23, 24, 10, 25, 26, 27, 28, 29, 30, 31, 32, 141, 142, 129, 130, 131, 132, 133, 134, 135, 136, 137, 138, 139, 140] (by decide +kernel) (by decide +kernel)) (goodIn_sub (fun _ h => List.mem_cons_of_mem _ (List.mem_append_right _ h)) (by decide +kernel))
set_option maxRecDepth 20000 in
theorem gX4_least_X4_refuseZeroDivisors : GoodIn wsX4_least (wsV RX4 122 RX4 yX4_refuseZeroDivisors wsX4_refuseZeroDivisors) := goodIn_app (goodIn_of _ (by decide +kernel)) ggX4_least_X4_refuseZeroDivisors
set_option maxRecDepth 20000 in
theorem ggX4_least_X4_findPlain : GoodIn wsX4_least wsX4_findPlain := goodIn_r _ [36, 37, 21, 38, 26, 1, 39, 40, 41, 42, 43, 44, 45, 46, 47, 48, 49, 50, 51, 52, 53, 54, 30, 55, 32, 56, 57, 58, 59, 60, 61, 62, 63, 64, 65, 66, 67, 68, 69, 70, 71, 72, 73, 74, 75, 76, 77, 78, 79, 80, 81, 82, 83, 5, 84, 85, 4, 6, 86, 87, 88, 89, 90, 91, 92, 93, 94, 95, 96, 97, 98, 99, 100, 101, 102, 103, 104, 105, 106, 107, 108, 109, 110, 111, 112, 113, 114, 115, 116, 117, 118, 119, 120, 121, 122, 123, 124, 125, 126, 127, 128, 129, 130, 131, 132, 133, 134, 135, 136, 137, 138, 141, 142, 143, 144, 145, 146, 147, 148, 149, 150, 139, 140] (by decide +kernel) (by decide +kernel)
set_option maxRecDepth 20000 in
theorem gX4_least_X4_findPlain : GoodIn wsX4_least (wsV RX4 131 RX4 yX4_findPlain wsX4_findPlain) := goodIn_app (goodIn_of _ (by decide +kernel)) ggX4_least_X4_findPlain
theorem dX4_least_0 : decode cX4_least 0 = .ok (.aload_n 0, 1) := by decide +kernel
theorem dX4_least_1 : decode cX4_least 1 = .ok (.iload_n 1, 1) := by decide +kernel
theorem dX4_least_2 : decode cX4_least 2 = .ok (.invokevirtual 81, 3) := by decide +kernel
theorem dX4_least_5 : decode cX4_least 5 = .ok (.astore_n 3, 1) := by decide +kernel
theorem dX4_least_6 : decode cX4_least 6 = .ok (.aload_n 0, 1) := by decide +kernel
theorem dX4_least_7 : decode cX4_least 7 = .ok (.iload_n 2, 1) := by decide +kernel
theorem dX4_least_8 : decode cX4_least 8 = .ok (.invokevirtual 81, 3) := by decide +kernel
theorem dX4_least_11 : decode cX4_least 11 = .ok (.astore 4, 2) := by decide +kernel
theorem dX4_least_13 : decode cX4_least 13 = .ok (.aload_n 0, 1) := by decide +kernel
theorem dX4_least_14 : decode cX4_least 14 = .ok (.aload 4, 2) := by decide +kernel
theorem dX4_least_16 : decode cX4_least 16 = .ok (.invokevirtual 122, 3) := by decide +kernel
theorem dX4_least_19 : decode cX4_least 19 = .ok (.aload_n 0, 1) := by decide +kernel
theorem dX4_least_20 : decode cX4_least 20 = .ok (.aload_n 3, 1) := by decide +kernel
theorem dX4_least_21 : decode cX4_least 21 = .ok (.aload 4, 2) := by decide +kernel
theorem dX4_least_23 : decode cX4_least 23 = .ok (.invokevirtual 131, 3) := by decide +kernel
theorem dX4_least_26 : decode cX4_least 26 = .ok (.ifCond .ne 5, 3) := by decide +kernel
theorem dX4_least_29 : decode cX4_least 29 = .ok (.iconst (-1), 1) := by decide +kernel
theorem dX4_least_30 : decode cX4_least 30 = .ok (.ireturn, 1) := by decide +kernel
theorem dX4_least_31 : decode cX4_least 31 = .ok (.aload_n 0, 1) := by decide +kernel
theorem dX4_least_32 : decode cX4_least 32 = .ok (.getfield 35, 3) := by decide +kernel
theorem dX4_least_35 : decode cX4_least 35 = .ok (.getfield 135, 3) := by decide +kernel
theorem dX4_least_38 : decode cX4_least 38 = .ok (.iconst 0, 1) := by decide +kernel
theorem dX4_least_39 : decode cX4_least 39 = .ok (.invokestatic 138, 3) := by decide +kernel
theorem dX4_least_42 : decode cX4_least 42 = .ok (.ireturn, 1) := by decide +kernel
set_option maxRecDepth 20000 in
theorem ggX4_free_X4_known : GoodIn wsX4_free wsX4_known := goodIn_ca (goodIn_r _ [9, 10, 11, 12, 122, 123, 124, 125, 126, 127, 128, 129, 130, 131] (by decide +kernel) (by decide +kernel)) (goodIn_sub (fun _ h => List.mem_cons_of_mem _ (List.mem_append_left _ (List.mem_append_left _ (List.mem_append_right _ h)))) (by decide +kernel))
set_option maxRecDepth 20000 in
theorem gX4_free_X4_known : GoodIn wsX4_free (wsV RX4 81 RX4 yX4_known wsX4_known) := goodIn_app (goodIn_of _ (by decide +kernel)) ggX4_free_X4_known
set_option maxRecDepth 20000 in
theorem ggX4_free_X4_refuseZeroDivisors : GoodIn wsX4_free wsX4_refuseZeroDivisors := goodIn_ca (goodIn_r _ [16, 17, 18, 2, 19, 20, 21, 8, 22, 4, 23, 24, 25, 26, 27, 28, 132, 133, 122, 123, 124, 125, 126, 127, 128, 129, 130, 131, 134, 135] (by decide +kernel) (by decide +kernel)) (goodIn_sub (fun _ h => List.mem_cons_of_mem _ (List.mem_append_left _ (List.mem_append_right _ h))) (by decide +kernel))
set_option maxRecDepth 20000 in
theorem gX4_free_X4_refuseZeroDivisors : GoodIn wsX4_free (wsV RX4 122 RX4 yX4_refuseZeroDivisors wsX4_refuseZeroDivisors) := goodIn_app (goodIn_of _ (by decide +kernel)) ggX4_free_X4_refuseZeroDivisors
set_option maxRecDepth 20000 in
theorem ggX4_free_X4_refuseWrongBound : GoodIn wsX4_free wsX4_refuseWrongBound := goodIn_ca (goodIn_r _ [31, 32, 33] (by decide +kernel) (by decide +kernel)) (goodIn_sub (fun _ h => List.mem_cons_of_mem _ (List.mem_append_right _ h)) (by decide +kernel))
set_option maxRecDepth 20000 in
theorem gX4_free_X4_refuseWrongBound : GoodIn wsX4_free (va_wsS RX4 125 yX4_refuseWrongBound wsX4_refuseWrongBound) := goodIn_app (goodIn_of _ (by decide +kernel)) ggX4_free_X4_refuseWrongBound
set_option maxRecDepth 20000 in
theorem ggX4_free_X0_set : GoodIn wsX4_free wsX0_set := goodIn_r _ [38, 39, 40, 41, 42, 43, 44, 45, 46, 47, 48, 49, 26, 50, 28, 51, 52, 53, 54, 55, 56, 57, 58, 59, 60, 61, 62, 63, 64, 65, 66, 67, 68, 69, 70, 71, 72, 73, 74, 75, 76, 77, 78, 79, 80, 81, 82, 83, 84, 85, 86, 87, 88, 89, 90, 91, 136, 137, 138, 139, 140, 141, 142, 143, 132, 133, 134, 135] (by decide +kernel) (by decide +kernel)
set_option maxRecDepth 20000 in
theorem gX4_free_X0_set : GoodIn wsX4_free (wsV RX4 144 RX0 yX0_set wsX0_set) := goodIn_app (goodIn_of _ (by decide +kernel)) ggX4_free_X0_set
set_option maxRecDepth 20000 in
theorem ggX4_free_X0_eliminate : GoodIn wsX4_free wsX0_eliminate := goodIn_r _ [95, 96, 46, 97, 98, 99, 100, 37, 101, 102, 61, 62, 26, 63, 59, 103, 104, 105, 106, 43, 107, 108, 70, 109, 110, 69, 71, 72, 111, 112, 113, 114, 115, 116, 84, 85, 86, 87, 28, 60, 68, 55, 56, 57, 58, 117, 136, 137, 138, 139, 140, 141, 142, 143, 134, 135] (by decide +kernel) (by decide +kernel)
set_option maxRecDepth 20000 in
theorem gX4_free_X0_eliminate : GoodIn wsX4_free (wsV RX4 148 RX0 yX0_eliminate wsX0_eliminate) := goodIn_app (goodIn_of _ (by decide +kernel)) ggX4_free_X0_eliminate
set_option maxRecDepth 20000 in
theorem ggX4_free_X0_freeUpTo : GoodIn wsX4_free wsX0_freeUpTo := goodIn_r _ [121, 97, 136, 137, 138, 139, 140, 141, 142, 143] (by decide +kernel) (by decide +kernel)
set_option maxRecDepth 20000 in
theorem gX4_free_X0_freeUpTo : GoodIn wsX4_free (wsV RX4 151 RX0 yX0_freeUpTo wsX0_freeUpTo) := goodIn_app (goodIn_of _ (by decide +kernel)) ggX4_free_X0_freeUpTo
theorem dX4_free_0 : decode cX4_free 0 = .ok (.aload_n 0, 1) := by decide +kernel
theorem dX4_free_1 : decode cX4_free 1 = .ok (.iload_n 1, 1) := by decide +kernel
theorem dX4_free_2 : decode cX4_free 2 = .ok (.invokevirtual 81, 3) := by decide +kernel
theorem dX4_free_5 : decode cX4_free 5 = .ok (.astore_n 3, 1) := by decide +kernel
theorem dX4_free_6 : decode cX4_free 6 = .ok (.aload_n 0, 1) := by decide +kernel
theorem dX4_free_7 : decode cX4_free 7 = .ok (.aload_n 3, 1) := by decide +kernel
theorem dX4_free_8 : decode cX4_free 8 = .ok (.invokevirtual 122, 3) := by decide +kernel
theorem dX4_free_11 : decode cX4_free 11 = .ok (.iload_n 2, 1) := by decide +kernel
theorem dX4_free_12 : decode cX4_free 12 = .ok (.invokestatic 125, 3) := by decide +kernel
theorem dX4_free_15 : decode cX4_free 15 = .ok (.aload_n 0, 1) := by decide +kernel
theorem dX4_free_16 : decode cX4_free 16 = .ok (.getfield 53, 3) := by decide +kernel
theorem dX4_free_19 : decode cX4_free 19 = .ok (.aload_n 3, 1) := by decide +kernel
theorem dX4_free_20 : decode cX4_free 20 = .ok (.aload_n 3, 1) := by decide +kernel
theorem dX4_free_21 : decode cX4_free 21 = .ok (.getfield 85, 3) := by decide +kernel
theorem dX4_free_24 : decode cX4_free 24 = .ok (.aload_n 0, 1) := by decide +kernel
theorem dX4_free_25 : decode cX4_free 25 = .ok (.getfield 14, 3) := by decide +kernel
theorem dX4_free_28 : decode cX4_free 28 = .ok (.aload_n 0, 1) := by decide +kernel
theorem dX4_free_29 : decode cX4_free 29 = .ok (.getfield 22, 3) := by decide +kernel
theorem dX4_free_32 : decode cX4_free 32 = .ok (.invokevirtual 144, 3) := by decide +kernel
theorem dX4_free_35 : decode cX4_free 35 = .ok (.aload_n 0, 1) := by decide +kernel
theorem dX4_free_36 : decode cX4_free 36 = .ok (.getfield 53, 3) := by decide +kernel
theorem dX4_free_39 : decode cX4_free 39 = .ok (.invokevirtual 148, 3) := by decide +kernel
theorem dX4_free_42 : decode cX4_free 42 = .ok (.aload_n 0, 1) := by decide +kernel
theorem dX4_free_43 : decode cX4_free 43 = .ok (.getfield 53, 3) := by decide +kernel
theorem dX4_free_46 : decode cX4_free 46 = .ok (.iload_n 2, 1) := by decide +kernel
theorem dX4_free_47 : decode cX4_free 47 = .ok (.invokevirtual 151, 3) := by decide +kernel
theorem dX4_free_50 : decode cX4_free 50 = .ok (.ireturn, 1) := by decide +kernel
set_option maxRecDepth 20000 in
theorem ggX4_degree_X4_known : GoodIn wsX4_degree wsX4_known := goodIn_ca (goodIn_r _ [6, 7, 8, 9, 19, 20, 21, 22, 23, 24, 25, 26, 27, 28] (by decide +kernel) (by decide +kernel)) (goodIn_sub (fun _ h => List.mem_cons_of_mem _ (List.mem_append_right _ h)) (by decide +kernel))
set_option maxRecDepth 20000 in
theorem gX4_degree_X4_known : GoodIn wsX4_degree (wsV RX4 81 RX4 yX4_known wsX4_known) := goodIn_app (goodIn_of _ (by decide +kernel)) ggX4_degree_X4_known
set_option maxRecDepth 20000 in
theorem ggX4_degree_X1_part : GoodIn wsX4_degree wsX1_part := goodIn_r _ [14, 15, 16, 29, 30] (by decide +kernel) (by decide +kernel)
set_option maxRecDepth 20000 in
theorem gX4_degree_X1_part : GoodIn wsX4_degree (wsV RX4 154 RX1 yX1_part wsX1_part) := goodIn_app (goodIn_of _ (by decide +kernel)) ggX4_degree_X1_part
theorem dX4_degree_0 : decode cX4_degree 0 = .ok (.aload_n 0, 1) := by decide +kernel
theorem dX4_degree_1 : decode cX4_degree 1 = .ok (.iload_n 1, 1) := by decide +kernel
theorem dX4_degree_2 : decode cX4_degree 2 = .ok (.invokevirtual 81, 3) := by decide +kernel
theorem dX4_degree_5 : decode cX4_degree 5 = .ok (.iload_n 2, 1) := by decide +kernel
theorem dX4_degree_6 : decode cX4_degree 6 = .ok (.invokevirtual 154, 3) := by decide +kernel
theorem dX4_degree_9 : decode cX4_degree 9 = .ok (.getfield 135, 3) := by decide +kernel
theorem dX4_degree_12 : decode cX4_degree 12 = .ok (.ireturn, 1) := by decide +kernel
set_option maxRecDepth 20000 in
theorem ggX4_at_X4_known : GoodIn wsX4_at wsX4_known := goodIn_ca (goodIn_r _ [5, 6, 7, 8, 22, 23, 24, 25, 26, 27, 28, 29, 30, 31] (by decide +kernel) (by decide +kernel)) (goodIn_sub (fun _ h => List.mem_cons_of_mem _ (List.mem_append_right _ h)) (by decide +kernel))
set_option maxRecDepth 20000 in
theorem gX4_at_X4_known : GoodIn wsX4_at (wsV RX4 81 RX4 yX4_known wsX4_known) := goodIn_app (goodIn_of _ (by decide +kernel)) ggX4_at_X4_known
set_option maxRecDepth 20000 in
theorem ggX4_at_X1_part : GoodIn wsX4_at wsX1_part := goodIn_r _ [13, 14, 15, 32, 33] (by decide +kernel) (by decide +kernel)
set_option maxRecDepth 20000 in
theorem gX4_at_X1_part : GoodIn wsX4_at (wsV RX4 154 RX1 yX1_part wsX1_part) := goodIn_app (goodIn_of _ (by decide +kernel)) ggX4_at_X1_part
set_option maxRecDepth 20000 in
theorem ggX4_at_X3_coefficient : GoodIn wsX4_at wsX3_coefficient := goodIn_r _ [20, 21, 34, 35] (by decide +kernel) (by decide +kernel)
set_option maxRecDepth 20000 in
theorem gX4_at_X3_coefficient : GoodIn wsX4_at (wsV RX4 70 RX3 yX3_coefficient wsX3_coefficient) := goodIn_app (goodIn_of _ (by decide +kernel)) ggX4_at_X3_coefficient
theorem dX4_at_0 : decode cX4_at 0 = .ok (.aload_n 0, 1) := by decide +kernel
theorem dX4_at_1 : decode cX4_at 1 = .ok (.iload_n 1, 1) := by decide +kernel
theorem dX4_at_2 : decode cX4_at 2 = .ok (.invokevirtual 81, 3) := by decide +kernel
theorem dX4_at_5 : decode cX4_at 5 = .ok (.iload_n 2, 1) := by decide +kernel
theorem dX4_at_6 : decode cX4_at 6 = .ok (.invokevirtual 154, 3) := by decide +kernel
theorem dX4_at_9 : decode cX4_at 9 = .ok (.iload_n 3, 1) := by decide +kernel
theorem dX4_at_10 : decode cX4_at 10 = .ok (.invokevirtual 70, 3) := by decide +kernel
theorem dX4_at_13 : decode cX4_at 13 = .ok (.ireturn, 1) := by decide +kernel
set_option maxRecDepth 20000 in
theorem ggX4_value_X4_known : GoodIn wsX4_value wsX4_known := goodIn_ca (goodIn_r _ [7, 8, 9, 10, 37, 38, 39, 40, 41, 42, 43, 44, 45, 46] (by decide +kernel) (by decide +kernel)) (goodIn_sub (fun _ h => List.mem_cons_of_mem _ (List.mem_append_right _ h)) (by decide +kernel))
set_option maxRecDepth 20000 in
theorem gX4_value_X4_known : GoodIn wsX4_value (wsV RX4 81 RX4 yX4_known wsX4_known) := goodIn_app (goodIn_of _ (by decide +kernel)) ggX4_value_X4_known
set_option maxRecDepth 20000 in
theorem ggX4_value_X2_reduced : GoodIn wsX4_value wsX2_reduced := goodIn_r _ [14, 15] (by decide +kernel) (by decide +kernel)
set_option maxRecDepth 20000 in
theorem gX4_value_X2_reduced : GoodIn wsX4_value (va_wsS RX4 64 yX2_reduced wsX2_reduced) := goodIn_app (goodIn_of _ (by decide +kernel)) ggX4_value_X2_reduced
set_option maxRecDepth 20000 in
theorem ggX4_value_X3_evaluate : GoodIn wsX4_value wsX3_evaluate := goodIn_r _ [20, 21, 22, 23, 24, 19, 25, 26, 27, 12, 13, 14, 15, 47, 48] (by decide +kernel) (by decide +kernel)
set_option maxRecDepth 20000 in
theorem gX4_value_X3_evaluate : GoodIn wsX4_value (wsV RX4 158 RX3 yX3_evaluate wsX3_evaluate) := goodIn_app (goodIn_of _ (by decide +kernel)) ggX4_value_X3_evaluate
set_option maxRecDepth 20000 in
theorem ggX4_value_X2_inverse : GoodIn wsX4_value wsX2_inverse := goodIn_r _ [30, 31, 12, 13, 14, 15] (by decide +kernel) (by decide +kernel)
set_option maxRecDepth 20000 in
theorem gX4_value_X2_inverse : GoodIn wsX4_value (va_wsS RX4 161 yX2_inverse wsX2_inverse) := goodIn_app (goodIn_of _ (by decide +kernel)) ggX4_value_X2_inverse
set_option maxRecDepth 20000 in
theorem ggX4_value_X2_product : GoodIn wsX4_value wsX2_product := goodIn_r _ [34, 31, 12, 13, 14, 15] (by decide +kernel) (by decide +kernel)
set_option maxRecDepth 20000 in
theorem gX4_value_X2_product : GoodIn wsX4_value (va_wsS RX4 164 yX2_product wsX2_product) := goodIn_app (goodIn_of _ (by decide +kernel)) ggX4_value_X2_product
theorem dX4_value_0 : decode cX4_value 0 = .ok (.aload_n 0, 1) := by decide +kernel
theorem dX4_value_1 : decode cX4_value 1 = .ok (.iload_n 1, 1) := by decide +kernel
theorem dX4_value_2 : decode cX4_value 2 = .ok (.invokevirtual 81, 3) := by decide +kernel
theorem dX4_value_5 : decode cX4_value 5 = .ok (.astore 4, 2) := by decide +kernel
theorem dX4_value_7 : decode cX4_value 7 = .ok (.lload_n 2, 1) := by decide +kernel
theorem dX4_value_8 : decode cX4_value 8 = .ok (.invokestatic 64, 3) := by decide +kernel
theorem dX4_value_11 : decode cX4_value 11 = .ok (.istore 5, 2) := by decide +kernel
theorem dX4_value_13 : decode cX4_value 13 = .ok (.aload 4, 2) := by decide +kernel
theorem dX4_value_15 : decode cX4_value 15 = .ok (.getfield 86, 3) := by decide +kernel
theorem dX4_value_18 : decode cX4_value 18 = .ok (.iload 5, 2) := by decide +kernel
theorem dX4_value_20 : decode cX4_value 20 = .ok (.invokevirtual 158, 3) := by decide +kernel
theorem dX4_value_23 : decode cX4_value 23 = .ok (.istore 6, 2) := by decide +kernel
theorem dX4_value_25 : decode cX4_value 25 = .ok (.iload 6, 2) := by decide +kernel
theorem dX4_value_27 : decode cX4_value 27 = .ok (.ifCond .ne 5, 3) := by decide +kernel
theorem dX4_value_30 : decode cX4_value 30 = .ok (.iconst (-1), 1) := by decide +kernel
theorem dX4_value_31 : decode cX4_value 31 = .ok (.ireturn, 1) := by decide +kernel
theorem dX4_value_32 : decode cX4_value 32 = .ok (.aload 4, 2) := by decide +kernel
theorem dX4_value_34 : decode cX4_value 34 = .ok (.getfield 85, 3) := by decide +kernel
theorem dX4_value_37 : decode cX4_value 37 = .ok (.iload 5, 2) := by decide +kernel
theorem dX4_value_39 : decode cX4_value 39 = .ok (.invokevirtual 158, 3) := by decide +kernel
theorem dX4_value_42 : decode cX4_value 42 = .ok (.iload 6, 2) := by decide +kernel
theorem dX4_value_44 : decode cX4_value 44 = .ok (.invokestatic 161, 3) := by decide +kernel
theorem dX4_value_47 : decode cX4_value 47 = .ok (.invokestatic 164, 3) := by decide +kernel
theorem dX4_value_50 : decode cX4_value 50 = .ok (.ireturn, 1) := by decide +kernel
set_option maxRecDepth 20000 in
theorem ggX4_same_X4_known : GoodIn wsX4_same wsX4_known := goodIn_ca (goodIn_r _ [7, 8, 9, 10, 24, 25, 26, 27, 28, 29, 30, 31, 32, 33] (by decide +kernel) (by decide +kernel)) (goodIn_sub (fun _ h => List.mem_cons_of_mem _ (List.mem_append_right _ h)) (by decide +kernel))
set_option maxRecDepth 20000 in
theorem gX4_same_X4_known : GoodIn wsX4_same (wsV RX4 81 RX4 yX4_known wsX4_known) := goodIn_app (goodIn_of _ (by decide +kernel)) ggX4_same_X4_known
set_option maxRecDepth 20000 in
theorem ggX4_same_X3_matches : GoodIn wsX4_same wsX3_matches := goodIn_r _ [15, 16, 17, 18, 19, 14, 20, 21, 34, 35] (by decide +kernel) (by decide +kernel)
set_option maxRecDepth 20000 in
theorem gX4_same_X3_matches : GoodIn wsX4_same (wsV RX4 118 RX3 yX3_matches wsX3_matches) := goodIn_app (goodIn_of _ (by decide +kernel)) ggX4_same_X3_matches
theorem dX4_same_0 : decode cX4_same 0 = .ok (.aload_n 0, 1) := by decide +kernel
theorem dX4_same_1 : decode cX4_same 1 = .ok (.iload_n 1, 1) := by decide +kernel
theorem dX4_same_2 : decode cX4_same 2 = .ok (.invokevirtual 81, 3) := by decide +kernel
theorem dX4_same_5 : decode cX4_same 5 = .ok (.astore_n 3, 1) := by decide +kernel
theorem dX4_same_6 : decode cX4_same 6 = .ok (.aload_n 0, 1) := by decide +kernel
theorem dX4_same_7 : decode cX4_same 7 = .ok (.iload_n 2, 1) := by decide +kernel
theorem dX4_same_8 : decode cX4_same 8 = .ok (.invokevirtual 81, 3) := by decide +kernel
theorem dX4_same_11 : decode cX4_same 11 = .ok (.astore 4, 2) := by decide +kernel
theorem dX4_same_13 : decode cX4_same 13 = .ok (.aload_n 3, 1) := by decide +kernel
theorem dX4_same_14 : decode cX4_same 14 = .ok (.getfield 85, 3) := by decide +kernel
theorem dX4_same_17 : decode cX4_same 17 = .ok (.aload 4, 2) := by decide +kernel
theorem dX4_same_19 : decode cX4_same 19 = .ok (.getfield 85, 3) := by decide +kernel
theorem dX4_same_22 : decode cX4_same 22 = .ok (.invokevirtual 118, 3) := by decide +kernel
theorem dX4_same_25 : decode cX4_same 25 = .ok (.ifCond .eq 22, 3) := by decide +kernel
theorem dX4_same_28 : decode cX4_same 28 = .ok (.aload_n 3, 1) := by decide +kernel
theorem dX4_same_29 : decode cX4_same 29 = .ok (.getfield 86, 3) := by decide +kernel
theorem dX4_same_32 : decode cX4_same 32 = .ok (.aload 4, 2) := by decide +kernel
theorem dX4_same_34 : decode cX4_same 34 = .ok (.getfield 86, 3) := by decide +kernel
theorem dX4_same_37 : decode cX4_same 37 = .ok (.invokevirtual 118, 3) := by decide +kernel
theorem dX4_same_40 : decode cX4_same 40 = .ok (.ifCond .eq 7, 3) := by decide +kernel
theorem dX4_same_43 : decode cX4_same 43 = .ok (.iconst 1, 1) := by decide +kernel
theorem dX4_same_44 : decode cX4_same 44 = .ok (.goto 4, 3) := by decide +kernel
theorem dX4_same_47 : decode cX4_same 47 = .ok (.iconst 0, 1) := by decide +kernel
theorem dX4_same_48 : decode cX4_same 48 = .ok (.ireturn, 1) := by decide +kernel
theorem dX4_count_0 : decode cX4_count 0 = .ok (.aload_n 0, 1) := by decide +kernel
theorem dX4_count_1 : decode cX4_count 1 = .ok (.getfield 31, 3) := by decide +kernel
theorem dX4_count_4 : decode cX4_count 4 = .ok (.ireturn, 1) := by decide +kernel
theorem dX4_known_0 : decode cX4_known 0 = .ok (.iload_n 1, 1) := by decide +kernel
theorem dX4_known_1 : decode cX4_known 1 = .ok (.ifCond .lt 21, 3) := by decide +kernel
theorem dX4_known_4 : decode cX4_known 4 = .ok (.iload_n 1, 1) := by decide +kernel
theorem dX4_known_5 : decode cX4_known 5 = .ok (.aload_n 0, 1) := by decide +kernel
theorem dX4_known_6 : decode cX4_known 6 = .ok (.getfield 27, 3) := by decide +kernel
theorem dX4_known_9 : decode cX4_known 9 = .ok (.arraylength, 1) := by decide +kernel
theorem dX4_known_10 : decode cX4_known 10 = .ok (.if_icmp .ge 12, 3) := by decide +kernel
theorem dX4_known_13 : decode cX4_known 13 = .ok (.aload_n 0, 1) := by decide +kernel
theorem dX4_known_14 : decode cX4_known 14 = .ok (.getfield 27, 3) := by decide +kernel
theorem dX4_known_17 : decode cX4_known 17 = .ok (.iload_n 1, 1) := by decide +kernel
theorem dX4_known_18 : decode cX4_known 18 = .ok (.aaload, 1) := by decide +kernel
theorem dX4_known_19 : decode cX4_known 19 = .ok (.goto 4, 3) := by decide +kernel
theorem dX4_known_22 : decode cX4_known 22 = .ok (.aconst_null, 1) := by decide +kernel
theorem dX4_known_23 : decode cX4_known 23 = .ok (.astore_n 2, 1) := by decide +kernel
theorem dX4_known_24 : decode cX4_known 24 = .ok (.aload_n 2, 1) := by decide +kernel
theorem dX4_known_25 : decode cX4_known 25 = .ok (.ifnonnull 13, 3) := by decide +kernel
theorem dX4_known_28 : decode cX4_known 28 = .ok (.new 167, 3) := by decide +kernel
theorem dX4_known_31 : decode cX4_known 31 = .ok (.dup, 1) := by decide +kernel
theorem dX4_known_32 : decode cX4_known 32 = .ok (.ldc 169, 2) := by decide +kernel
theorem dX4_known_34 : decode cX4_known 34 = .ok (.invokespecial 171, 3) := by decide +kernel
theorem dX4_known_37 : decode cX4_known 37 = .ok (.athrow, 1) := by decide +kernel
theorem dX4_known_38 : decode cX4_known 38 = .ok (.aload_n 2, 1) := by decide +kernel
theorem dX4_known_39 : decode cX4_known 39 = .ok (.areturn, 1) := by decide +kernel
theorem dX4_refuseWhenFull_0 : decode cX4_refuseWhenFull 0 = .ok (.aload_n 0, 1) := by decide +kernel
theorem dX4_refuseWhenFull_1 : decode cX4_refuseWhenFull 1 = .ok (.getfield 31, 3) := by decide +kernel
theorem dX4_refuseWhenFull_4 : decode cX4_refuseWhenFull 4 = .ok (.ifCond .lt 15, 3) := by decide +kernel
theorem dX4_refuseWhenFull_7 : decode cX4_refuseWhenFull 7 = .ok (.aload_n 0, 1) := by decide +kernel
theorem dX4_refuseWhenFull_8 : decode cX4_refuseWhenFull 8 = .ok (.getfield 31, 3) := by decide +kernel
theorem dX4_refuseWhenFull_11 : decode cX4_refuseWhenFull 11 = .ok (.aload_n 0, 1) := by decide +kernel
theorem dX4_refuseWhenFull_12 : decode cX4_refuseWhenFull 12 = .ok (.getfield 27, 3) := by decide +kernel
theorem dX4_refuseWhenFull_15 : decode cX4_refuseWhenFull 15 = .ok (.arraylength, 1) := by decide +kernel
theorem dX4_refuseWhenFull_16 : decode cX4_refuseWhenFull 16 = .ok (.if_icmp .lt 13, 3) := by decide +kernel
theorem dX4_refuseWhenFull_19 : decode cX4_refuseWhenFull 19 = .ok (.new 172, 3) := by decide +kernel
theorem dX4_refuseWhenFull_22 : decode cX4_refuseWhenFull 22 = .ok (.dup, 1) := by decide +kernel
theorem dX4_refuseWhenFull_23 : decode cX4_refuseWhenFull 23 = .ok (.ldc 174, 2) := by decide +kernel
theorem dX4_refuseWhenFull_25 : decode cX4_refuseWhenFull 25 = .ok (.invokespecial 176, 3) := by decide +kernel
theorem dX4_refuseWhenFull_28 : decode cX4_refuseWhenFull 28 = .ok (.athrow, 1) := by decide +kernel
theorem dX4_refuseWhenFull_29 : decode cX4_refuseWhenFull 29 = .ok (.return_, 1) := by decide +kernel
set_option maxRecDepth 20000 in
theorem ggX4_refuseZeroRatioBottom_X3_isZero : GoodIn wsX4_refuseZeroRatioBottom wsX3_isZero := goodIn_r _ [8, 9, 20, 21] (by decide +kernel) (by decide +kernel)
set_option maxRecDepth 20000 in
theorem gX4_refuseZeroRatioBottom_X3_isZero : GoodIn wsX4_refuseZeroRatioBottom (wsV RX4 95 RX3 yX3_isZero wsX3_isZero) := goodIn_app (goodIn_of _ (by decide +kernel)) ggX4_refuseZeroRatioBottom_X3_isZero
theorem dX4_refuseZeroRatioBottom_0 : decode cX4_refuseZeroRatioBottom 0 = .ok (.aload_n 0, 1) := by decide +kernel
theorem dX4_refuseZeroRatioBottom_1 : decode cX4_refuseZeroRatioBottom 1 = .ok (.getfield 22, 3) := by decide +kernel
theorem dX4_refuseZeroRatioBottom_4 : decode cX4_refuseZeroRatioBottom 4 = .ok (.invokevirtual 95, 3) := by decide +kernel
theorem dX4_refuseZeroRatioBottom_7 : decode cX4_refuseZeroRatioBottom 7 = .ok (.ifCond .eq 13, 3) := by decide +kernel
theorem dX4_refuseZeroRatioBottom_10 : decode cX4_refuseZeroRatioBottom 10 = .ok (.new 99, 3) := by decide +kernel
theorem dX4_refuseZeroRatioBottom_13 : decode cX4_refuseZeroRatioBottom 13 = .ok (.dup, 1) := by decide +kernel
theorem dX4_refuseZeroRatioBottom_14 : decode cX4_refuseZeroRatioBottom 14 = .ok (.ldc 177, 2) := by decide +kernel
theorem dX4_refuseZeroRatioBottom_16 : decode cX4_refuseZeroRatioBottom 16 = .ok (.invokespecial 103, 3) := by decide +kernel
theorem dX4_refuseZeroRatioBottom_19 : decode cX4_refuseZeroRatioBottom 19 = .ok (.athrow, 1) := by decide +kernel
theorem dX4_refuseZeroRatioBottom_20 : decode cX4_refuseZeroRatioBottom 20 = .ok (.return_, 1) := by decide +kernel
set_option maxRecDepth 20000 in
theorem ggX4_refuseZeroDivisors_X4_refuseZeroRatioBottom : GoodIn wsX4_refuseZeroDivisors wsX4_refuseZeroRatioBottom := goodIn_ca (goodIn_r _ [8, 1, 2, 9, 10, 11, 12, 13, 14, 15, 18, 19, 20, 21, 22, 23, 24, 25, 26, 27, 28, 29] (by decide +kernel) (by decide +kernel)) (goodIn_sub (fun _ h => List.mem_cons_of_mem _ (List.mem_append_right _ h)) (by decide +kernel))
set_option maxRecDepth 20000 in
theorem gX4_refuseZeroDivisors_X4_refuseZeroRatioBottom : GoodIn wsX4_refuseZeroDivisors (wsV RX4 111 RX4 yX4_refuseZeroRatioBottom wsX4_refuseZeroRatioBottom) := goodIn_app (goodIn_of _ (by decide +kernel)) ggX4_refuseZeroDivisors_X4_refuseZeroRatioBottom
set_option maxRecDepth 20000 in
theorem ggX4_refuseZeroDivisors_X3_isZero : GoodIn wsX4_refuseZeroDivisors wsX3_isZero := goodIn_r _ [14, 15, 28, 29] (by decide +kernel) (by decide +kernel)
set_option maxRecDepth 20000 in
theorem gX4_refuseZeroDivisors_X3_isZero : GoodIn wsX4_refuseZeroDivisors (wsV RX4 95 RX3 yX3_isZero wsX3_isZero) := goodIn_app (goodIn_of _ (by decide +kernel)) ggX4_refuseZeroDivisors_X3_isZero
theorem dX4_refuseZeroDivisors_0 : decode cX4_refuseZeroDivisors 0 = .ok (.aload_n 0, 1) := by decide +kernel
theorem dX4_refuseZeroDivisors_1 : decode cX4_refuseZeroDivisors 1 = .ok (.invokevirtual 111, 3) := by decide +kernel
theorem dX4_refuseZeroDivisors_4 : decode cX4_refuseZeroDivisors 4 = .ok (.aload_n 1, 1) := by decide +kernel
theorem dX4_refuseZeroDivisors_5 : decode cX4_refuseZeroDivisors 5 = .ok (.getfield 85, 3) := by decide +kernel
theorem dX4_refuseZeroDivisors_8 : decode cX4_refuseZeroDivisors 8 = .ok (.invokevirtual 95, 3) := by decide +kernel
theorem dX4_refuseZeroDivisors_11 : decode cX4_refuseZeroDivisors 11 = .ok (.ifCond .eq 13, 3) := by decide +kernel
theorem dX4_refuseZeroDivisors_14 : decode cX4_refuseZeroDivisors 14 = .ok (.new 99, 3) := by decide +kernel
theorem dX4_refuseZeroDivisors_17 : decode cX4_refuseZeroDivisors 17 = .ok (.dup, 1) := by decide +kernel
theorem dX4_refuseZeroDivisors_18 : decode cX4_refuseZeroDivisors 18 = .ok (.ldc 179, 2) := by decide +kernel
theorem dX4_refuseZeroDivisors_20 : decode cX4_refuseZeroDivisors 20 = .ok (.invokespecial 103, 3) := by decide +kernel
theorem dX4_refuseZeroDivisors_23 : decode cX4_refuseZeroDivisors 23 = .ok (.athrow, 1) := by decide +kernel
theorem dX4_refuseZeroDivisors_24 : decode cX4_refuseZeroDivisors 24 = .ok (.return_, 1) := by decide +kernel
theorem dX4_refuseWrongBound_0 : decode cX4_refuseWrongBound 0 = .ok (.iload_n 0, 1) := by decide +kernel
theorem dX4_refuseWrongBound_1 : decode cX4_refuseWrongBound 1 = .ok (.ifCond .lt 9, 3) := by decide +kernel
theorem dX4_refuseWrongBound_4 : decode cX4_refuseWrongBound 4 = .ok (.iload_n 0, 1) := by decide +kernel
theorem dX4_refuseWrongBound_5 : decode cX4_refuseWrongBound 5 = .ok (.bipush 8, 2) := by decide +kernel
theorem dX4_refuseWrongBound_7 : decode cX4_refuseWrongBound 7 = .ok (.if_icmp .le 13, 3) := by decide +kernel
theorem dX4_refuseWrongBound_10 : decode cX4_refuseWrongBound 10 = .ok (.new 57, 3) := by decide +kernel
theorem dX4_refuseWrongBound_13 : decode cX4_refuseWrongBound 13 = .ok (.dup, 1) := by decide +kernel
theorem dX4_refuseWrongBound_14 : decode cX4_refuseWrongBound 14 = .ok (.ldc 181, 2) := by decide +kernel
theorem dX4_refuseWrongBound_16 : decode cX4_refuseWrongBound 16 = .ok (.invokespecial 61, 3) := by decide +kernel
theorem dX4_refuseWrongBound_19 : decode cX4_refuseWrongBound 19 = .ok (.athrow, 1) := by decide +kernel
theorem dX4_refuseWrongBound_20 : decode cX4_refuseWrongBound 20 = .ok (.return_, 1) := by decide +kernel
set_option maxRecDepth 20000 in
theorem ggX4_setToStep_X3_copy : GoodIn wsX4_setToStep wsX3_copy := goodIn_r _ [13, 14, 15, 16, 17, 12, 18, 19, 20, 21, 22, 23, 24, 25, 26, 27, 64, 65] (by decide +kernel) (by decide +kernel)
set_option maxRecDepth 20000 in
theorem gX4_setToStep_X3_copy : GoodIn wsX4_setToStep (wsV RX4 104 RX3 yX3_copy wsX3_copy) := goodIn_app (goodIn_of _ (by decide +kernel)) ggX4_setToStep_X3_copy
set_option maxRecDepth 20000 in
theorem ggX4_setToStep_X3_moveByOne : GoodIn wsX4_setToStep wsX3_moveByOne := goodIn_r _ [31, 14, 24, 25, 26, 12, 27, 23, 32, 33, 34, 35, 36, 19, 20, 21, 22, 64, 65] (by decide +kernel) (by decide +kernel)
set_option maxRecDepth 20000 in
theorem gX4_setToStep_X3_moveByOne : GoodIn wsX4_setToStep (wsV RX4 108 RX3 yX3_moveByOne wsX3_moveByOne) := goodIn_app (goodIn_of _ (by decide +kernel)) ggX4_setToStep_X3_moveByOne
set_option maxRecDepth 20000 in
theorem ggX4_setToStep_X3_setProduct : GoodIn wsX4_setToStep wsX3_setProduct := goodIn_r _ [40, 14, 41, 42, 43, 44, 45, 46, 47, 15, 16, 17, 12, 18, 19, 20, 21, 22, 23, 24, 25, 26, 27, 32, 33, 34, 35, 36, 64, 65] (by decide +kernel) (by decide +kernel)
set_option maxRecDepth 20000 in
theorem gX4_setToStep_X3_setProduct : GoodIn wsX4_setToStep (wsV RX4 87 RX3 yX3_setProduct wsX3_setProduct) := goodIn_app (goodIn_of _ (by decide +kernel)) ggX4_setToStep_X3_setProduct
set_option maxRecDepth 20000 in
theorem ggX4_setToStep_X3_gather : GoodIn wsX4_setToStep wsX3_gather := goodIn_r _ [51, 14, 24, 25, 26, 12, 27, 23, 32, 33, 34, 35, 36, 19, 20, 21, 22, 64, 65] (by decide +kernel) (by decide +kernel)
set_option maxRecDepth 20000 in
theorem gX4_setToStep_X3_gather : GoodIn wsX4_setToStep (wsV RX4 91 RX3 yX3_gather wsX3_gather) := goodIn_app (goodIn_of _ (by decide +kernel)) ggX4_setToStep_X3_gather
theorem dX4_setToStep_0 : decode cX4_setToStep 0 = .ok (.aload_n 0, 1) := by decide +kernel
theorem dX4_setToStep_1 : decode cX4_setToStep 1 = .ok (.getfield 41, 3) := by decide +kernel
theorem dX4_setToStep_4 : decode cX4_setToStep 4 = .ok (.aload_n 1, 1) := by decide +kernel
theorem dX4_setToStep_5 : decode cX4_setToStep 5 = .ok (.getfield 85, 3) := by decide +kernel
theorem dX4_setToStep_8 : decode cX4_setToStep 8 = .ok (.invokevirtual 104, 3) := by decide +kernel
theorem dX4_setToStep_11 : decode cX4_setToStep 11 = .ok (.aload_n 0, 1) := by decide +kernel
theorem dX4_setToStep_12 : decode cX4_setToStep 12 = .ok (.getfield 41, 3) := by decide +kernel
theorem dX4_setToStep_15 : decode cX4_setToStep 15 = .ok (.invokevirtual 108, 3) := by decide +kernel
theorem dX4_setToStep_18 : decode cX4_setToStep 18 = .ok (.aload_n 0, 1) := by decide +kernel
theorem dX4_setToStep_19 : decode cX4_setToStep 19 = .ok (.getfield 44, 3) := by decide +kernel
theorem dX4_setToStep_22 : decode cX4_setToStep 22 = .ok (.aload_n 0, 1) := by decide +kernel
theorem dX4_setToStep_23 : decode cX4_setToStep 23 = .ok (.getfield 41, 3) := by decide +kernel
theorem dX4_setToStep_26 : decode cX4_setToStep 26 = .ok (.aload_n 0, 1) := by decide +kernel
theorem dX4_setToStep_27 : decode cX4_setToStep 27 = .ok (.getfield 14, 3) := by decide +kernel
theorem dX4_setToStep_30 : decode cX4_setToStep 30 = .ok (.invokevirtual 87, 3) := by decide +kernel
theorem dX4_setToStep_33 : decode cX4_setToStep 33 = .ok (.aload_n 0, 1) := by decide +kernel
theorem dX4_setToStep_34 : decode cX4_setToStep 34 = .ok (.getfield 35, 3) := by decide +kernel
theorem dX4_setToStep_37 : decode cX4_setToStep 37 = .ok (.aload_n 0, 1) := by decide +kernel
theorem dX4_setToStep_38 : decode cX4_setToStep 38 = .ok (.getfield 44, 3) := by decide +kernel
theorem dX4_setToStep_41 : decode cX4_setToStep 41 = .ok (.aload_n 1, 1) := by decide +kernel
theorem dX4_setToStep_42 : decode cX4_setToStep 42 = .ok (.getfield 86, 3) := by decide +kernel
theorem dX4_setToStep_45 : decode cX4_setToStep 45 = .ok (.invokevirtual 87, 3) := by decide +kernel
theorem dX4_setToStep_48 : decode cX4_setToStep 48 = .ok (.aload_n 0, 1) := by decide +kernel
theorem dX4_setToStep_49 : decode cX4_setToStep 49 = .ok (.getfield 41, 3) := by decide +kernel
theorem dX4_setToStep_52 : decode cX4_setToStep 52 = .ok (.aload_n 1, 1) := by decide +kernel
theorem dX4_setToStep_53 : decode cX4_setToStep 53 = .ok (.getfield 86, 3) := by decide +kernel
theorem dX4_setToStep_56 : decode cX4_setToStep 56 = .ok (.invokevirtual 104, 3) := by decide +kernel
theorem dX4_setToStep_59 : decode cX4_setToStep 59 = .ok (.aload_n 0, 1) := by decide +kernel
theorem dX4_setToStep_60 : decode cX4_setToStep 60 = .ok (.getfield 41, 3) := by decide +kernel
theorem dX4_setToStep_63 : decode cX4_setToStep 63 = .ok (.invokevirtual 108, 3) := by decide +kernel
theorem dX4_setToStep_66 : decode cX4_setToStep 66 = .ok (.aload_n 0, 1) := by decide +kernel
theorem dX4_setToStep_67 : decode cX4_setToStep 67 = .ok (.getfield 44, 3) := by decide +kernel
theorem dX4_setToStep_70 : decode cX4_setToStep 70 = .ok (.aload_n 0, 1) := by decide +kernel
theorem dX4_setToStep_71 : decode cX4_setToStep 71 = .ok (.getfield 41, 3) := by decide +kernel
theorem dX4_setToStep_74 : decode cX4_setToStep 74 = .ok (.aload_n 0, 1) := by decide +kernel
theorem dX4_setToStep_75 : decode cX4_setToStep 75 = .ok (.getfield 22, 3) := by decide +kernel
theorem dX4_setToStep_78 : decode cX4_setToStep 78 = .ok (.invokevirtual 87, 3) := by decide +kernel
theorem dX4_setToStep_81 : decode cX4_setToStep 81 = .ok (.aload_n 0, 1) := by decide +kernel
theorem dX4_setToStep_82 : decode cX4_setToStep 82 = .ok (.getfield 38, 3) := by decide +kernel
theorem dX4_setToStep_85 : decode cX4_setToStep 85 = .ok (.aload_n 0, 1) := by decide +kernel
theorem dX4_setToStep_86 : decode cX4_setToStep 86 = .ok (.getfield 44, 3) := by decide +kernel
theorem dX4_setToStep_89 : decode cX4_setToStep 89 = .ok (.aload_n 1, 1) := by decide +kernel
theorem dX4_setToStep_90 : decode cX4_setToStep 90 = .ok (.getfield 86, 3) := by decide +kernel
theorem dX4_setToStep_93 : decode cX4_setToStep 93 = .ok (.invokevirtual 87, 3) := by decide +kernel
theorem dX4_setToStep_96 : decode cX4_setToStep 96 = .ok (.aload_n 0, 1) := by decide +kernel
theorem dX4_setToStep_97 : decode cX4_setToStep 97 = .ok (.getfield 41, 3) := by decide +kernel
theorem dX4_setToStep_100 : decode cX4_setToStep 100 = .ok (.aload_n 0, 1) := by decide +kernel
theorem dX4_setToStep_101 : decode cX4_setToStep 101 = .ok (.getfield 44, 3) := by decide +kernel
theorem dX4_setToStep_104 : decode cX4_setToStep 104 = .ok (.aload_n 1, 1) := by decide +kernel
theorem dX4_setToStep_105 : decode cX4_setToStep 105 = .ok (.getfield 85, 3) := by decide +kernel
theorem dX4_setToStep_108 : decode cX4_setToStep 108 = .ok (.invokevirtual 87, 3) := by decide +kernel
theorem dX4_setToStep_111 : decode cX4_setToStep 111 = .ok (.aload_n 0, 1) := by decide +kernel
theorem dX4_setToStep_112 : decode cX4_setToStep 112 = .ok (.getfield 35, 3) := by decide +kernel
theorem dX4_setToStep_115 : decode cX4_setToStep 115 = .ok (.aload_n 0, 1) := by decide +kernel
theorem dX4_setToStep_116 : decode cX4_setToStep 116 = .ok (.getfield 41, 3) := by decide +kernel
theorem dX4_setToStep_119 : decode cX4_setToStep 119 = .ok (.sipush 32002, 3) := by decide +kernel
theorem dX4_setToStep_122 : decode cX4_setToStep 122 = .ok (.iconst 0, 1) := by decide +kernel
theorem dX4_setToStep_123 : decode cX4_setToStep 123 = .ok (.invokevirtual 91, 3) := by decide +kernel
theorem dX4_setToStep_126 : decode cX4_setToStep 126 = .ok (.return_, 1) := by decide +kernel
set_option maxRecDepth 20000 in
theorem ggX4_findPlain_X0_set : GoodIn wsX4_findPlain wsX0_set := goodIn_r _ [10, 11, 12, 13, 14, 15, 16, 17, 18, 19, 20, 21, 22, 23, 24, 25, 26, 27, 28, 29, 30, 31, 32, 33, 34, 35, 36, 37, 38, 39, 40, 41, 42, 43, 44, 45, 46, 47, 48, 49, 50, 51, 52, 53, 54, 55, 56, 57, 58, 59, 60, 61, 62, 63, 64, 65, 113, 114, 115, 116, 117, 118, 119, 120, 111, 112, 121, 122] (by decide +kernel) (by decide +kernel)
set_option maxRecDepth 20000 in
theorem gX4_findPlain_X0_set : GoodIn wsX4_findPlain (wsV RX4 144 RX0 yX0_set wsX0_set) := goodIn_app (goodIn_of _ (by decide +kernel)) ggX4_findPlain_X0_set
set_option maxRecDepth 20000 in
theorem ggX4_findPlain_X0_eliminate : GoodIn wsX4_findPlain wsX0_eliminate := goodIn_r _ [69, 70, 18, 71, 72, 73, 74, 9, 75, 76, 35, 36, 22, 37, 33, 77, 78, 79, 80, 15, 81, 82, 44, 83, 84, 43, 45, 46, 85, 86, 87, 88, 89, 90, 58, 59, 60, 61, 24, 34, 42, 29, 30, 31, 32, 91, 113, 114, 115, 116, 117, 118, 119, 120, 121, 122] (by decide +kernel) (by decide +kernel)
set_option maxRecDepth 20000 in
theorem gX4_findPlain_X0_eliminate : GoodIn wsX4_findPlain (wsV RX4 148 RX0 yX0_eliminate wsX0_eliminate) := goodIn_app (goodIn_of _ (by decide +kernel)) ggX4_findPlain_X0_eliminate
set_option maxRecDepth 20000 in
theorem ggX4_findPlain_X0_areSolvable : GoodIn wsX4_findPlain wsX0_areSolvable := goodIn_r _ [95, 15, 72, 73, 74, 9, 75, 70, 76, 35, 36, 22, 37, 33, 113, 114, 115, 116, 117, 118, 119, 120, 121, 122] (by decide +kernel) (by decide +kernel)
set_option maxRecDepth 20000 in
theorem gX4_findPlain_X0_areSolvable : GoodIn wsX4_findPlain (wsV RX4 183 RX0 yX0_areSolvable wsX0_areSolvable) := goodIn_app (goodIn_of _ (by decide +kernel)) ggX4_findPlain_X0_areSolvable
set_option maxRecDepth 20000 in
theorem ggX4_findPlain_X0_writeSolution : GoodIn wsX4_findPlain wsX0_writeSolution := goodIn_r _ [99, 71, 15, 100, 26, 27, 22, 28, 24, 29, 30, 31, 32, 33, 76, 35, 36, 37, 91, 113, 114, 115, 116, 117, 118, 119, 120, 121, 122] (by decide +kernel) (by decide +kernel)
set_option maxRecDepth 20000 in
theorem gX4_findPlain_X0_writeSolution : GoodIn wsX4_findPlain (wsV RX4 186 RX0 yX0_writeSolution wsX0_writeSolution) := goodIn_app (goodIn_of _ (by decide +kernel)) ggX4_findPlain_X0_writeSolution
theorem dX4_findPlain_0 : decode cX4_findPlain 0 = .ok (.aload_n 0, 1) := by decide +kernel
theorem dX4_findPlain_1 : decode cX4_findPlain 1 = .ok (.getfield 53, 3) := by decide +kernel
theorem dX4_findPlain_4 : decode cX4_findPlain 4 = .ok (.aload_n 1, 1) := by decide +kernel
theorem dX4_findPlain_5 : decode cX4_findPlain 5 = .ok (.aload_n 2, 1) := by decide +kernel
theorem dX4_findPlain_6 : decode cX4_findPlain 6 = .ok (.getfield 85, 3) := by decide +kernel
theorem dX4_findPlain_9 : decode cX4_findPlain 9 = .ok (.aload_n 0, 1) := by decide +kernel
theorem dX4_findPlain_10 : decode cX4_findPlain 10 = .ok (.getfield 14, 3) := by decide +kernel
theorem dX4_findPlain_13 : decode cX4_findPlain 13 = .ok (.aload_n 0, 1) := by decide +kernel
theorem dX4_findPlain_14 : decode cX4_findPlain 14 = .ok (.getfield 22, 3) := by decide +kernel
theorem dX4_findPlain_17 : decode cX4_findPlain 17 = .ok (.invokevirtual 144, 3) := by decide +kernel
theorem dX4_findPlain_20 : decode cX4_findPlain 20 = .ok (.aload_n 0, 1) := by decide +kernel
theorem dX4_findPlain_21 : decode cX4_findPlain 21 = .ok (.getfield 53, 3) := by decide +kernel
theorem dX4_findPlain_24 : decode cX4_findPlain 24 = .ok (.invokevirtual 148, 3) := by decide +kernel
theorem dX4_findPlain_27 : decode cX4_findPlain 27 = .ok (.aload_n 0, 1) := by decide +kernel
theorem dX4_findPlain_28 : decode cX4_findPlain 28 = .ok (.getfield 53, 3) := by decide +kernel
theorem dX4_findPlain_31 : decode cX4_findPlain 31 = .ok (.invokevirtual 183, 3) := by decide +kernel
theorem dX4_findPlain_34 : decode cX4_findPlain 34 = .ok (.ifCond .ne 5, 3) := by decide +kernel
theorem dX4_findPlain_37 : decode cX4_findPlain 37 = .ok (.iconst 0, 1) := by decide +kernel
theorem dX4_findPlain_38 : decode cX4_findPlain 38 = .ok (.ireturn, 1) := by decide +kernel
theorem dX4_findPlain_39 : decode cX4_findPlain 39 = .ok (.aload_n 0, 1) := by decide +kernel
theorem dX4_findPlain_40 : decode cX4_findPlain 40 = .ok (.getfield 53, 3) := by decide +kernel
theorem dX4_findPlain_43 : decode cX4_findPlain 43 = .ok (.aload_n 0, 1) := by decide +kernel
theorem dX4_findPlain_44 : decode cX4_findPlain 44 = .ok (.getfield 35, 3) := by decide +kernel
theorem dX4_findPlain_47 : decode cX4_findPlain 47 = .ok (.invokevirtual 186, 3) := by decide +kernel
theorem dX4_findPlain_50 : decode cX4_findPlain 50 = .ok (.iconst 1, 1) := by decide +kernel
theorem dX4_findPlain_51 : decode cX4_findPlain 51 = .ok (.ireturn, 1) := by decide +kernel
set_option maxRecDepth 20000 in
theorem ggX4_keepResult_X4_refuseWhenFull : GoodIn wsX4_keepResult wsX4_refuseWhenFull := goodIn_ca (goodIn_r _ [15, 1, 2, 6, 7, 100, 101, 102, 103, 104, 105, 106, 107, 108, 109] (by decide +kernel) (by decide +kernel)) (goodIn_sub (fun _ h => List.mem_cons_of_mem _ (List.mem_append_right _ h)) (by decide +kernel))
set_option maxRecDepth 20000 in
theorem gX4_keepResult_X4_refuseWhenFull : GoodIn wsX4_keepResult (wsV RX4 128 RX4 yX4_refuseWhenFull wsX4_refuseWhenFull) := goodIn_app (goodIn_of _ (by decide +kernel)) ggX4_keepResult_X4_refuseWhenFull
set_option maxRecDepth 20000 in
theorem ggX4_keepResult_X4_toLowestTerms : GoodIn wsX4_keepResult wsX4_toLowestTerms := goodIn_r _ [19, 20, 3, 21, 5, 22, 23, 24, 25, 26, 27, 28, 29, 30, 31, 32, 33, 34, 35, 36, 37, 38, 39, 40, 41, 42, 43, 14, 44, 45, 46, 47, 48, 49, 50, 51, 52, 53, 54, 55, 56, 57, 58, 59, 60, 61, 62, 63, 64, 65, 66, 67, 68, 69, 70, 71, 72, 73, 74, 75, 76, 77, 78, 79, 100, 101, 102, 103, 104, 105, 106, 107, 108, 109, 110, 111] (by decide +kernel) (by decide +kernel)
set_option maxRecDepth 20000 in
theorem gX4_keepResult_X4_toLowestTerms : GoodIn wsX4_keepResult (wsV RX4 189 RX4 yX4_toLowestTerms wsX4_toLowestTerms) := goodIn_app (goodIn_of _ (by decide +kernel)) ggX4_keepResult_X4_toLowestTerms
set_option maxRecDepth 20000 in
theorem ggX4_keepResult_X1_init : GoodIn wsX4_keepResult wsX1_init := goodIn_r _ [82, 83, 84, 85, 86, 87, 26, 88, 89, 90, 91, 92, 93, 28, 94, 95, 96, 97, 98, 37, 99, 24, 25, 27, 29, 30, 31, 32, 33, 34, 35, 36, 38, 39, 40, 41, 110, 111, 112, 113] (by decide +kernel) (by decide +kernel)
set_option maxRecDepth 20000 in
theorem gX4_keepResult_X1_init : GoodIn wsX4_keepResult (wsX1_init) := ggX4_keepResult_X1_init
theorem dX4_keepResult_0 : decode cX4_keepResult 0 = .ok (.aload_n 0, 1) := by decide +kernel
theorem dX4_keepResult_1 : decode cX4_keepResult 1 = .ok (.invokevirtual 128, 3) := by decide +kernel
theorem dX4_keepResult_4 : decode cX4_keepResult 4 = .ok (.aload_n 0, 1) := by decide +kernel
theorem dX4_keepResult_5 : decode cX4_keepResult 5 = .ok (.invokevirtual 189, 3) := by decide +kernel
theorem dX4_keepResult_8 : decode cX4_keepResult 8 = .ok (.aload_n 0, 1) := by decide +kernel
theorem dX4_keepResult_9 : decode cX4_keepResult 9 = .ok (.getfield 35, 3) := by decide +kernel
theorem dX4_keepResult_12 : decode cX4_keepResult 12 = .ok (.getfield 135, 3) := by decide +kernel
theorem dX4_keepResult_15 : decode cX4_keepResult 15 = .ok (.bipush 20, 2) := by decide +kernel
theorem dX4_keepResult_17 : decode cX4_keepResult 17 = .ok (.if_icmp .gt 15, 3) := by decide +kernel
theorem dX4_keepResult_20 : decode cX4_keepResult 20 = .ok (.aload_n 0, 1) := by decide +kernel
theorem dX4_keepResult_21 : decode cX4_keepResult 21 = .ok (.getfield 38, 3) := by decide +kernel
theorem dX4_keepResult_24 : decode cX4_keepResult 24 = .ok (.getfield 135, 3) := by decide +kernel
theorem dX4_keepResult_27 : decode cX4_keepResult 27 = .ok (.bipush 20, 2) := by decide +kernel
theorem dX4_keepResult_29 : decode cX4_keepResult 29 = .ok (.if_icmp .le 13, 3) := by decide +kernel
theorem dX4_keepResult_32 : decode cX4_keepResult 32 = .ok (.new 172, 3) := by decide +kernel
theorem dX4_keepResult_35 : decode cX4_keepResult 35 = .ok (.dup, 1) := by decide +kernel
theorem dX4_keepResult_36 : decode cX4_keepResult 36 = .ok (.ldc 192, 2) := by decide +kernel
theorem dX4_keepResult_38 : decode cX4_keepResult 38 = .ok (.invokespecial 176, 3) := by decide +kernel
theorem dX4_keepResult_41 : decode cX4_keepResult 41 = .ok (.athrow, 1) := by decide +kernel
theorem dX4_keepResult_42 : decode cX4_keepResult 42 = .ok (.aload_n 0, 1) := by decide +kernel
theorem dX4_keepResult_43 : decode cX4_keepResult 43 = .ok (.getfield 31, 3) := by decide +kernel
theorem dX4_keepResult_46 : decode cX4_keepResult 46 = .ok (.istore_n 1, 1) := by decide +kernel
theorem dX4_keepResult_47 : decode cX4_keepResult 47 = .ok (.aload_n 0, 1) := by decide +kernel
theorem dX4_keepResult_48 : decode cX4_keepResult 48 = .ok (.getfield 27, 3) := by decide +kernel
theorem dX4_keepResult_51 : decode cX4_keepResult 51 = .ok (.iload_n 1, 1) := by decide +kernel
theorem dX4_keepResult_52 : decode cX4_keepResult 52 = .ok (.new 25, 3) := by decide +kernel
theorem dX4_keepResult_55 : decode cX4_keepResult 55 = .ok (.dup, 1) := by decide +kernel
theorem dX4_keepResult_56 : decode cX4_keepResult 56 = .ok (.aload_n 0, 1) := by decide +kernel
theorem dX4_keepResult_57 : decode cX4_keepResult 57 = .ok (.getfield 35, 3) := by decide +kernel
theorem dX4_keepResult_60 : decode cX4_keepResult 60 = .ok (.aload_n 0, 1) := by decide +kernel
theorem dX4_keepResult_61 : decode cX4_keepResult 61 = .ok (.getfield 38, 3) := by decide +kernel
theorem dX4_keepResult_64 : decode cX4_keepResult 64 = .ok (.invokespecial 194, 3) := by decide +kernel
theorem dX4_keepResult_67 : decode cX4_keepResult 67 = .ok (.aastore, 1) := by decide +kernel
theorem dX4_keepResult_68 : decode cX4_keepResult 68 = .ok (.aload_n 0, 1) := by decide +kernel
theorem dX4_keepResult_69 : decode cX4_keepResult 69 = .ok (.dup, 1) := by decide +kernel
theorem dX4_keepResult_70 : decode cX4_keepResult 70 = .ok (.getfield 31, 3) := by decide +kernel
theorem dX4_keepResult_73 : decode cX4_keepResult 73 = .ok (.iconst 1, 1) := by decide +kernel
theorem dX4_keepResult_74 : decode cX4_keepResult 74 = .ok (.iadd, 1) := by decide +kernel
theorem dX4_keepResult_75 : decode cX4_keepResult 75 = .ok (.putfield 31, 3) := by decide +kernel
theorem dX4_keepResult_78 : decode cX4_keepResult 78 = .ok (.iload_n 1, 1) := by decide +kernel
theorem dX4_keepResult_79 : decode cX4_keepResult 79 = .ok (.ireturn, 1) := by decide +kernel
set_option maxRecDepth 20000 in
theorem ggX4_toLowestTerms_X3_copy : GoodIn wsX4_toLowestTerms wsX3_copy := goodIn_r _ [10, 11, 12, 13, 14, 9, 15, 16, 17, 18, 19, 20, 21, 22, 23, 24, 74, 75] (by decide +kernel) (by decide +kernel)
set_option maxRecDepth 20000 in
theorem gX4_toLowestTerms_X3_copy : GoodIn wsX4_toLowestTerms (wsV RX4 104 RX3 yX3_copy wsX3_copy) := goodIn_app (goodIn_of _ (by decide +kernel)) ggX4_toLowestTerms_X3_copy
set_option maxRecDepth 20000 in
theorem ggX4_toLowestTerms_X4_greatestDivisor : GoodIn wsX4_toLowestTerms wsX4_greatestDivisor := goodIn_r _ [28, 29, 30, 31, 9, 32, 11, 33, 34, 35, 36, 12, 13, 14, 15, 16, 17, 18, 19, 20, 37, 38, 39, 40, 41, 21, 22, 23, 24, 42, 43, 44, 45, 46, 47, 48, 49, 50, 51, 52, 53, 54, 55, 56, 57, 74, 75] (by decide +kernel) (by decide +kernel)
set_option maxRecDepth 20000 in
theorem gX4_toLowestTerms_X4_greatestDivisor : GoodIn wsX4_toLowestTerms (va_wsS RX4 196 yX4_greatestDivisor wsX4_greatestDivisor) := goodIn_app (goodIn_of _ (by decide +kernel)) ggX4_toLowestTerms_X4_greatestDivisor
set_option maxRecDepth 20000 in
theorem ggX4_toLowestTerms_X3_divide : GoodIn wsX4_toLowestTerms wsX3_divide := goodIn_r _ [36, 11, 12, 13, 14, 9, 15, 16, 17, 18, 19, 20, 37, 30, 31, 32, 38, 39, 40, 41, 21, 22, 23, 24, 42, 43, 44, 45, 46, 47, 48, 49, 50, 51, 52, 53, 54, 55, 56, 57, 74, 75] (by decide +kernel) (by decide +kernel)
set_option maxRecDepth 20000 in
theorem gX4_toLowestTerms_X3_divide : GoodIn wsX4_toLowestTerms (wsV RX4 200 RX3 yX3_divide wsX3_divide) := goodIn_app (goodIn_of _ (by decide +kernel)) ggX4_toLowestTerms_X3_divide
set_option maxRecDepth 20000 in
theorem ggX4_toLowestTerms_X3_leading : GoodIn wsX4_toLowestTerms wsX3_leading := goodIn_r _ [41, 11, 21, 22, 23, 9, 24, 20, 74, 75] (by decide +kernel) (by decide +kernel)
set_option maxRecDepth 20000 in
theorem gX4_toLowestTerms_X3_leading : GoodIn wsX4_toLowestTerms (wsV RX4 203 RX3 yX3_leading wsX3_leading) := goodIn_app (goodIn_of _ (by decide +kernel)) ggX4_toLowestTerms_X3_leading
set_option maxRecDepth 20000 in
theorem ggX4_toLowestTerms_X2_inverse : GoodIn wsX4_toLowestTerms wsX2_inverse := goodIn_r _ [45, 46, 47, 44, 48, 49] (by decide +kernel) (by decide +kernel)
set_option maxRecDepth 20000 in
theorem gX4_toLowestTerms_X2_inverse : GoodIn wsX4_toLowestTerms (va_wsS RX4 161 yX2_inverse wsX2_inverse) := goodIn_app (goodIn_of _ (by decide +kernel)) ggX4_toLowestTerms_X2_inverse
set_option maxRecDepth 20000 in
theorem ggX4_toLowestTerms_X3_scale : GoodIn wsX4_toLowestTerms wsX3_scale := goodIn_r _ [63, 11, 21, 22, 23, 9, 24, 20, 50, 51, 44, 52, 46, 47, 48, 49, 16, 17, 18, 19, 74, 75] (by decide +kernel) (by decide +kernel)
set_option maxRecDepth 20000 in
theorem gX4_toLowestTerms_X3_scale : GoodIn wsX4_toLowestTerms (wsV RX4 206 RX3 yX3_scale wsX3_scale) := goodIn_app (goodIn_of _ (by decide +kernel)) ggX4_toLowestTerms_X3_scale
theorem dX4_toLowestTerms_0 : decode cX4_toLowestTerms 0 = .ok (.aload_n 0, 1) := by decide +kernel
theorem dX4_toLowestTerms_1 : decode cX4_toLowestTerms 1 = .ok (.getfield 41, 3) := by decide +kernel
theorem dX4_toLowestTerms_4 : decode cX4_toLowestTerms 4 = .ok (.aload_n 0, 1) := by decide +kernel
theorem dX4_toLowestTerms_5 : decode cX4_toLowestTerms 5 = .ok (.getfield 35, 3) := by decide +kernel
theorem dX4_toLowestTerms_8 : decode cX4_toLowestTerms 8 = .ok (.invokevirtual 104, 3) := by decide +kernel
theorem dX4_toLowestTerms_11 : decode cX4_toLowestTerms 11 = .ok (.aload_n 0, 1) := by decide +kernel
theorem dX4_toLowestTerms_12 : decode cX4_toLowestTerms 12 = .ok (.getfield 44, 3) := by decide +kernel
theorem dX4_toLowestTerms_15 : decode cX4_toLowestTerms 15 = .ok (.aload_n 0, 1) := by decide +kernel
theorem dX4_toLowestTerms_16 : decode cX4_toLowestTerms 16 = .ok (.getfield 38, 3) := by decide +kernel
theorem dX4_toLowestTerms_19 : decode cX4_toLowestTerms 19 = .ok (.invokevirtual 104, 3) := by decide +kernel
theorem dX4_toLowestTerms_22 : decode cX4_toLowestTerms 22 = .ok (.aload_n 0, 1) := by decide +kernel
theorem dX4_toLowestTerms_23 : decode cX4_toLowestTerms 23 = .ok (.getfield 41, 3) := by decide +kernel
theorem dX4_toLowestTerms_26 : decode cX4_toLowestTerms 26 = .ok (.aload_n 0, 1) := by decide +kernel
theorem dX4_toLowestTerms_27 : decode cX4_toLowestTerms 27 = .ok (.getfield 44, 3) := by decide +kernel
theorem dX4_toLowestTerms_30 : decode cX4_toLowestTerms 30 = .ok (.aload_n 0, 1) := by decide +kernel
theorem dX4_toLowestTerms_31 : decode cX4_toLowestTerms 31 = .ok (.getfield 47, 3) := by decide +kernel
theorem dX4_toLowestTerms_34 : decode cX4_toLowestTerms 34 = .ok (.invokestatic 196, 3) := by decide +kernel
theorem dX4_toLowestTerms_37 : decode cX4_toLowestTerms 37 = .ok (.astore_n 1, 1) := by decide +kernel
theorem dX4_toLowestTerms_38 : decode cX4_toLowestTerms 38 = .ok (.aload_n 0, 1) := by decide +kernel
theorem dX4_toLowestTerms_39 : decode cX4_toLowestTerms 39 = .ok (.getfield 35, 3) := by decide +kernel
theorem dX4_toLowestTerms_42 : decode cX4_toLowestTerms 42 = .ok (.aload_n 1, 1) := by decide +kernel
theorem dX4_toLowestTerms_43 : decode cX4_toLowestTerms 43 = .ok (.aload_n 0, 1) := by decide +kernel
theorem dX4_toLowestTerms_44 : decode cX4_toLowestTerms 44 = .ok (.getfield 47, 3) := by decide +kernel
theorem dX4_toLowestTerms_47 : decode cX4_toLowestTerms 47 = .ok (.invokevirtual 200, 3) := by decide +kernel
theorem dX4_toLowestTerms_50 : decode cX4_toLowestTerms 50 = .ok (.aload_n 0, 1) := by decide +kernel
theorem dX4_toLowestTerms_51 : decode cX4_toLowestTerms 51 = .ok (.getfield 35, 3) := by decide +kernel
theorem dX4_toLowestTerms_54 : decode cX4_toLowestTerms 54 = .ok (.aload_n 0, 1) := by decide +kernel
theorem dX4_toLowestTerms_55 : decode cX4_toLowestTerms 55 = .ok (.getfield 47, 3) := by decide +kernel
theorem dX4_toLowestTerms_58 : decode cX4_toLowestTerms 58 = .ok (.invokevirtual 104, 3) := by decide +kernel
theorem dX4_toLowestTerms_61 : decode cX4_toLowestTerms 61 = .ok (.aload_n 0, 1) := by decide +kernel
theorem dX4_toLowestTerms_62 : decode cX4_toLowestTerms 62 = .ok (.getfield 38, 3) := by decide +kernel
theorem dX4_toLowestTerms_65 : decode cX4_toLowestTerms 65 = .ok (.aload_n 1, 1) := by decide +kernel
theorem dX4_toLowestTerms_66 : decode cX4_toLowestTerms 66 = .ok (.aload_n 0, 1) := by decide +kernel
theorem dX4_toLowestTerms_67 : decode cX4_toLowestTerms 67 = .ok (.getfield 47, 3) := by decide +kernel
theorem dX4_toLowestTerms_70 : decode cX4_toLowestTerms 70 = .ok (.invokevirtual 200, 3) := by decide +kernel
theorem dX4_toLowestTerms_73 : decode cX4_toLowestTerms 73 = .ok (.aload_n 0, 1) := by decide +kernel
theorem dX4_toLowestTerms_74 : decode cX4_toLowestTerms 74 = .ok (.getfield 38, 3) := by decide +kernel
theorem dX4_toLowestTerms_77 : decode cX4_toLowestTerms 77 = .ok (.aload_n 0, 1) := by decide +kernel
theorem dX4_toLowestTerms_78 : decode cX4_toLowestTerms 78 = .ok (.getfield 47, 3) := by decide +kernel
theorem dX4_toLowestTerms_81 : decode cX4_toLowestTerms 81 = .ok (.invokevirtual 104, 3) := by decide +kernel
theorem dX4_toLowestTerms_84 : decode cX4_toLowestTerms 84 = .ok (.aload_n 0, 1) := by decide +kernel
theorem dX4_toLowestTerms_85 : decode cX4_toLowestTerms 85 = .ok (.getfield 38, 3) := by decide +kernel
theorem dX4_toLowestTerms_88 : decode cX4_toLowestTerms 88 = .ok (.invokevirtual 203, 3) := by decide +kernel
theorem dX4_toLowestTerms_91 : decode cX4_toLowestTerms 91 = .ok (.invokestatic 161, 3) := by decide +kernel
theorem dX4_toLowestTerms_94 : decode cX4_toLowestTerms 94 = .ok (.istore_n 2, 1) := by decide +kernel
theorem dX4_toLowestTerms_95 : decode cX4_toLowestTerms 95 = .ok (.aload_n 0, 1) := by decide +kernel
theorem dX4_toLowestTerms_96 : decode cX4_toLowestTerms 96 = .ok (.getfield 35, 3) := by decide +kernel
theorem dX4_toLowestTerms_99 : decode cX4_toLowestTerms 99 = .ok (.iload_n 2, 1) := by decide +kernel
theorem dX4_toLowestTerms_100 : decode cX4_toLowestTerms 100 = .ok (.invokevirtual 206, 3) := by decide +kernel
theorem dX4_toLowestTerms_103 : decode cX4_toLowestTerms 103 = .ok (.aload_n 0, 1) := by decide +kernel
theorem dX4_toLowestTerms_104 : decode cX4_toLowestTerms 104 = .ok (.getfield 38, 3) := by decide +kernel
theorem dX4_toLowestTerms_107 : decode cX4_toLowestTerms 107 = .ok (.iload_n 2, 1) := by decide +kernel
theorem dX4_toLowestTerms_108 : decode cX4_toLowestTerms 108 = .ok (.invokevirtual 206, 3) := by decide +kernel
theorem dX4_toLowestTerms_111 : decode cX4_toLowestTerms 111 = .ok (.return_, 1) := by decide +kernel
set_option maxRecDepth 20000 in
theorem ggX4_greatestDivisor_X3_isZero : GoodIn wsX4_greatestDivisor wsX3_isZero := goodIn_r _ [5, 6, 45, 46] (by decide +kernel) (by decide +kernel)
set_option maxRecDepth 20000 in
theorem gX4_greatestDivisor_X3_isZero : GoodIn wsX4_greatestDivisor (wsV RX4 95 RX3 yX3_isZero wsX3_isZero) := goodIn_app (goodIn_of _ (by decide +kernel)) ggX4_greatestDivisor_X3_isZero
set_option maxRecDepth 20000 in
theorem ggX4_greatestDivisor_X3_divide : GoodIn wsX4_greatestDivisor wsX3_divide := goodIn_r _ [10, 6, 11, 12, 13, 4, 14, 15, 16, 17, 18, 19, 20, 2, 3, 5, 21, 22, 23, 24, 25, 26, 27, 28, 29, 30, 31, 32, 33, 34, 35, 36, 37, 38, 39, 40, 41, 42, 43, 44, 45, 46] (by decide +kernel) (by decide +kernel)
set_option maxRecDepth 20000 in
theorem gX4_greatestDivisor_X3_divide : GoodIn wsX4_greatestDivisor (wsV RX4 200 RX3 yX3_divide wsX3_divide) := goodIn_app (goodIn_of _ (by decide +kernel)) ggX4_greatestDivisor_X3_divide
theorem dX4_greatestDivisor_0 : decode cX4_greatestDivisor 0 = .ok (.aload_n 0, 1) := by decide +kernel
theorem dX4_greatestDivisor_1 : decode cX4_greatestDivisor 1 = .ok (.astore_n 3, 1) := by decide +kernel
theorem dX4_greatestDivisor_2 : decode cX4_greatestDivisor 2 = .ok (.aload_n 1, 1) := by decide +kernel
theorem dX4_greatestDivisor_3 : decode cX4_greatestDivisor 3 = .ok (.astore 4, 2) := by decide +kernel
theorem dX4_greatestDivisor_5 : decode cX4_greatestDivisor 5 = .ok (.iconst 0, 1) := by decide +kernel
theorem dX4_greatestDivisor_6 : decode cX4_greatestDivisor 6 = .ok (.istore 5, 2) := by decide +kernel
theorem dX4_greatestDivisor_8 : decode cX4_greatestDivisor 8 = .ok (.iload 5, 2) := by decide +kernel
theorem dX4_greatestDivisor_10 : decode cX4_greatestDivisor 10 = .ok (.bipush 64, 2) := by decide +kernel
theorem dX4_greatestDivisor_12 : decode cX4_greatestDivisor 12 = .ok (.if_icmp .gt 34, 3) := by decide +kernel
theorem dX4_greatestDivisor_15 : decode cX4_greatestDivisor 15 = .ok (.aload 4, 2) := by decide +kernel
theorem dX4_greatestDivisor_17 : decode cX4_greatestDivisor 17 = .ok (.invokevirtual 95, 3) := by decide +kernel
theorem dX4_greatestDivisor_20 : decode cX4_greatestDivisor 20 = .ok (.ifCond .ne 26, 3) := by decide +kernel
theorem dX4_greatestDivisor_23 : decode cX4_greatestDivisor 23 = .ok (.aload_n 3, 1) := by decide +kernel
theorem dX4_greatestDivisor_24 : decode cX4_greatestDivisor 24 = .ok (.aload 4, 2) := by decide +kernel
theorem dX4_greatestDivisor_26 : decode cX4_greatestDivisor 26 = .ok (.aload_n 2, 1) := by decide +kernel
theorem dX4_greatestDivisor_27 : decode cX4_greatestDivisor 27 = .ok (.invokevirtual 200, 3) := by decide +kernel
theorem dX4_greatestDivisor_30 : decode cX4_greatestDivisor 30 = .ok (.aload_n 3, 1) := by decide +kernel
theorem dX4_greatestDivisor_31 : decode cX4_greatestDivisor 31 = .ok (.astore 6, 2) := by decide +kernel
theorem dX4_greatestDivisor_33 : decode cX4_greatestDivisor 33 = .ok (.aload 4, 2) := by decide +kernel
theorem dX4_greatestDivisor_35 : decode cX4_greatestDivisor 35 = .ok (.astore_n 3, 1) := by decide +kernel
theorem dX4_greatestDivisor_36 : decode cX4_greatestDivisor 36 = .ok (.aload 6, 2) := by decide +kernel
theorem dX4_greatestDivisor_38 : decode cX4_greatestDivisor 38 = .ok (.astore 4, 2) := by decide +kernel
theorem dX4_greatestDivisor_40 : decode cX4_greatestDivisor 40 = .ok (.iinc 5 1, 3) := by decide +kernel
theorem dX4_greatestDivisor_43 : decode cX4_greatestDivisor 43 = .ok (.goto (-35), 3) := by decide +kernel
theorem dX4_greatestDivisor_46 : decode cX4_greatestDivisor 46 = .ok (.aload_n 3, 1) := by decide +kernel
theorem dX4_greatestDivisor_47 : decode cX4_greatestDivisor 47 = .ok (.areturn, 1) := by decide +kernel
end
section
theorem dX5_init_0 : decode cX5_init 0 = .ok (.aload_n 0, 1) := by decide +kernel
theorem dX5_init_1 : decode cX5_init 1 = .ok (.invokespecial 1, 3) := by decide +kernel
theorem dX5_init_4 : decode cX5_init 4 = .ok (.aload_n 0, 1) := by decide +kernel
theorem dX5_init_5 : decode cX5_init 5 = .ok (.sipush 1050, 3) := by decide +kernel
theorem dX5_init_8 : decode cX5_init 8 = .ok (.newarray .int, 2) := by decide +kernel
theorem dX5_init_10 : decode cX5_init 10 = .ok (.putfield 7, 3) := by decide +kernel
theorem dX5_init_13 : decode cX5_init 13 = .ok (.aload_n 0, 1) := by decide +kernel
theorem dX5_init_14 : decode cX5_init 14 = .ok (.sipush 1050, 3) := by decide +kernel
theorem dX5_init_17 : decode cX5_init 17 = .ok (.newarray .int, 2) := by decide +kernel
theorem dX5_init_19 : decode cX5_init 19 = .ok (.putfield 13, 3) := by decide +kernel
theorem dX5_init_22 : decode cX5_init 22 = .ok (.aload_n 0, 1) := by decide +kernel
theorem dX5_init_23 : decode cX5_init 23 = .ok (.iconst 4, 1) := by decide +kernel
theorem dX5_init_24 : decode cX5_init 24 = .ok (.newarray .int, 2) := by decide +kernel
theorem dX5_init_26 : decode cX5_init 26 = .ok (.putfield 16, 3) := by decide +kernel
theorem dX5_init_29 : decode cX5_init 29 = .ok (.aload_n 0, 1) := by decide +kernel
theorem dX5_init_30 : decode cX5_init 30 = .ok (.iconst 4, 1) := by decide +kernel
theorem dX5_init_31 : decode cX5_init 31 = .ok (.newarray .int, 2) := by decide +kernel
theorem dX5_init_33 : decode cX5_init 33 = .ok (.putfield 19, 3) := by decide +kernel
theorem dX5_init_36 : decode cX5_init 36 = .ok (.aload_n 0, 1) := by decide +kernel
theorem dX5_init_37 : decode cX5_init 37 = .ok (.bipush 64, 2) := by decide +kernel
theorem dX5_init_39 : decode cX5_init 39 = .ok (.newarray .long, 2) := by decide +kernel
theorem dX5_init_41 : decode cX5_init 41 = .ok (.putfield 22, 3) := by decide +kernel
theorem dX5_init_44 : decode cX5_init 44 = .ok (.aload_n 0, 1) := by decide +kernel
theorem dX5_init_45 : decode cX5_init 45 = .ok (.bipush 64, 2) := by decide +kernel
theorem dX5_init_47 : decode cX5_init 47 = .ok (.newarray .long, 2) := by decide +kernel
theorem dX5_init_49 : decode cX5_init 49 = .ok (.putfield 26, 3) := by decide +kernel
theorem dX5_init_52 : decode cX5_init 52 = .ok (.aload_n 0, 1) := by decide +kernel
theorem dX5_init_53 : decode cX5_init 53 = .ok (.bipush 64, 2) := by decide +kernel
theorem dX5_init_55 : decode cX5_init 55 = .ok (.newarray .long, 2) := by decide +kernel
theorem dX5_init_57 : decode cX5_init 57 = .ok (.putfield 29, 3) := by decide +kernel
theorem dX5_init_60 : decode cX5_init 60 = .ok (.aload_n 0, 1) := by decide +kernel
theorem dX5_init_61 : decode cX5_init 61 = .ok (.bipush 64, 2) := by decide +kernel
theorem dX5_init_63 : decode cX5_init 63 = .ok (.newarray .long, 2) := by decide +kernel
theorem dX5_init_65 : decode cX5_init 65 = .ok (.putfield 32, 3) := by decide +kernel
theorem dX5_init_68 : decode cX5_init 68 = .ok (.aload_n 0, 1) := by decide +kernel
theorem dX5_init_69 : decode cX5_init 69 = .ok (.bipush 64, 2) := by decide +kernel
theorem dX5_init_71 : decode cX5_init 71 = .ok (.newarray .long, 2) := by decide +kernel
theorem dX5_init_73 : decode cX5_init 73 = .ok (.putfield 35, 3) := by decide +kernel
theorem dX5_init_76 : decode cX5_init 76 = .ok (.aload_n 0, 1) := by decide +kernel
theorem dX5_init_77 : decode cX5_init 77 = .ok (.bipush 64, 2) := by decide +kernel
theorem dX5_init_79 : decode cX5_init 79 = .ok (.newarray .long, 2) := by decide +kernel
theorem dX5_init_81 : decode cX5_init 81 = .ok (.putfield 38, 3) := by decide +kernel
theorem dX5_init_84 : decode cX5_init 84 = .ok (.aload_n 0, 1) := by decide +kernel
theorem dX5_init_85 : decode cX5_init 85 = .ok (.bipush 64, 2) := by decide +kernel
theorem dX5_init_87 : decode cX5_init 87 = .ok (.newarray .long, 2) := by decide +kernel
theorem dX5_init_89 : decode cX5_init 89 = .ok (.putfield 41, 3) := by decide +kernel
theorem dX5_init_92 : decode cX5_init 92 = .ok (.aload_n 0, 1) := by decide +kernel
theorem dX5_init_93 : decode cX5_init 93 = .ok (.bipush 64, 2) := by decide +kernel
theorem dX5_init_95 : decode cX5_init 95 = .ok (.newarray .long, 2) := by decide +kernel
theorem dX5_init_97 : decode cX5_init 97 = .ok (.putfield 44, 3) := by decide +kernel
theorem dX5_init_100 : decode cX5_init 100 = .ok (.aload_n 0, 1) := by decide +kernel
theorem dX5_init_101 : decode cX5_init 101 = .ok (.sipush 640, 3) := by decide +kernel
theorem dX5_init_104 : decode cX5_init 104 = .ok (.newarray .long, 2) := by decide +kernel
theorem dX5_init_106 : decode cX5_init 106 = .ok (.putfield 47, 3) := by decide +kernel
theorem dX5_init_109 : decode cX5_init 109 = .ok (.aload_n 0, 1) := by decide +kernel
theorem dX5_init_110 : decode cX5_init 110 = .ok (.bipush 9, 2) := by decide +kernel
theorem dX5_init_112 : decode cX5_init 112 = .ok (.newarray .int, 2) := by decide +kernel
theorem dX5_init_114 : decode cX5_init 114 = .ok (.putfield 50, 3) := by decide +kernel
theorem dX5_init_117 : decode cX5_init 117 = .ok (.aload_n 0, 1) := by decide +kernel
theorem dX5_init_118 : decode cX5_init 118 = .ok (.bipush 64, 2) := by decide +kernel
theorem dX5_init_120 : decode cX5_init 120 = .ok (.newarray .long, 2) := by decide +kernel
theorem dX5_init_122 : decode cX5_init 122 = .ok (.putfield 53, 3) := by decide +kernel
theorem dX5_init_125 : decode cX5_init 125 = .ok (.aload_n 0, 1) := by decide +kernel
theorem dX5_init_126 : decode cX5_init 126 = .ok (.bipush 64, 2) := by decide +kernel
theorem dX5_init_128 : decode cX5_init 128 = .ok (.newarray .long, 2) := by decide +kernel
theorem dX5_init_130 : decode cX5_init 130 = .ok (.putfield 56, 3) := by decide +kernel
theorem dX5_init_133 : decode cX5_init 133 = .ok (.aload_n 0, 1) := by decide +kernel
theorem dX5_init_134 : decode cX5_init 134 = .ok (.bipush 64, 2) := by decide +kernel
theorem dX5_init_136 : decode cX5_init 136 = .ok (.newarray .long, 2) := by decide +kernel
theorem dX5_init_138 : decode cX5_init 138 = .ok (.putfield 59, 3) := by decide +kernel
theorem dX5_init_141 : decode cX5_init 141 = .ok (.aload_n 0, 1) := by decide +kernel
theorem dX5_init_142 : decode cX5_init 142 = .ok (.getfield 16, 3) := by decide +kernel
theorem dX5_init_145 : decode cX5_init 145 = .ok (.iconst 0, 1) := by decide +kernel
theorem dX5_init_146 : decode cX5_init 146 = .ok (.iconst 1, 1) := by decide +kernel
theorem dX5_init_147 : decode cX5_init 147 = .ok (.iastore, 1) := by decide +kernel
theorem dX5_init_148 : decode cX5_init 148 = .ok (.aload_n 0, 1) := by decide +kernel
theorem dX5_init_149 : decode cX5_init 149 = .ok (.getfield 19, 3) := by decide +kernel
theorem dX5_init_152 : decode cX5_init 152 = .ok (.iconst 0, 1) := by decide +kernel
theorem dX5_init_153 : decode cX5_init 153 = .ok (.iconst 1, 1) := by decide +kernel
theorem dX5_init_154 : decode cX5_init 154 = .ok (.iastore, 1) := by decide +kernel
theorem dX5_init_155 : decode cX5_init 155 = .ok (.return_, 1) := by decide +kernel
theorem dX5_thrown_0 : decode cX5_thrown 0 = .ok (.aload_n 0, 1) := by decide +kernel
theorem dX5_thrown_1 : decode cX5_thrown 1 = .ok (.getfield 62, 3) := by decide +kernel
theorem dX5_thrown_4 : decode cX5_thrown 4 = .ok (.ireturn, 1) := by decide +kernel
theorem dX5_raise_0 : decode cX5_raise 0 = .ok (.aload_n 0, 1) := by decide +kernel
theorem dX5_raise_1 : decode cX5_raise 1 = .ok (.iload_n 1, 1) := by decide +kernel
theorem dX5_raise_2 : decode cX5_raise 2 = .ok (.putfield 62, 3) := by decide +kernel
theorem dX5_raise_5 : decode cX5_raise 5 = .ok (.iconst 0, 1) := by decide +kernel
theorem dX5_raise_6 : decode cX5_raise 6 = .ok (.ireturn, 1) := by decide +kernel
theorem dX5_in_0 : decode cX5_in 0 = .ok (.lload_n 0, 1) := by decide +kernel
theorem dX5_in_1 : decode cX5_in 1 = .ok (.lload_n 2, 1) := by decide +kernel
theorem dX5_in_2 : decode cX5_in 2 = .ok (.lcmp, 1) := by decide +kernel
theorem dX5_in_3 : decode cX5_in 3 = .ok (.ifCond .lt 14, 3) := by decide +kernel
theorem dX5_in_6 : decode cX5_in 6 = .ok (.lload_n 0, 1) := by decide +kernel
theorem dX5_in_7 : decode cX5_in 7 = .ok (.lload 4, 2) := by decide +kernel
theorem dX5_in_9 : decode cX5_in 9 = .ok (.lcmp, 1) := by decide +kernel
theorem dX5_in_10 : decode cX5_in 10 = .ok (.ifCond .gt 7, 3) := by decide +kernel
theorem dX5_in_13 : decode cX5_in 13 = .ok (.iconst 1, 1) := by decide +kernel
theorem dX5_in_14 : decode cX5_in 14 = .ok (.goto 4, 3) := by decide +kernel
theorem dX5_in_17 : decode cX5_in 17 = .ok (.iconst 0, 1) := by decide +kernel
theorem dX5_in_18 : decode cX5_in 18 = .ok (.ireturn, 1) := by decide +kernel
theorem dX5_modulo_0 : decode cX5_modulo 0 = .ok (.lload_n 0, 1) := by decide +kernel
theorem dX5_modulo_1 : decode cX5_modulo 1 = .ok (.ldc2_w 66, 3) := by decide +kernel
theorem dX5_modulo_4 : decode cX5_modulo 4 = .ok (.lrem, 1) := by decide +kernel
theorem dX5_modulo_5 : decode cX5_modulo 5 = .ok (.lstore_n 2, 1) := by decide +kernel
theorem dX5_modulo_6 : decode cX5_modulo 6 = .ok (.lload_n 2, 1) := by decide +kernel
theorem dX5_modulo_7 : decode cX5_modulo 7 = .ok (.lconst 0, 1) := by decide +kernel
theorem dX5_modulo_8 : decode cX5_modulo 8 = .ok (.lcmp, 1) := by decide +kernel
theorem dX5_modulo_9 : decode cX5_modulo 9 = .ok (.ifCond .ge 11, 3) := by decide +kernel
theorem dX5_modulo_12 : decode cX5_modulo 12 = .ok (.lload_n 2, 1) := by decide +kernel
theorem dX5_modulo_13 : decode cX5_modulo 13 = .ok (.ldc2_w 66, 3) := by decide +kernel
theorem dX5_modulo_16 : decode cX5_modulo 16 = .ok (.ladd, 1) := by decide +kernel
theorem dX5_modulo_17 : decode cX5_modulo 17 = .ok (.goto 4, 3) := by decide +kernel
theorem dX5_modulo_20 : decode cX5_modulo 20 = .ok (.lload_n 2, 1) := by decide +kernel
theorem dX5_modulo_21 : decode cX5_modulo 21 = .ok (.lreturn, 1) := by decide +kernel
theorem dX5_inverse_0 : decode cX5_inverse 0 = .ok (.lconst 1, 1) := by decide +kernel
theorem dX5_inverse_1 : decode cX5_inverse 1 = .ok (.lstore_n 2, 1) := by decide +kernel
theorem dX5_inverse_2 : decode cX5_inverse 2 = .ok (.lload_n 0, 1) := by decide +kernel
theorem dX5_inverse_3 : decode cX5_inverse 3 = .ok (.lstore 4, 2) := by decide +kernel
theorem dX5_inverse_5 : decode cX5_inverse 5 = .ok (.sipush 32001, 3) := by decide +kernel
theorem dX5_inverse_8 : decode cX5_inverse 8 = .ok (.istore 6, 2) := by decide +kernel
theorem dX5_inverse_10 : decode cX5_inverse 10 = .ok (.iload 6, 2) := by decide +kernel
theorem dX5_inverse_12 : decode cX5_inverse 12 = .ok (.ifCond .le 44, 3) := by decide +kernel
theorem dX5_inverse_15 : decode cX5_inverse 15 = .ok (.iload 6, 2) := by decide +kernel
theorem dX5_inverse_17 : decode cX5_inverse 17 = .ok (.iconst 2, 1) := by decide +kernel
theorem dX5_inverse_18 : decode cX5_inverse 18 = .ok (.irem, 1) := by decide +kernel
theorem dX5_inverse_19 : decode cX5_inverse 19 = .ok (.iconst 1, 1) := by decide +kernel
theorem dX5_inverse_20 : decode cX5_inverse 20 = .ok (.if_icmp .ne 14, 3) := by decide +kernel
theorem dX5_inverse_23 : decode cX5_inverse 23 = .ok (.lload_n 2, 1) := by decide +kernel
theorem dX5_inverse_24 : decode cX5_inverse 24 = .ok (.lload 4, 2) := by decide +kernel
theorem dX5_inverse_26 : decode cX5_inverse 26 = .ok (.lmul, 1) := by decide +kernel
theorem dX5_inverse_27 : decode cX5_inverse 27 = .ok (.ldc2_w 66, 3) := by decide +kernel
theorem dX5_inverse_30 : decode cX5_inverse 30 = .ok (.lrem, 1) := by decide +kernel
theorem dX5_inverse_31 : decode cX5_inverse 31 = .ok (.goto 4, 3) := by decide +kernel
theorem dX5_inverse_34 : decode cX5_inverse 34 = .ok (.lload_n 2, 1) := by decide +kernel
theorem dX5_inverse_35 : decode cX5_inverse 35 = .ok (.lstore_n 2, 1) := by decide +kernel
theorem dX5_inverse_36 : decode cX5_inverse 36 = .ok (.lload 4, 2) := by decide +kernel
theorem dX5_inverse_38 : decode cX5_inverse 38 = .ok (.lload 4, 2) := by decide +kernel
theorem dX5_inverse_40 : decode cX5_inverse 40 = .ok (.lmul, 1) := by decide +kernel
theorem dX5_inverse_41 : decode cX5_inverse 41 = .ok (.ldc2_w 66, 3) := by decide +kernel
theorem dX5_inverse_44 : decode cX5_inverse 44 = .ok (.lrem, 1) := by decide +kernel
theorem dX5_inverse_45 : decode cX5_inverse 45 = .ok (.lstore 4, 2) := by decide +kernel
theorem dX5_inverse_47 : decode cX5_inverse 47 = .ok (.iload 6, 2) := by decide +kernel
theorem dX5_inverse_49 : decode cX5_inverse 49 = .ok (.iconst 2, 1) := by decide +kernel
theorem dX5_inverse_50 : decode cX5_inverse 50 = .ok (.idiv, 1) := by decide +kernel
theorem dX5_inverse_51 : decode cX5_inverse 51 = .ok (.istore 6, 2) := by decide +kernel
theorem dX5_inverse_53 : decode cX5_inverse 53 = .ok (.goto (-43), 3) := by decide +kernel
theorem dX5_inverse_56 : decode cX5_inverse 56 = .ok (.lload_n 2, 1) := by decide +kernel
theorem dX5_inverse_57 : decode cX5_inverse 57 = .ok (.lreturn, 1) := by decide +kernel
theorem dX5_empty_0 : decode cX5_empty 0 = .ok (.iconst 0, 1) := by decide +kernel
theorem dX5_empty_1 : decode cX5_empty 1 = .ok (.istore_n 1, 1) := by decide +kernel
theorem dX5_empty_2 : decode cX5_empty 2 = .ok (.iload_n 1, 1) := by decide +kernel
theorem dX5_empty_3 : decode cX5_empty 3 = .ok (.bipush 64, 2) := by decide +kernel
theorem dX5_empty_5 : decode cX5_empty 5 = .ok (.if_icmp .ge 13, 3) := by decide +kernel
theorem dX5_empty_8 : decode cX5_empty 8 = .ok (.aload_n 0, 1) := by decide +kernel
theorem dX5_empty_9 : decode cX5_empty 9 = .ok (.iload_n 1, 1) := by decide +kernel
theorem dX5_empty_10 : decode cX5_empty 10 = .ok (.lconst 0, 1) := by decide +kernel
theorem dX5_empty_11 : decode cX5_empty 11 = .ok (.lastore, 1) := by decide +kernel
theorem dX5_empty_12 : decode cX5_empty 12 = .ok (.iinc 1 1, 3) := by decide +kernel
theorem dX5_empty_15 : decode cX5_empty 15 = .ok (.goto (-13), 3) := by decide +kernel
theorem dX5_empty_18 : decode cX5_empty 18 = .ok (.return_, 1) := by decide +kernel
theorem dX5_copy_0 : decode cX5_copy 0 = .ok (.iconst 0, 1) := by decide +kernel
theorem dX5_copy_1 : decode cX5_copy 1 = .ok (.istore_n 2, 1) := by decide +kernel
theorem dX5_copy_2 : decode cX5_copy 2 = .ok (.iload_n 2, 1) := by decide +kernel
theorem dX5_copy_3 : decode cX5_copy 3 = .ok (.bipush 64, 2) := by decide +kernel
theorem dX5_copy_5 : decode cX5_copy 5 = .ok (.if_icmp .ge 15, 3) := by decide +kernel
theorem dX5_copy_8 : decode cX5_copy 8 = .ok (.aload_n 0, 1) := by decide +kernel
theorem dX5_copy_9 : decode cX5_copy 9 = .ok (.iload_n 2, 1) := by decide +kernel
theorem dX5_copy_10 : decode cX5_copy 10 = .ok (.aload_n 1, 1) := by decide +kernel
theorem dX5_copy_11 : decode cX5_copy 11 = .ok (.iload_n 2, 1) := by decide +kernel
theorem dX5_copy_12 : decode cX5_copy 12 = .ok (.laload, 1) := by decide +kernel
theorem dX5_copy_13 : decode cX5_copy 13 = .ok (.lastore, 1) := by decide +kernel
theorem dX5_copy_14 : decode cX5_copy 14 = .ok (.iinc 2 1, 3) := by decide +kernel
theorem dX5_copy_17 : decode cX5_copy 17 = .ok (.goto (-15), 3) := by decide +kernel
theorem dX5_copy_20 : decode cX5_copy 20 = .ok (.return_, 1) := by decide +kernel
theorem dX5_high_0 : decode cX5_high 0 = .ok (.bipush 63, 2) := by decide +kernel
theorem dX5_high_2 : decode cX5_high 2 = .ok (.istore_n 1, 1) := by decide +kernel
theorem dX5_high_3 : decode cX5_high 3 = .ok (.iload_n 1, 1) := by decide +kernel
theorem dX5_high_4 : decode cX5_high 4 = .ok (.ifCond .lt 17, 3) := by decide +kernel
theorem dX5_high_7 : decode cX5_high 7 = .ok (.aload_n 0, 1) := by decide +kernel
theorem dX5_high_8 : decode cX5_high 8 = .ok (.iload_n 1, 1) := by decide +kernel
theorem dX5_high_9 : decode cX5_high 9 = .ok (.laload, 1) := by decide +kernel
theorem dX5_high_10 : decode cX5_high 10 = .ok (.lconst 0, 1) := by decide +kernel
theorem dX5_high_11 : decode cX5_high 11 = .ok (.lcmp, 1) := by decide +kernel
theorem dX5_high_12 : decode cX5_high 12 = .ok (.ifCond .ne 9, 3) := by decide +kernel
theorem dX5_high_15 : decode cX5_high 15 = .ok (.iinc 1 (-1), 3) := by decide +kernel
theorem dX5_high_18 : decode cX5_high 18 = .ok (.goto (-15), 3) := by decide +kernel
theorem dX5_high_21 : decode cX5_high 21 = .ok (.iload_n 1, 1) := by decide +kernel
theorem dX5_high_22 : decode cX5_high 22 = .ok (.ireturn, 1) := by decide +kernel
theorem dX5_load_0 : decode cX5_load 0 = .ok (.iconst 0, 1) := by decide +kernel
theorem dX5_load_1 : decode cX5_load 1 = .ok (.istore 4, 2) := by decide +kernel
theorem dX5_load_3 : decode cX5_load 3 = .ok (.iload 4, 2) := by decide +kernel
theorem dX5_load_5 : decode cX5_load 5 = .ok (.bipush 64, 2) := by decide +kernel
theorem dX5_load_7 : decode cX5_load 7 = .ok (.if_icmp .ge 30, 3) := by decide +kernel
theorem dX5_load_10 : decode cX5_load 10 = .ok (.aload_n 0, 1) := by decide +kernel
theorem dX5_load_11 : decode cX5_load 11 = .ok (.iload 4, 2) := by decide +kernel
theorem dX5_load_13 : decode cX5_load 13 = .ok (.iload 4, 2) := by decide +kernel
theorem dX5_load_15 : decode cX5_load 15 = .ok (.iload_n 3, 1) := by decide +kernel
theorem dX5_load_16 : decode cX5_load 16 = .ok (.if_icmp .ge 13, 3) := by decide +kernel
theorem dX5_load_19 : decode cX5_load 19 = .ok (.aload_n 1, 1) := by decide +kernel
theorem dX5_load_20 : decode cX5_load 20 = .ok (.iload_n 2, 1) := by decide +kernel
theorem dX5_load_21 : decode cX5_load 21 = .ok (.iload 4, 2) := by decide +kernel
theorem dX5_load_23 : decode cX5_load 23 = .ok (.iadd, 1) := by decide +kernel
theorem dX5_load_24 : decode cX5_load 24 = .ok (.iaload, 1) := by decide +kernel
theorem dX5_load_25 : decode cX5_load 25 = .ok (.i2l, 1) := by decide +kernel
theorem dX5_load_26 : decode cX5_load 26 = .ok (.goto 4, 3) := by decide +kernel
theorem dX5_load_29 : decode cX5_load 29 = .ok (.lconst 0, 1) := by decide +kernel
theorem dX5_load_30 : decode cX5_load 30 = .ok (.lastore, 1) := by decide +kernel
theorem dX5_load_31 : decode cX5_load 31 = .ok (.iinc 4 1, 3) := by decide +kernel
theorem dX5_load_34 : decode cX5_load 34 = .ok (.goto (-31), 3) := by decide +kernel
theorem dX5_load_37 : decode cX5_load 37 = .ok (.return_, 1) := by decide +kernel
set_option maxRecDepth 20000 in
theorem ggX5_multiply_X5_empty : GoodIn wsX5_multiply wsX5_empty := goodIn_r _ [6] (by decide +kernel) (by decide +kernel)
set_option maxRecDepth 20000 in
theorem gX5_multiply_X5_empty : GoodIn wsX5_multiply (va_wsS RX5 68 yX5_empty wsX5_empty) := goodIn_app (goodIn_of _ (by decide +kernel)) ggX5_multiply_X5_empty
set_option maxRecDepth 20000 in
theorem ggX5_multiply_X5_high : GoodIn wsX5_multiply wsX5_high := goodIn_r _ [9] (by decide +kernel) (by decide +kernel)
set_option maxRecDepth 20000 in
theorem gX5_multiply_X5_high : GoodIn wsX5_multiply (va_wsS RX5 72 yX5_high wsX5_high) := goodIn_app (goodIn_of _ (by decide +kernel)) ggX5_multiply_X5_high
theorem dX5_multiply_0 : decode cX5_multiply 0 = .ok (.aload_n 0, 1) := by decide +kernel
theorem dX5_multiply_1 : decode cX5_multiply 1 = .ok (.getfield 38, 3) := by decide +kernel
theorem dX5_multiply_4 : decode cX5_multiply 4 = .ok (.invokestatic 68, 3) := by decide +kernel
theorem dX5_multiply_7 : decode cX5_multiply 7 = .ok (.aload_n 2, 1) := by decide +kernel
theorem dX5_multiply_8 : decode cX5_multiply 8 = .ok (.invokestatic 72, 3) := by decide +kernel
theorem dX5_multiply_11 : decode cX5_multiply 11 = .ok (.istore_n 3, 1) := by decide +kernel
theorem dX5_multiply_12 : decode cX5_multiply 12 = .ok (.aload_n 1, 1) := by decide +kernel
theorem dX5_multiply_13 : decode cX5_multiply 13 = .ok (.invokestatic 72, 3) := by decide +kernel
theorem dX5_multiply_16 : decode cX5_multiply 16 = .ok (.istore 4, 2) := by decide +kernel
theorem dX5_multiply_18 : decode cX5_multiply 18 = .ok (.iload 4, 2) := by decide +kernel
theorem dX5_multiply_20 : decode cX5_multiply 20 = .ok (.ifCond .lt 58, 3) := by decide +kernel
theorem dX5_multiply_23 : decode cX5_multiply 23 = .ok (.iconst 0, 1) := by decide +kernel
theorem dX5_multiply_24 : decode cX5_multiply 24 = .ok (.istore 5, 2) := by decide +kernel
theorem dX5_multiply_26 : decode cX5_multiply 26 = .ok (.iload 5, 2) := by decide +kernel
theorem dX5_multiply_28 : decode cX5_multiply 28 = .ok (.iload_n 3, 1) := by decide +kernel
theorem dX5_multiply_29 : decode cX5_multiply 29 = .ok (.if_icmp .gt 43, 3) := by decide +kernel
theorem dX5_multiply_32 : decode cX5_multiply 32 = .ok (.aload_n 0, 1) := by decide +kernel
theorem dX5_multiply_33 : decode cX5_multiply 33 = .ok (.getfield 38, 3) := by decide +kernel
theorem dX5_multiply_36 : decode cX5_multiply 36 = .ok (.iload 4, 2) := by decide +kernel
theorem dX5_multiply_38 : decode cX5_multiply 38 = .ok (.iload 5, 2) := by decide +kernel
theorem dX5_multiply_40 : decode cX5_multiply 40 = .ok (.iadd, 1) := by decide +kernel
theorem dX5_multiply_41 : decode cX5_multiply 41 = .ok (.aload_n 0, 1) := by decide +kernel
theorem dX5_multiply_42 : decode cX5_multiply 42 = .ok (.getfield 38, 3) := by decide +kernel
theorem dX5_multiply_45 : decode cX5_multiply 45 = .ok (.iload 4, 2) := by decide +kernel
theorem dX5_multiply_47 : decode cX5_multiply 47 = .ok (.iload 5, 2) := by decide +kernel
theorem dX5_multiply_49 : decode cX5_multiply 49 = .ok (.iadd, 1) := by decide +kernel
theorem dX5_multiply_50 : decode cX5_multiply 50 = .ok (.laload, 1) := by decide +kernel
theorem dX5_multiply_51 : decode cX5_multiply 51 = .ok (.aload_n 1, 1) := by decide +kernel
theorem dX5_multiply_52 : decode cX5_multiply 52 = .ok (.iload 4, 2) := by decide +kernel
theorem dX5_multiply_54 : decode cX5_multiply 54 = .ok (.laload, 1) := by decide +kernel
theorem dX5_multiply_55 : decode cX5_multiply 55 = .ok (.aload_n 2, 1) := by decide +kernel
theorem dX5_multiply_56 : decode cX5_multiply 56 = .ok (.iload 5, 2) := by decide +kernel
theorem dX5_multiply_58 : decode cX5_multiply 58 = .ok (.laload, 1) := by decide +kernel
theorem dX5_multiply_59 : decode cX5_multiply 59 = .ok (.lmul, 1) := by decide +kernel
theorem dX5_multiply_60 : decode cX5_multiply 60 = .ok (.ladd, 1) := by decide +kernel
theorem dX5_multiply_61 : decode cX5_multiply 61 = .ok (.ldc2_w 66, 3) := by decide +kernel
theorem dX5_multiply_64 : decode cX5_multiply 64 = .ok (.lrem, 1) := by decide +kernel
theorem dX5_multiply_65 : decode cX5_multiply 65 = .ok (.lastore, 1) := by decide +kernel
theorem dX5_multiply_66 : decode cX5_multiply 66 = .ok (.iinc 5 1, 3) := by decide +kernel
theorem dX5_multiply_69 : decode cX5_multiply 69 = .ok (.goto (-43), 3) := by decide +kernel
theorem dX5_multiply_72 : decode cX5_multiply 72 = .ok (.iinc 4 (-1), 3) := by decide +kernel
theorem dX5_multiply_75 : decode cX5_multiply 75 = .ok (.goto (-57), 3) := by decide +kernel
theorem dX5_multiply_78 : decode cX5_multiply 78 = .ok (.return_, 1) := by decide +kernel
set_option maxRecDepth 20000 in
theorem ggX5_divide_X5_high : GoodIn wsX5_divide wsX5_high := goodIn_r _ [6] (by decide +kernel) (by decide +kernel)
set_option maxRecDepth 20000 in
theorem gX5_divide_X5_high : GoodIn wsX5_divide (va_wsS RX5 72 yX5_high wsX5_high) := goodIn_app (goodIn_of _ (by decide +kernel)) ggX5_divide_X5_high
set_option maxRecDepth 20000 in
theorem ggX5_divide_X5_inverse : GoodIn wsX5_divide wsX5_inverse := goodIn_r _ [9, 2] (by decide +kernel) (by decide +kernel)
set_option maxRecDepth 20000 in
theorem gX5_divide_X5_inverse : GoodIn wsX5_divide (va_wsS RX5 76 yX5_inverse wsX5_inverse) := goodIn_app (goodIn_of _ (by decide +kernel)) ggX5_divide_X5_inverse
set_option maxRecDepth 20000 in
theorem ggX5_divide_X5_empty : GoodIn wsX5_divide wsX5_empty := goodIn_r _ [12] (by decide +kernel) (by decide +kernel)
set_option maxRecDepth 20000 in
theorem gX5_divide_X5_empty : GoodIn wsX5_divide (va_wsS RX5 68 yX5_empty wsX5_empty) := goodIn_app (goodIn_of _ (by decide +kernel)) ggX5_divide_X5_empty
set_option maxRecDepth 20000 in
theorem ggX5_divide_X5_modulo : GoodIn wsX5_divide wsX5_modulo := goodIn_r _ [15, 2] (by decide +kernel) (by decide +kernel)
set_option maxRecDepth 20000 in
theorem gX5_divide_X5_modulo : GoodIn wsX5_divide (va_wsS RX5 80 yX5_modulo wsX5_modulo) := goodIn_app (goodIn_of _ (by decide +kernel)) ggX5_divide_X5_modulo
theorem dX5_divide_0 : decode cX5_divide 0 = .ok (.aload_n 2, 1) := by decide +kernel
theorem dX5_divide_1 : decode cX5_divide 1 = .ok (.invokestatic 72, 3) := by decide +kernel
theorem dX5_divide_4 : decode cX5_divide 4 = .ok (.istore_n 3, 1) := by decide +kernel
theorem dX5_divide_5 : decode cX5_divide 5 = .ok (.aload_n 2, 1) := by decide +kernel
theorem dX5_divide_6 : decode cX5_divide 6 = .ok (.iload_n 3, 1) := by decide +kernel
theorem dX5_divide_7 : decode cX5_divide 7 = .ok (.laload, 1) := by decide +kernel
theorem dX5_divide_8 : decode cX5_divide 8 = .ok (.invokestatic 76, 3) := by decide +kernel
theorem dX5_divide_11 : decode cX5_divide 11 = .ok (.lstore 4, 2) := by decide +kernel
theorem dX5_divide_13 : decode cX5_divide 13 = .ok (.aload_n 0, 1) := by decide +kernel
theorem dX5_divide_14 : decode cX5_divide 14 = .ok (.getfield 44, 3) := by decide +kernel
theorem dX5_divide_17 : decode cX5_divide 17 = .ok (.invokestatic 68, 3) := by decide +kernel
theorem dX5_divide_20 : decode cX5_divide 20 = .ok (.aload_n 1, 1) := by decide +kernel
theorem dX5_divide_21 : decode cX5_divide 21 = .ok (.invokestatic 72, 3) := by decide +kernel
theorem dX5_divide_24 : decode cX5_divide 24 = .ok (.istore 6, 2) := by decide +kernel
theorem dX5_divide_26 : decode cX5_divide 26 = .ok (.iload 6, 2) := by decide +kernel
theorem dX5_divide_28 : decode cX5_divide 28 = .ok (.iload_n 3, 1) := by decide +kernel
theorem dX5_divide_29 : decode cX5_divide 29 = .ok (.if_icmp .lt 84, 3) := by decide +kernel
theorem dX5_divide_32 : decode cX5_divide 32 = .ok (.aload_n 1, 1) := by decide +kernel
theorem dX5_divide_33 : decode cX5_divide 33 = .ok (.iload 6, 2) := by decide +kernel
theorem dX5_divide_35 : decode cX5_divide 35 = .ok (.laload, 1) := by decide +kernel
theorem dX5_divide_36 : decode cX5_divide 36 = .ok (.lload 4, 2) := by decide +kernel
theorem dX5_divide_38 : decode cX5_divide 38 = .ok (.lmul, 1) := by decide +kernel
theorem dX5_divide_39 : decode cX5_divide 39 = .ok (.ldc2_w 66, 3) := by decide +kernel
theorem dX5_divide_42 : decode cX5_divide 42 = .ok (.lrem, 1) := by decide +kernel
theorem dX5_divide_43 : decode cX5_divide 43 = .ok (.lstore 7, 2) := by decide +kernel
theorem dX5_divide_45 : decode cX5_divide 45 = .ok (.aload_n 0, 1) := by decide +kernel
theorem dX5_divide_46 : decode cX5_divide 46 = .ok (.getfield 44, 3) := by decide +kernel
theorem dX5_divide_49 : decode cX5_divide 49 = .ok (.iload 6, 2) := by decide +kernel
theorem dX5_divide_51 : decode cX5_divide 51 = .ok (.iload_n 3, 1) := by decide +kernel
theorem dX5_divide_52 : decode cX5_divide 52 = .ok (.isub, 1) := by decide +kernel
theorem dX5_divide_53 : decode cX5_divide 53 = .ok (.lload 7, 2) := by decide +kernel
theorem dX5_divide_55 : decode cX5_divide 55 = .ok (.lastore, 1) := by decide +kernel
theorem dX5_divide_56 : decode cX5_divide 56 = .ok (.iconst 0, 1) := by decide +kernel
theorem dX5_divide_57 : decode cX5_divide 57 = .ok (.istore 9, 2) := by decide +kernel
theorem dX5_divide_59 : decode cX5_divide 59 = .ok (.iload 9, 2) := by decide +kernel
theorem dX5_divide_61 : decode cX5_divide 61 = .ok (.iload_n 3, 1) := by decide +kernel
theorem dX5_divide_62 : decode cX5_divide 62 = .ok (.if_icmp .gt 45, 3) := by decide +kernel
theorem dX5_divide_65 : decode cX5_divide 65 = .ok (.lload 7, 2) := by decide +kernel
theorem dX5_divide_67 : decode cX5_divide 67 = .ok (.lconst 0, 1) := by decide +kernel
theorem dX5_divide_68 : decode cX5_divide 68 = .ok (.lcmp, 1) := by decide +kernel
theorem dX5_divide_69 : decode cX5_divide 69 = .ok (.ifCond .le 38, 3) := by decide +kernel
theorem dX5_divide_72 : decode cX5_divide 72 = .ok (.aload_n 1, 1) := by decide +kernel
theorem dX5_divide_73 : decode cX5_divide 73 = .ok (.iload 6, 2) := by decide +kernel
theorem dX5_divide_75 : decode cX5_divide 75 = .ok (.iload_n 3, 1) := by decide +kernel
theorem dX5_divide_76 : decode cX5_divide 76 = .ok (.isub, 1) := by decide +kernel
theorem dX5_divide_77 : decode cX5_divide 77 = .ok (.iload 9, 2) := by decide +kernel
theorem dX5_divide_79 : decode cX5_divide 79 = .ok (.iadd, 1) := by decide +kernel
theorem dX5_divide_80 : decode cX5_divide 80 = .ok (.aload_n 1, 1) := by decide +kernel
theorem dX5_divide_81 : decode cX5_divide 81 = .ok (.iload 6, 2) := by decide +kernel
theorem dX5_divide_83 : decode cX5_divide 83 = .ok (.iload_n 3, 1) := by decide +kernel
theorem dX5_divide_84 : decode cX5_divide 84 = .ok (.isub, 1) := by decide +kernel
theorem dX5_divide_85 : decode cX5_divide 85 = .ok (.iload 9, 2) := by decide +kernel
theorem dX5_divide_87 : decode cX5_divide 87 = .ok (.iadd, 1) := by decide +kernel
theorem dX5_divide_88 : decode cX5_divide 88 = .ok (.laload, 1) := by decide +kernel
theorem dX5_divide_89 : decode cX5_divide 89 = .ok (.lload 7, 2) := by decide +kernel
theorem dX5_divide_91 : decode cX5_divide 91 = .ok (.aload_n 2, 1) := by decide +kernel
theorem dX5_divide_92 : decode cX5_divide 92 = .ok (.iload 9, 2) := by decide +kernel
theorem dX5_divide_94 : decode cX5_divide 94 = .ok (.laload, 1) := by decide +kernel
theorem dX5_divide_95 : decode cX5_divide 95 = .ok (.lmul, 1) := by decide +kernel
theorem dX5_divide_96 : decode cX5_divide 96 = .ok (.lsub, 1) := by decide +kernel
theorem dX5_divide_97 : decode cX5_divide 97 = .ok (.invokestatic 80, 3) := by decide +kernel
theorem dX5_divide_100 : decode cX5_divide 100 = .ok (.lastore, 1) := by decide +kernel
theorem dX5_divide_101 : decode cX5_divide 101 = .ok (.iinc 9 1, 3) := by decide +kernel
theorem dX5_divide_104 : decode cX5_divide 104 = .ok (.goto (-45), 3) := by decide +kernel
theorem dX5_divide_107 : decode cX5_divide 107 = .ok (.iinc 6 (-1), 3) := by decide +kernel
theorem dX5_divide_110 : decode cX5_divide 110 = .ok (.goto (-84), 3) := by decide +kernel
theorem dX5_divide_113 : decode cX5_divide 113 = .ok (.return_, 1) := by decide +kernel
theorem dX5_move_0 : decode cX5_move 0 = .ok (.bipush 62, 2) := by decide +kernel
theorem dX5_move_2 : decode cX5_move 2 = .ok (.istore_n 1, 1) := by decide +kernel
theorem dX5_move_3 : decode cX5_move 3 = .ok (.iload_n 1, 1) := by decide +kernel
theorem dX5_move_4 : decode cX5_move 4 = .ok (.ifCond .lt 39, 3) := by decide +kernel
theorem dX5_move_7 : decode cX5_move 7 = .ok (.iload_n 1, 1) := by decide +kernel
theorem dX5_move_8 : decode cX5_move 8 = .ok (.istore_n 2, 1) := by decide +kernel
theorem dX5_move_9 : decode cX5_move 9 = .ok (.iload_n 2, 1) := by decide +kernel
theorem dX5_move_10 : decode cX5_move 10 = .ok (.bipush 63, 2) := by decide +kernel
theorem dX5_move_12 : decode cX5_move 12 = .ok (.if_icmp .ge 25, 3) := by decide +kernel
theorem dX5_move_15 : decode cX5_move 15 = .ok (.aload_n 0, 1) := by decide +kernel
theorem dX5_move_16 : decode cX5_move 16 = .ok (.iload_n 2, 1) := by decide +kernel
theorem dX5_move_17 : decode cX5_move 17 = .ok (.aload_n 0, 1) := by decide +kernel
theorem dX5_move_18 : decode cX5_move 18 = .ok (.iload_n 2, 1) := by decide +kernel
theorem dX5_move_19 : decode cX5_move 19 = .ok (.laload, 1) := by decide +kernel
theorem dX5_move_20 : decode cX5_move 20 = .ok (.aload_n 0, 1) := by decide +kernel
theorem dX5_move_21 : decode cX5_move 21 = .ok (.iload_n 2, 1) := by decide +kernel
theorem dX5_move_22 : decode cX5_move 22 = .ok (.iconst 1, 1) := by decide +kernel
theorem dX5_move_23 : decode cX5_move 23 = .ok (.iadd, 1) := by decide +kernel
theorem dX5_move_24 : decode cX5_move 24 = .ok (.laload, 1) := by decide +kernel
theorem dX5_move_25 : decode cX5_move 25 = .ok (.ladd, 1) := by decide +kernel
theorem dX5_move_26 : decode cX5_move 26 = .ok (.ldc2_w 66, 3) := by decide +kernel
theorem dX5_move_29 : decode cX5_move 29 = .ok (.lrem, 1) := by decide +kernel
theorem dX5_move_30 : decode cX5_move 30 = .ok (.lastore, 1) := by decide +kernel
theorem dX5_move_31 : decode cX5_move 31 = .ok (.iinc 2 1, 3) := by decide +kernel
theorem dX5_move_34 : decode cX5_move 34 = .ok (.goto (-25), 3) := by decide +kernel
theorem dX5_move_37 : decode cX5_move 37 = .ok (.iinc 1 (-1), 3) := by decide +kernel
theorem dX5_move_40 : decode cX5_move 40 = .ok (.goto (-37), 3) := by decide +kernel
theorem dX5_move_43 : decode cX5_move 43 = .ok (.return_, 1) := by decide +kernel
set_option maxRecDepth 20000 in
theorem ggX5_lowest_X5_copy : GoodIn wsX5_lowest wsX5_copy := goodIn_r _ [10] (by decide +kernel) (by decide +kernel)
set_option maxRecDepth 20000 in
theorem gX5_lowest_X5_copy : GoodIn wsX5_lowest (va_wsS RX5 83 yX5_copy wsX5_copy) := goodIn_app (goodIn_of _ (by decide +kernel)) ggX5_lowest_X5_copy
set_option maxRecDepth 20000 in
theorem ggX5_lowest_X5_high : GoodIn wsX5_lowest wsX5_high := goodIn_r _ [13] (by decide +kernel) (by decide +kernel)
set_option maxRecDepth 20000 in
theorem gX5_lowest_X5_high : GoodIn wsX5_lowest (va_wsS RX5 72 yX5_high wsX5_high) := goodIn_app (goodIn_of _ (by decide +kernel)) ggX5_lowest_X5_high
set_option maxRecDepth 20000 in
theorem ggX5_lowest_X5_divide : GoodIn wsX5_lowest wsX5_divide := goodIn_r _ [17, 5, 6, 11, 12, 9, 13, 18, 19, 20, 21, 22, 23, 24, 25, 26, 27, 28, 29, 30, 31, 32, 33, 34, 35, 36, 37, 38, 39, 40, 41, 42, 43, 44, 45, 46] (by decide +kernel) (by decide +kernel)
set_option maxRecDepth 20000 in
theorem gX5_lowest_X5_divide : GoodIn wsX5_lowest (wsV RX5 87 RX5 yX5_divide wsX5_divide) := goodIn_app (goodIn_of _ (by decide +kernel)) ggX5_lowest_X5_divide
set_option maxRecDepth 20000 in
theorem ggX5_lowest_X5_inverse : GoodIn wsX5_lowest wsX5_inverse := goodIn_r _ [20, 6] (by decide +kernel) (by decide +kernel)
set_option maxRecDepth 20000 in
theorem gX5_lowest_X5_inverse : GoodIn wsX5_lowest (va_wsS RX5 76 yX5_inverse wsX5_inverse) := goodIn_app (goodIn_of _ (by decide +kernel)) ggX5_lowest_X5_inverse
theorem dX5_lowest_0 : decode cX5_lowest 0 = .ok (.aload_n 0, 1) := by decide +kernel
theorem dX5_lowest_1 : decode cX5_lowest 1 = .ok (.getfield 38, 3) := by decide +kernel
theorem dX5_lowest_4 : decode cX5_lowest 4 = .ok (.aload_n 0, 1) := by decide +kernel
theorem dX5_lowest_5 : decode cX5_lowest 5 = .ok (.getfield 22, 3) := by decide +kernel
theorem dX5_lowest_8 : decode cX5_lowest 8 = .ok (.invokestatic 83, 3) := by decide +kernel
theorem dX5_lowest_11 : decode cX5_lowest 11 = .ok (.aload_n 0, 1) := by decide +kernel
theorem dX5_lowest_12 : decode cX5_lowest 12 = .ok (.getfield 41, 3) := by decide +kernel
theorem dX5_lowest_15 : decode cX5_lowest 15 = .ok (.aload_n 0, 1) := by decide +kernel
theorem dX5_lowest_16 : decode cX5_lowest 16 = .ok (.getfield 26, 3) := by decide +kernel
theorem dX5_lowest_19 : decode cX5_lowest 19 = .ok (.invokestatic 83, 3) := by decide +kernel
theorem dX5_lowest_22 : decode cX5_lowest 22 = .ok (.aload_n 0, 1) := by decide +kernel
theorem dX5_lowest_23 : decode cX5_lowest 23 = .ok (.getfield 41, 3) := by decide +kernel
theorem dX5_lowest_26 : decode cX5_lowest 26 = .ok (.invokestatic 72, 3) := by decide +kernel
theorem dX5_lowest_29 : decode cX5_lowest 29 = .ok (.ifCond .lt 58, 3) := by decide +kernel
theorem dX5_lowest_32 : decode cX5_lowest 32 = .ok (.aload_n 0, 1) := by decide +kernel
theorem dX5_lowest_33 : decode cX5_lowest 33 = .ok (.aload_n 0, 1) := by decide +kernel
theorem dX5_lowest_34 : decode cX5_lowest 34 = .ok (.getfield 38, 3) := by decide +kernel
theorem dX5_lowest_37 : decode cX5_lowest 37 = .ok (.aload_n 0, 1) := by decide +kernel
theorem dX5_lowest_38 : decode cX5_lowest 38 = .ok (.getfield 41, 3) := by decide +kernel
theorem dX5_lowest_41 : decode cX5_lowest 41 = .ok (.invokevirtual 87, 3) := by decide +kernel
theorem dX5_lowest_44 : decode cX5_lowest 44 = .ok (.iconst 0, 1) := by decide +kernel
theorem dX5_lowest_45 : decode cX5_lowest 45 = .ok (.istore_n 1, 1) := by decide +kernel
theorem dX5_lowest_46 : decode cX5_lowest 46 = .ok (.iload_n 1, 1) := by decide +kernel
theorem dX5_lowest_47 : decode cX5_lowest 47 = .ok (.bipush 64, 2) := by decide +kernel
theorem dX5_lowest_49 : decode cX5_lowest 49 = .ok (.if_icmp .ge 35, 3) := by decide +kernel
theorem dX5_lowest_52 : decode cX5_lowest 52 = .ok (.aload_n 0, 1) := by decide +kernel
theorem dX5_lowest_53 : decode cX5_lowest 53 = .ok (.getfield 38, 3) := by decide +kernel
theorem dX5_lowest_56 : decode cX5_lowest 56 = .ok (.iload_n 1, 1) := by decide +kernel
theorem dX5_lowest_57 : decode cX5_lowest 57 = .ok (.laload, 1) := by decide +kernel
theorem dX5_lowest_58 : decode cX5_lowest 58 = .ok (.lstore_n 2, 1) := by decide +kernel
theorem dX5_lowest_59 : decode cX5_lowest 59 = .ok (.aload_n 0, 1) := by decide +kernel
theorem dX5_lowest_60 : decode cX5_lowest 60 = .ok (.getfield 38, 3) := by decide +kernel
theorem dX5_lowest_63 : decode cX5_lowest 63 = .ok (.iload_n 1, 1) := by decide +kernel
theorem dX5_lowest_64 : decode cX5_lowest 64 = .ok (.aload_n 0, 1) := by decide +kernel
theorem dX5_lowest_65 : decode cX5_lowest 65 = .ok (.getfield 41, 3) := by decide +kernel
theorem dX5_lowest_68 : decode cX5_lowest 68 = .ok (.iload_n 1, 1) := by decide +kernel
theorem dX5_lowest_69 : decode cX5_lowest 69 = .ok (.laload, 1) := by decide +kernel
theorem dX5_lowest_70 : decode cX5_lowest 70 = .ok (.lastore, 1) := by decide +kernel
theorem dX5_lowest_71 : decode cX5_lowest 71 = .ok (.aload_n 0, 1) := by decide +kernel
theorem dX5_lowest_72 : decode cX5_lowest 72 = .ok (.getfield 41, 3) := by decide +kernel
theorem dX5_lowest_75 : decode cX5_lowest 75 = .ok (.iload_n 1, 1) := by decide +kernel
theorem dX5_lowest_76 : decode cX5_lowest 76 = .ok (.lload_n 2, 1) := by decide +kernel
theorem dX5_lowest_77 : decode cX5_lowest 77 = .ok (.lastore, 1) := by decide +kernel
theorem dX5_lowest_78 : decode cX5_lowest 78 = .ok (.iinc 1 1, 3) := by decide +kernel
theorem dX5_lowest_81 : decode cX5_lowest 81 = .ok (.goto (-35), 3) := by decide +kernel
theorem dX5_lowest_84 : decode cX5_lowest 84 = .ok (.goto (-62), 3) := by decide +kernel
theorem dX5_lowest_87 : decode cX5_lowest 87 = .ok (.aload_n 0, 1) := by decide +kernel
theorem dX5_lowest_88 : decode cX5_lowest 88 = .ok (.aload_n 0, 1) := by decide +kernel
theorem dX5_lowest_89 : decode cX5_lowest 89 = .ok (.getfield 22, 3) := by decide +kernel
theorem dX5_lowest_92 : decode cX5_lowest 92 = .ok (.aload_n 0, 1) := by decide +kernel
theorem dX5_lowest_93 : decode cX5_lowest 93 = .ok (.getfield 38, 3) := by decide +kernel
theorem dX5_lowest_96 : decode cX5_lowest 96 = .ok (.invokevirtual 87, 3) := by decide +kernel
theorem dX5_lowest_99 : decode cX5_lowest 99 = .ok (.aload_n 0, 1) := by decide +kernel
theorem dX5_lowest_100 : decode cX5_lowest 100 = .ok (.getfield 22, 3) := by decide +kernel
theorem dX5_lowest_103 : decode cX5_lowest 103 = .ok (.aload_n 0, 1) := by decide +kernel
theorem dX5_lowest_104 : decode cX5_lowest 104 = .ok (.getfield 44, 3) := by decide +kernel
theorem dX5_lowest_107 : decode cX5_lowest 107 = .ok (.invokestatic 83, 3) := by decide +kernel
theorem dX5_lowest_110 : decode cX5_lowest 110 = .ok (.aload_n 0, 1) := by decide +kernel
theorem dX5_lowest_111 : decode cX5_lowest 111 = .ok (.aload_n 0, 1) := by decide +kernel
theorem dX5_lowest_112 : decode cX5_lowest 112 = .ok (.getfield 26, 3) := by decide +kernel
theorem dX5_lowest_115 : decode cX5_lowest 115 = .ok (.aload_n 0, 1) := by decide +kernel
theorem dX5_lowest_116 : decode cX5_lowest 116 = .ok (.getfield 38, 3) := by decide +kernel
theorem dX5_lowest_119 : decode cX5_lowest 119 = .ok (.invokevirtual 87, 3) := by decide +kernel
theorem dX5_lowest_122 : decode cX5_lowest 122 = .ok (.aload_n 0, 1) := by decide +kernel
theorem dX5_lowest_123 : decode cX5_lowest 123 = .ok (.getfield 26, 3) := by decide +kernel
theorem dX5_lowest_126 : decode cX5_lowest 126 = .ok (.aload_n 0, 1) := by decide +kernel
theorem dX5_lowest_127 : decode cX5_lowest 127 = .ok (.getfield 44, 3) := by decide +kernel
theorem dX5_lowest_130 : decode cX5_lowest 130 = .ok (.invokestatic 83, 3) := by decide +kernel
theorem dX5_lowest_133 : decode cX5_lowest 133 = .ok (.aload_n 0, 1) := by decide +kernel
theorem dX5_lowest_134 : decode cX5_lowest 134 = .ok (.getfield 26, 3) := by decide +kernel
theorem dX5_lowest_137 : decode cX5_lowest 137 = .ok (.aload_n 0, 1) := by decide +kernel
theorem dX5_lowest_138 : decode cX5_lowest 138 = .ok (.getfield 26, 3) := by decide +kernel
theorem dX5_lowest_141 : decode cX5_lowest 141 = .ok (.invokestatic 72, 3) := by decide +kernel
theorem dX5_lowest_144 : decode cX5_lowest 144 = .ok (.laload, 1) := by decide +kernel
theorem dX5_lowest_145 : decode cX5_lowest 145 = .ok (.invokestatic 76, 3) := by decide +kernel
theorem dX5_lowest_148 : decode cX5_lowest 148 = .ok (.lstore_n 1, 1) := by decide +kernel
theorem dX5_lowest_149 : decode cX5_lowest 149 = .ok (.iconst 0, 1) := by decide +kernel
theorem dX5_lowest_150 : decode cX5_lowest 150 = .ok (.istore_n 3, 1) := by decide +kernel
theorem dX5_lowest_151 : decode cX5_lowest 151 = .ok (.iload_n 3, 1) := by decide +kernel
theorem dX5_lowest_152 : decode cX5_lowest 152 = .ok (.bipush 64, 2) := by decide +kernel
theorem dX5_lowest_154 : decode cX5_lowest 154 = .ok (.if_icmp .ge 45, 3) := by decide +kernel
theorem dX5_lowest_157 : decode cX5_lowest 157 = .ok (.aload_n 0, 1) := by decide +kernel
theorem dX5_lowest_158 : decode cX5_lowest 158 = .ok (.getfield 22, 3) := by decide +kernel
theorem dX5_lowest_161 : decode cX5_lowest 161 = .ok (.iload_n 3, 1) := by decide +kernel
theorem dX5_lowest_162 : decode cX5_lowest 162 = .ok (.aload_n 0, 1) := by decide +kernel
theorem dX5_lowest_163 : decode cX5_lowest 163 = .ok (.getfield 22, 3) := by decide +kernel
theorem dX5_lowest_166 : decode cX5_lowest 166 = .ok (.iload_n 3, 1) := by decide +kernel
theorem dX5_lowest_167 : decode cX5_lowest 167 = .ok (.laload, 1) := by decide +kernel
theorem dX5_lowest_168 : decode cX5_lowest 168 = .ok (.lload_n 1, 1) := by decide +kernel
theorem dX5_lowest_169 : decode cX5_lowest 169 = .ok (.lmul, 1) := by decide +kernel
theorem dX5_lowest_170 : decode cX5_lowest 170 = .ok (.ldc2_w 66, 3) := by decide +kernel
theorem dX5_lowest_173 : decode cX5_lowest 173 = .ok (.lrem, 1) := by decide +kernel
theorem dX5_lowest_174 : decode cX5_lowest 174 = .ok (.lastore, 1) := by decide +kernel
theorem dX5_lowest_175 : decode cX5_lowest 175 = .ok (.aload_n 0, 1) := by decide +kernel
theorem dX5_lowest_176 : decode cX5_lowest 176 = .ok (.getfield 26, 3) := by decide +kernel
theorem dX5_lowest_179 : decode cX5_lowest 179 = .ok (.iload_n 3, 1) := by decide +kernel
theorem dX5_lowest_180 : decode cX5_lowest 180 = .ok (.aload_n 0, 1) := by decide +kernel
theorem dX5_lowest_181 : decode cX5_lowest 181 = .ok (.getfield 26, 3) := by decide +kernel
theorem dX5_lowest_184 : decode cX5_lowest 184 = .ok (.iload_n 3, 1) := by decide +kernel
theorem dX5_lowest_185 : decode cX5_lowest 185 = .ok (.laload, 1) := by decide +kernel
theorem dX5_lowest_186 : decode cX5_lowest 186 = .ok (.lload_n 1, 1) := by decide +kernel
theorem dX5_lowest_187 : decode cX5_lowest 187 = .ok (.lmul, 1) := by decide +kernel
theorem dX5_lowest_188 : decode cX5_lowest 188 = .ok (.ldc2_w 66, 3) := by decide +kernel
theorem dX5_lowest_191 : decode cX5_lowest 191 = .ok (.lrem, 1) := by decide +kernel
theorem dX5_lowest_192 : decode cX5_lowest 192 = .ok (.lastore, 1) := by decide +kernel
theorem dX5_lowest_193 : decode cX5_lowest 193 = .ok (.iinc 3 1, 3) := by decide +kernel
theorem dX5_lowest_196 : decode cX5_lowest 196 = .ok (.goto (-45), 3) := by decide +kernel
theorem dX5_lowest_199 : decode cX5_lowest 199 = .ok (.return_, 1) := by decide +kernel
set_option maxRecDepth 20000 in
theorem ggX5_isThere_X5_in : GoodIn wsX5_isThere wsX5_in := goodIn_r _ [5] (by decide +kernel) (by decide +kernel)
set_option maxRecDepth 20000 in
theorem gX5_isThere_X5_in : GoodIn wsX5_isThere (va_wsS RX5 93 yX5_in wsX5_in) := goodIn_app (goodIn_of _ (by decide +kernel)) ggX5_isThere_X5_in
theorem dX5_isThere_0 : decode cX5_isThere 0 = .ok (.iload_n 1, 1) := by decide +kernel
theorem dX5_isThere_1 : decode cX5_isThere 1 = .ok (.i2l, 1) := by decide +kernel
theorem dX5_isThere_2 : decode cX5_isThere 2 = .ok (.lconst 0, 1) := by decide +kernel
theorem dX5_isThere_3 : decode cX5_isThere 3 = .ok (.aload_n 0, 1) := by decide +kernel
theorem dX5_isThere_4 : decode cX5_isThere 4 = .ok (.getfield 90, 3) := by decide +kernel
theorem dX5_isThere_7 : decode cX5_isThere 7 = .ok (.iconst 1, 1) := by decide +kernel
theorem dX5_isThere_8 : decode cX5_isThere 8 = .ok (.isub, 1) := by decide +kernel
theorem dX5_isThere_9 : decode cX5_isThere 9 = .ok (.i2l, 1) := by decide +kernel
theorem dX5_isThere_10 : decode cX5_isThere 10 = .ok (.invokestatic 93, 3) := by decide +kernel
theorem dX5_isThere_13 : decode cX5_isThere 13 = .ok (.ireturn, 1) := by decide +kernel
set_option maxRecDepth 20000 in
theorem ggX5_keep_X5_high : GoodIn wsX5_keep wsX5_high := goodIn_r _ [10] (by decide +kernel) (by decide +kernel)
set_option maxRecDepth 20000 in
theorem gX5_keep_X5_high : GoodIn wsX5_keep (va_wsS RX5 72 yX5_high wsX5_high) := goodIn_app (goodIn_of _ (by decide +kernel)) ggX5_keep_X5_high
set_option maxRecDepth 20000 in
theorem ggX5_keep_X5_raise : GoodIn wsX5_keep wsX5_raise := goodIn_r _ [14, 4, 15, 16, 17, 18, 19, 20, 21, 22, 23, 24, 25, 26, 27, 28, 29, 30, 31, 32, 33, 34] (by decide +kernel) (by decide +kernel)
set_option maxRecDepth 20000 in
theorem gX5_keep_X5_raise : GoodIn wsX5_keep (wsV RX5 97 RX5 yX5_raise wsX5_raise) := goodIn_app (goodIn_of _ (by decide +kernel)) ggX5_keep_X5_raise
theorem dX5_keep_0 : decode cX5_keep 0 = .ok (.aload_n 0, 1) := by decide +kernel
theorem dX5_keep_1 : decode cX5_keep 1 = .ok (.getfield 90, 3) := by decide +kernel
theorem dX5_keep_4 : decode cX5_keep 4 = .ok (.bipush 50, 2) := by decide +kernel
theorem dX5_keep_6 : decode cX5_keep 6 = .ok (.if_icmp .eq 27, 3) := by decide +kernel
theorem dX5_keep_9 : decode cX5_keep 9 = .ok (.aload_n 0, 1) := by decide +kernel
theorem dX5_keep_10 : decode cX5_keep 10 = .ok (.getfield 22, 3) := by decide +kernel
theorem dX5_keep_13 : decode cX5_keep 13 = .ok (.invokestatic 72, 3) := by decide +kernel
theorem dX5_keep_16 : decode cX5_keep 16 = .ok (.bipush 20, 2) := by decide +kernel
theorem dX5_keep_18 : decode cX5_keep 18 = .ok (.if_icmp .gt 15, 3) := by decide +kernel
theorem dX5_keep_21 : decode cX5_keep 21 = .ok (.aload_n 0, 1) := by decide +kernel
theorem dX5_keep_22 : decode cX5_keep 22 = .ok (.getfield 26, 3) := by decide +kernel
theorem dX5_keep_25 : decode cX5_keep 25 = .ok (.invokestatic 72, 3) := by decide +kernel
theorem dX5_keep_28 : decode cX5_keep 28 = .ok (.bipush 20, 2) := by decide +kernel
theorem dX5_keep_30 : decode cX5_keep 30 = .ok (.if_icmp .le 9, 3) := by decide +kernel
theorem dX5_keep_33 : decode cX5_keep 33 = .ok (.aload_n 0, 1) := by decide +kernel
theorem dX5_keep_34 : decode cX5_keep 34 = .ok (.iload_n 1, 1) := by decide +kernel
theorem dX5_keep_35 : decode cX5_keep 35 = .ok (.invokevirtual 97, 3) := by decide +kernel
theorem dX5_keep_38 : decode cX5_keep 38 = .ok (.ireturn, 1) := by decide +kernel
theorem dX5_keep_39 : decode cX5_keep 39 = .ok (.aload_n 0, 1) := by decide +kernel
theorem dX5_keep_40 : decode cX5_keep 40 = .ok (.iconst 0, 1) := by decide +kernel
theorem dX5_keep_41 : decode cX5_keep 41 = .ok (.putfield 62, 3) := by decide +kernel
theorem dX5_keep_44 : decode cX5_keep 44 = .ok (.iconst 0, 1) := by decide +kernel
theorem dX5_keep_45 : decode cX5_keep 45 = .ok (.istore_n 2, 1) := by decide +kernel
theorem dX5_keep_46 : decode cX5_keep 46 = .ok (.iload_n 2, 1) := by decide +kernel
theorem dX5_keep_47 : decode cX5_keep 47 = .ok (.bipush 20, 2) := by decide +kernel
theorem dX5_keep_49 : decode cX5_keep 49 = .ok (.if_icmp .gt 51, 3) := by decide +kernel
theorem dX5_keep_52 : decode cX5_keep 52 = .ok (.aload_n 0, 1) := by decide +kernel
theorem dX5_keep_53 : decode cX5_keep 53 = .ok (.getfield 7, 3) := by decide +kernel
theorem dX5_keep_56 : decode cX5_keep 56 = .ok (.bipush 21, 2) := by decide +kernel
theorem dX5_keep_58 : decode cX5_keep 58 = .ok (.aload_n 0, 1) := by decide +kernel
theorem dX5_keep_59 : decode cX5_keep 59 = .ok (.getfield 90, 3) := by decide +kernel
theorem dX5_keep_62 : decode cX5_keep 62 = .ok (.imul, 1) := by decide +kernel
theorem dX5_keep_63 : decode cX5_keep 63 = .ok (.iload_n 2, 1) := by decide +kernel
theorem dX5_keep_64 : decode cX5_keep 64 = .ok (.iadd, 1) := by decide +kernel
theorem dX5_keep_65 : decode cX5_keep 65 = .ok (.aload_n 0, 1) := by decide +kernel
theorem dX5_keep_66 : decode cX5_keep 66 = .ok (.getfield 22, 3) := by decide +kernel
theorem dX5_keep_69 : decode cX5_keep 69 = .ok (.iload_n 2, 1) := by decide +kernel
theorem dX5_keep_70 : decode cX5_keep 70 = .ok (.laload, 1) := by decide +kernel
theorem dX5_keep_71 : decode cX5_keep 71 = .ok (.l2i, 1) := by decide +kernel
theorem dX5_keep_72 : decode cX5_keep 72 = .ok (.iastore, 1) := by decide +kernel
theorem dX5_keep_73 : decode cX5_keep 73 = .ok (.aload_n 0, 1) := by decide +kernel
theorem dX5_keep_74 : decode cX5_keep 74 = .ok (.getfield 13, 3) := by decide +kernel
theorem dX5_keep_77 : decode cX5_keep 77 = .ok (.bipush 21, 2) := by decide +kernel
theorem dX5_keep_79 : decode cX5_keep 79 = .ok (.aload_n 0, 1) := by decide +kernel
theorem dX5_keep_80 : decode cX5_keep 80 = .ok (.getfield 90, 3) := by decide +kernel
theorem dX5_keep_83 : decode cX5_keep 83 = .ok (.imul, 1) := by decide +kernel
theorem dX5_keep_84 : decode cX5_keep 84 = .ok (.iload_n 2, 1) := by decide +kernel
theorem dX5_keep_85 : decode cX5_keep 85 = .ok (.iadd, 1) := by decide +kernel
theorem dX5_keep_86 : decode cX5_keep 86 = .ok (.aload_n 0, 1) := by decide +kernel
theorem dX5_keep_87 : decode cX5_keep 87 = .ok (.getfield 26, 3) := by decide +kernel
theorem dX5_keep_90 : decode cX5_keep 90 = .ok (.iload_n 2, 1) := by decide +kernel
theorem dX5_keep_91 : decode cX5_keep 91 = .ok (.laload, 1) := by decide +kernel
theorem dX5_keep_92 : decode cX5_keep 92 = .ok (.l2i, 1) := by decide +kernel
theorem dX5_keep_93 : decode cX5_keep 93 = .ok (.iastore, 1) := by decide +kernel
theorem dX5_keep_94 : decode cX5_keep 94 = .ok (.iinc 2 1, 3) := by decide +kernel
theorem dX5_keep_97 : decode cX5_keep 97 = .ok (.goto (-51), 3) := by decide +kernel
theorem dX5_keep_100 : decode cX5_keep 100 = .ok (.aload_n 0, 1) := by decide +kernel
theorem dX5_keep_101 : decode cX5_keep 101 = .ok (.dup, 1) := by decide +kernel
theorem dX5_keep_102 : decode cX5_keep 102 = .ok (.getfield 90, 3) := by decide +kernel
theorem dX5_keep_105 : decode cX5_keep 105 = .ok (.iconst 1, 1) := by decide +kernel
theorem dX5_keep_106 : decode cX5_keep 106 = .ok (.iadd, 1) := by decide +kernel
theorem dX5_keep_107 : decode cX5_keep 107 = .ok (.putfield 90, 3) := by decide +kernel
theorem dX5_keep_110 : decode cX5_keep 110 = .ok (.aload_n 0, 1) := by decide +kernel
theorem dX5_keep_111 : decode cX5_keep 111 = .ok (.getfield 90, 3) := by decide +kernel
theorem dX5_keep_114 : decode cX5_keep 114 = .ok (.iconst 1, 1) := by decide +kernel
theorem dX5_keep_115 : decode cX5_keep 115 = .ok (.isub, 1) := by decide +kernel
theorem dX5_keep_116 : decode cX5_keep 116 = .ok (.ireturn, 1) := by decide +kernel
set_option maxRecDepth 20000 in
theorem ggX5_loadTop_X5_load : GoodIn wsX5_loadTop wsX5_load := goodIn_r _ [5] (by decide +kernel) (by decide +kernel)
set_option maxRecDepth 20000 in
theorem gX5_loadTop_X5_load : GoodIn wsX5_loadTop (va_wsS RX5 101 yX5_load wsX5_load) := goodIn_app (goodIn_of _ (by decide +kernel)) ggX5_loadTop_X5_load
theorem dX5_loadTop_0 : decode cX5_loadTop 0 = .ok (.aload_n 1, 1) := by decide +kernel
theorem dX5_loadTop_1 : decode cX5_loadTop 1 = .ok (.aload_n 0, 1) := by decide +kernel
theorem dX5_loadTop_2 : decode cX5_loadTop 2 = .ok (.getfield 7, 3) := by decide +kernel
theorem dX5_loadTop_5 : decode cX5_loadTop 5 = .ok (.bipush 21, 2) := by decide +kernel
theorem dX5_loadTop_7 : decode cX5_loadTop 7 = .ok (.iload_n 2, 1) := by decide +kernel
theorem dX5_loadTop_8 : decode cX5_loadTop 8 = .ok (.imul, 1) := by decide +kernel
theorem dX5_loadTop_9 : decode cX5_loadTop 9 = .ok (.bipush 21, 2) := by decide +kernel
theorem dX5_loadTop_11 : decode cX5_loadTop 11 = .ok (.invokestatic 101, 3) := by decide +kernel
theorem dX5_loadTop_14 : decode cX5_loadTop 14 = .ok (.return_, 1) := by decide +kernel
set_option maxRecDepth 20000 in
theorem ggX5_loadBottom_X5_load : GoodIn wsX5_loadBottom wsX5_load := goodIn_r _ [5] (by decide +kernel) (by decide +kernel)
set_option maxRecDepth 20000 in
theorem gX5_loadBottom_X5_load : GoodIn wsX5_loadBottom (va_wsS RX5 101 yX5_load wsX5_load) := goodIn_app (goodIn_of _ (by decide +kernel)) ggX5_loadBottom_X5_load
theorem dX5_loadBottom_0 : decode cX5_loadBottom 0 = .ok (.aload_n 1, 1) := by decide +kernel
theorem dX5_loadBottom_1 : decode cX5_loadBottom 1 = .ok (.aload_n 0, 1) := by decide +kernel
theorem dX5_loadBottom_2 : decode cX5_loadBottom 2 = .ok (.getfield 13, 3) := by decide +kernel
theorem dX5_loadBottom_5 : decode cX5_loadBottom 5 = .ok (.bipush 21, 2) := by decide +kernel
theorem dX5_loadBottom_7 : decode cX5_loadBottom 7 = .ok (.iload_n 2, 1) := by decide +kernel
theorem dX5_loadBottom_8 : decode cX5_loadBottom 8 = .ok (.imul, 1) := by decide +kernel
theorem dX5_loadBottom_9 : decode cX5_loadBottom 9 = .ok (.bipush 21, 2) := by decide +kernel
theorem dX5_loadBottom_11 : decode cX5_loadBottom 11 = .ok (.invokestatic 101, 3) := by decide +kernel
theorem dX5_loadBottom_14 : decode cX5_loadBottom 14 = .ok (.return_, 1) := by decide +kernel
set_option maxRecDepth 20000 in
theorem ggX5_ratio_X5_in : GoodIn wsX5_ratio wsX5_in := goodIn_r _ [8] (by decide +kernel) (by decide +kernel)
set_option maxRecDepth 20000 in
theorem gX5_ratio_X5_in : GoodIn wsX5_ratio (va_wsS RX5 93 yX5_in wsX5_in) := goodIn_app (goodIn_of _ (by decide +kernel)) ggX5_ratio_X5_in
set_option maxRecDepth 20000 in
theorem ggX5_ratio_X5_modulo : GoodIn wsX5_ratio wsX5_modulo := goodIn_r _ [11, 12] (by decide +kernel) (by decide +kernel)
set_option maxRecDepth 20000 in
theorem gX5_ratio_X5_modulo : GoodIn wsX5_ratio (va_wsS RX5 80 yX5_modulo wsX5_modulo) := goodIn_app (goodIn_of _ (by decide +kernel)) ggX5_ratio_X5_modulo
theorem dX5_ratio_0 : decode cX5_ratio 0 = .ok (.aload_n 0, 1) := by decide +kernel
theorem dX5_ratio_1 : decode cX5_ratio 1 = .ok (.iload_n 2, 1) := by decide +kernel
theorem dX5_ratio_2 : decode cX5_ratio 2 = .ok (.i2l, 1) := by decide +kernel
theorem dX5_ratio_3 : decode cX5_ratio 3 = .ok (.lconst 0, 1) := by decide +kernel
theorem dX5_ratio_4 : decode cX5_ratio 4 = .ok (.ldc2_w 105, 3) := by decide +kernel
theorem dX5_ratio_7 : decode cX5_ratio 7 = .ok (.invokestatic 93, 3) := by decide +kernel
theorem dX5_ratio_10 : decode cX5_ratio 10 = .ok (.ifCond .eq 7, 3) := by decide +kernel
theorem dX5_ratio_13 : decode cX5_ratio 13 = .ok (.iconst 0, 1) := by decide +kernel
theorem dX5_ratio_14 : decode cX5_ratio 14 = .ok (.goto 4, 3) := by decide +kernel
theorem dX5_ratio_17 : decode cX5_ratio 17 = .ok (.iconst 1, 1) := by decide +kernel
theorem dX5_ratio_18 : decode cX5_ratio 18 = .ok (.putfield 62, 3) := by decide +kernel
theorem dX5_ratio_21 : decode cX5_ratio 21 = .ok (.aload_n 0, 1) := by decide +kernel
theorem dX5_ratio_22 : decode cX5_ratio 22 = .ok (.getfield 62, 3) := by decide +kernel
theorem dX5_ratio_25 : decode cX5_ratio 25 = .ok (.ifCond .le 5, 3) := by decide +kernel
theorem dX5_ratio_28 : decode cX5_ratio 28 = .ok (.iconst 0, 1) := by decide +kernel
theorem dX5_ratio_29 : decode cX5_ratio 29 = .ok (.ireturn, 1) := by decide +kernel
theorem dX5_ratio_30 : decode cX5_ratio 30 = .ok (.iload_n 1, 1) := by decide +kernel
theorem dX5_ratio_31 : decode cX5_ratio 31 = .ok (.ifCond .eq 12, 3) := by decide +kernel
theorem dX5_ratio_34 : decode cX5_ratio 34 = .ok (.aload_n 0, 1) := by decide +kernel
theorem dX5_ratio_35 : decode cX5_ratio 35 = .ok (.getfield 16, 3) := by decide +kernel
theorem dX5_ratio_38 : decode cX5_ratio 38 = .ok (.iload_n 2, 1) := by decide +kernel
theorem dX5_ratio_39 : decode cX5_ratio 39 = .ok (.iaload, 1) := by decide +kernel
theorem dX5_ratio_40 : decode cX5_ratio 40 = .ok (.goto 9, 3) := by decide +kernel
theorem dX5_ratio_43 : decode cX5_ratio 43 = .ok (.aload_n 0, 1) := by decide +kernel
theorem dX5_ratio_44 : decode cX5_ratio 44 = .ok (.getfield 19, 3) := by decide +kernel
theorem dX5_ratio_47 : decode cX5_ratio 47 = .ok (.iload_n 2, 1) := by decide +kernel
theorem dX5_ratio_48 : decode cX5_ratio 48 = .ok (.iaload, 1) := by decide +kernel
theorem dX5_ratio_49 : decode cX5_ratio 49 = .ok (.istore 5, 2) := by decide +kernel
theorem dX5_ratio_51 : decode cX5_ratio 51 = .ok (.lload_n 3, 1) := by decide +kernel
theorem dX5_ratio_52 : decode cX5_ratio 52 = .ok (.invokestatic 80, 3) := by decide +kernel
theorem dX5_ratio_55 : decode cX5_ratio 55 = .ok (.l2i, 1) := by decide +kernel
theorem dX5_ratio_56 : decode cX5_ratio 56 = .ok (.istore 6, 2) := by decide +kernel
theorem dX5_ratio_58 : decode cX5_ratio 58 = .ok (.iload_n 1, 1) := by decide +kernel
theorem dX5_ratio_59 : decode cX5_ratio 59 = .ok (.ifCond .eq 14, 3) := by decide +kernel
theorem dX5_ratio_62 : decode cX5_ratio 62 = .ok (.aload_n 0, 1) := by decide +kernel
theorem dX5_ratio_63 : decode cX5_ratio 63 = .ok (.getfield 16, 3) := by decide +kernel
theorem dX5_ratio_66 : decode cX5_ratio 66 = .ok (.iload_n 2, 1) := by decide +kernel
theorem dX5_ratio_67 : decode cX5_ratio 67 = .ok (.iload 6, 2) := by decide +kernel
theorem dX5_ratio_69 : decode cX5_ratio 69 = .ok (.iastore, 1) := by decide +kernel
theorem dX5_ratio_70 : decode cX5_ratio 70 = .ok (.goto 11, 3) := by decide +kernel
theorem dX5_ratio_73 : decode cX5_ratio 73 = .ok (.aload_n 0, 1) := by decide +kernel
theorem dX5_ratio_74 : decode cX5_ratio 74 = .ok (.getfield 19, 3) := by decide +kernel
theorem dX5_ratio_77 : decode cX5_ratio 77 = .ok (.iload_n 2, 1) := by decide +kernel
theorem dX5_ratio_78 : decode cX5_ratio 78 = .ok (.iload 6, 2) := by decide +kernel
theorem dX5_ratio_80 : decode cX5_ratio 80 = .ok (.iastore, 1) := by decide +kernel
theorem dX5_ratio_81 : decode cX5_ratio 81 = .ok (.iload 5, 2) := by decide +kernel
theorem dX5_ratio_83 : decode cX5_ratio 83 = .ok (.iload 6, 2) := by decide +kernel
theorem dX5_ratio_85 : decode cX5_ratio 85 = .ok (.if_icmp .eq 7, 3) := by decide +kernel
theorem dX5_ratio_88 : decode cX5_ratio 88 = .ok (.iconst 1, 1) := by decide +kernel
theorem dX5_ratio_89 : decode cX5_ratio 89 = .ok (.goto 4, 3) := by decide +kernel
theorem dX5_ratio_92 : decode cX5_ratio 92 = .ok (.iconst 0, 1) := by decide +kernel
theorem dX5_ratio_93 : decode cX5_ratio 93 = .ok (.ireturn, 1) := by decide +kernel
theorem dX5_isNoRatio_0 : decode cX5_isNoRatio 0 = .ok (.aload_n 0, 1) := by decide +kernel
theorem dX5_isNoRatio_1 : decode cX5_isNoRatio 1 = .ok (.getfield 19, 3) := by decide +kernel
theorem dX5_isNoRatio_4 : decode cX5_isNoRatio 4 = .ok (.iconst 0, 1) := by decide +kernel
theorem dX5_isNoRatio_5 : decode cX5_isNoRatio 5 = .ok (.iaload, 1) := by decide +kernel
theorem dX5_isNoRatio_6 : decode cX5_isNoRatio 6 = .ok (.ifCond .ne 34, 3) := by decide +kernel
theorem dX5_isNoRatio_9 : decode cX5_isNoRatio 9 = .ok (.aload_n 0, 1) := by decide +kernel
theorem dX5_isNoRatio_10 : decode cX5_isNoRatio 10 = .ok (.getfield 19, 3) := by decide +kernel
theorem dX5_isNoRatio_13 : decode cX5_isNoRatio 13 = .ok (.iconst 1, 1) := by decide +kernel
theorem dX5_isNoRatio_14 : decode cX5_isNoRatio 14 = .ok (.iaload, 1) := by decide +kernel
theorem dX5_isNoRatio_15 : decode cX5_isNoRatio 15 = .ok (.ifCond .ne 25, 3) := by decide +kernel
theorem dX5_isNoRatio_18 : decode cX5_isNoRatio 18 = .ok (.aload_n 0, 1) := by decide +kernel
theorem dX5_isNoRatio_19 : decode cX5_isNoRatio 19 = .ok (.getfield 19, 3) := by decide +kernel
theorem dX5_isNoRatio_22 : decode cX5_isNoRatio 22 = .ok (.iconst 2, 1) := by decide +kernel
theorem dX5_isNoRatio_23 : decode cX5_isNoRatio 23 = .ok (.iaload, 1) := by decide +kernel
theorem dX5_isNoRatio_24 : decode cX5_isNoRatio 24 = .ok (.ifCond .ne 16, 3) := by decide +kernel
theorem dX5_isNoRatio_27 : decode cX5_isNoRatio 27 = .ok (.aload_n 0, 1) := by decide +kernel
theorem dX5_isNoRatio_28 : decode cX5_isNoRatio 28 = .ok (.getfield 19, 3) := by decide +kernel
theorem dX5_isNoRatio_31 : decode cX5_isNoRatio 31 = .ok (.iconst 3, 1) := by decide +kernel
theorem dX5_isNoRatio_32 : decode cX5_isNoRatio 32 = .ok (.iaload, 1) := by decide +kernel
theorem dX5_isNoRatio_33 : decode cX5_isNoRatio 33 = .ok (.ifCond .ne 7, 3) := by decide +kernel
theorem dX5_isNoRatio_36 : decode cX5_isNoRatio 36 = .ok (.iconst 1, 1) := by decide +kernel
theorem dX5_isNoRatio_37 : decode cX5_isNoRatio 37 = .ok (.goto 4, 3) := by decide +kernel
theorem dX5_isNoRatio_40 : decode cX5_isNoRatio 40 = .ok (.iconst 0, 1) := by decide +kernel
theorem dX5_isNoRatio_41 : decode cX5_isNoRatio 41 = .ok (.ireturn, 1) := by decide +kernel
set_option maxRecDepth 20000 in
theorem ggX5_number_X5_empty : GoodIn wsX5_number wsX5_empty := goodIn_r _ [6] (by decide +kernel) (by decide +kernel)
set_option maxRecDepth 20000 in
theorem gX5_number_X5_empty : GoodIn wsX5_number (va_wsS RX5 68 yX5_empty wsX5_empty) := goodIn_app (goodIn_of _ (by decide +kernel)) ggX5_number_X5_empty
set_option maxRecDepth 20000 in
theorem ggX5_number_X5_modulo : GoodIn wsX5_number wsX5_modulo := goodIn_r _ [9, 10] (by decide +kernel) (by decide +kernel)
set_option maxRecDepth 20000 in
theorem gX5_number_X5_modulo : GoodIn wsX5_number (va_wsS RX5 80 yX5_modulo wsX5_modulo) := goodIn_app (goodIn_of _ (by decide +kernel)) ggX5_number_X5_modulo
set_option maxRecDepth 20000 in
theorem ggX5_number_X5_keep : GoodIn wsX5_number wsX5_keep := goodIn_r _ [14, 15, 1, 2, 16, 17, 18, 19, 20, 5, 21, 22, 23, 24, 25, 26, 27, 28, 29, 30, 31, 32, 33, 34, 35, 36, 37, 38, 39, 40, 41, 42, 43, 44, 45] (by decide +kernel) (by decide +kernel)
set_option maxRecDepth 20000 in
theorem gX5_number_X5_keep : GoodIn wsX5_number (wsV RX5 107 RX5 yX5_keep wsX5_keep) := goodIn_app (goodIn_of _ (by decide +kernel)) ggX5_number_X5_keep
theorem dX5_number_0 : decode cX5_number 0 = .ok (.aload_n 0, 1) := by decide +kernel
theorem dX5_number_1 : decode cX5_number 1 = .ok (.getfield 22, 3) := by decide +kernel
theorem dX5_number_4 : decode cX5_number 4 = .ok (.invokestatic 68, 3) := by decide +kernel
theorem dX5_number_7 : decode cX5_number 7 = .ok (.aload_n 0, 1) := by decide +kernel
theorem dX5_number_8 : decode cX5_number 8 = .ok (.getfield 26, 3) := by decide +kernel
theorem dX5_number_11 : decode cX5_number 11 = .ok (.invokestatic 68, 3) := by decide +kernel
theorem dX5_number_14 : decode cX5_number 14 = .ok (.aload_n 0, 1) := by decide +kernel
theorem dX5_number_15 : decode cX5_number 15 = .ok (.getfield 22, 3) := by decide +kernel
theorem dX5_number_18 : decode cX5_number 18 = .ok (.iconst 0, 1) := by decide +kernel
theorem dX5_number_19 : decode cX5_number 19 = .ok (.lload_n 1, 1) := by decide +kernel
theorem dX5_number_20 : decode cX5_number 20 = .ok (.invokestatic 80, 3) := by decide +kernel
theorem dX5_number_23 : decode cX5_number 23 = .ok (.lastore, 1) := by decide +kernel
theorem dX5_number_24 : decode cX5_number 24 = .ok (.aload_n 0, 1) := by decide +kernel
theorem dX5_number_25 : decode cX5_number 25 = .ok (.getfield 26, 3) := by decide +kernel
theorem dX5_number_28 : decode cX5_number 28 = .ok (.iconst 0, 1) := by decide +kernel
theorem dX5_number_29 : decode cX5_number 29 = .ok (.lconst 1, 1) := by decide +kernel
theorem dX5_number_30 : decode cX5_number 30 = .ok (.lastore, 1) := by decide +kernel
theorem dX5_number_31 : decode cX5_number 31 = .ok (.aload_n 0, 1) := by decide +kernel
theorem dX5_number_32 : decode cX5_number 32 = .ok (.iconst 1, 1) := by decide +kernel
theorem dX5_number_33 : decode cX5_number 33 = .ok (.invokevirtual 107, 3) := by decide +kernel
theorem dX5_number_36 : decode cX5_number 36 = .ok (.ireturn, 1) := by decide +kernel
set_option maxRecDepth 20000 in
theorem ggX5_letter_X5_empty : GoodIn wsX5_letter wsX5_empty := goodIn_r _ [6] (by decide +kernel) (by decide +kernel)
set_option maxRecDepth 20000 in
theorem gX5_letter_X5_empty : GoodIn wsX5_letter (va_wsS RX5 68 yX5_empty wsX5_empty) := goodIn_app (goodIn_of _ (by decide +kernel)) ggX5_letter_X5_empty
set_option maxRecDepth 20000 in
theorem ggX5_letter_X5_keep : GoodIn wsX5_letter wsX5_keep := goodIn_r _ [10, 11, 1, 2, 12, 13, 14, 15, 16, 5, 17, 18, 19, 20, 21, 22, 23, 24, 25, 26, 27, 28, 29, 30, 31, 32, 33, 34, 35, 36, 37, 38, 39, 40, 41] (by decide +kernel) (by decide +kernel)
set_option maxRecDepth 20000 in
theorem gX5_letter_X5_keep : GoodIn wsX5_letter (wsV RX5 107 RX5 yX5_keep wsX5_keep) := goodIn_app (goodIn_of _ (by decide +kernel)) ggX5_letter_X5_keep
theorem dX5_letter_0 : decode cX5_letter 0 = .ok (.aload_n 0, 1) := by decide +kernel
theorem dX5_letter_1 : decode cX5_letter 1 = .ok (.getfield 22, 3) := by decide +kernel
theorem dX5_letter_4 : decode cX5_letter 4 = .ok (.invokestatic 68, 3) := by decide +kernel
theorem dX5_letter_7 : decode cX5_letter 7 = .ok (.aload_n 0, 1) := by decide +kernel
theorem dX5_letter_8 : decode cX5_letter 8 = .ok (.getfield 26, 3) := by decide +kernel
theorem dX5_letter_11 : decode cX5_letter 11 = .ok (.invokestatic 68, 3) := by decide +kernel
theorem dX5_letter_14 : decode cX5_letter 14 = .ok (.aload_n 0, 1) := by decide +kernel
theorem dX5_letter_15 : decode cX5_letter 15 = .ok (.getfield 22, 3) := by decide +kernel
theorem dX5_letter_18 : decode cX5_letter 18 = .ok (.iconst 1, 1) := by decide +kernel
theorem dX5_letter_19 : decode cX5_letter 19 = .ok (.lconst 1, 1) := by decide +kernel
theorem dX5_letter_20 : decode cX5_letter 20 = .ok (.lastore, 1) := by decide +kernel
theorem dX5_letter_21 : decode cX5_letter 21 = .ok (.aload_n 0, 1) := by decide +kernel
theorem dX5_letter_22 : decode cX5_letter 22 = .ok (.getfield 26, 3) := by decide +kernel
theorem dX5_letter_25 : decode cX5_letter 25 = .ok (.iconst 0, 1) := by decide +kernel
theorem dX5_letter_26 : decode cX5_letter 26 = .ok (.lconst 1, 1) := by decide +kernel
theorem dX5_letter_27 : decode cX5_letter 27 = .ok (.lastore, 1) := by decide +kernel
theorem dX5_letter_28 : decode cX5_letter 28 = .ok (.aload_n 0, 1) := by decide +kernel
theorem dX5_letter_29 : decode cX5_letter 29 = .ok (.iconst 1, 1) := by decide +kernel
theorem dX5_letter_30 : decode cX5_letter 30 = .ok (.invokevirtual 107, 3) := by decide +kernel
theorem dX5_letter_33 : decode cX5_letter 33 = .ok (.ireturn, 1) := by decide +kernel
set_option maxRecDepth 20000 in
theorem ggX5_are_X5_isThere : GoodIn wsX5_are wsX5_isThere := goodIn_r _ [6, 7, 8, 9, 5, 10, 11, 12, 13, 14, 15, 16, 17, 18, 19, 20, 21, 22, 23, 24, 25, 26, 27, 28, 29, 30] (by decide +kernel) (by decide +kernel)
set_option maxRecDepth 20000 in
theorem gX5_are_X5_isThere : GoodIn wsX5_are (wsV RX5 110 RX5 yX5_isThere wsX5_isThere) := goodIn_app (goodIn_of _ (by decide +kernel)) ggX5_are_X5_isThere
theorem dX5_are_0 : decode cX5_are 0 = .ok (.aload_n 0, 1) := by decide +kernel
theorem dX5_are_1 : decode cX5_are 1 = .ok (.aload_n 0, 1) := by decide +kernel
theorem dX5_are_2 : decode cX5_are 2 = .ok (.iload_n 1, 1) := by decide +kernel
theorem dX5_are_3 : decode cX5_are 3 = .ok (.invokevirtual 110, 3) := by decide +kernel
theorem dX5_are_6 : decode cX5_are 6 = .ok (.ifCond .eq 15, 3) := by decide +kernel
theorem dX5_are_9 : decode cX5_are 9 = .ok (.aload_n 0, 1) := by decide +kernel
theorem dX5_are_10 : decode cX5_are 10 = .ok (.iload_n 2, 1) := by decide +kernel
theorem dX5_are_11 : decode cX5_are 11 = .ok (.invokevirtual 110, 3) := by decide +kernel
theorem dX5_are_14 : decode cX5_are 14 = .ok (.ifCond .eq 7, 3) := by decide +kernel
theorem dX5_are_17 : decode cX5_are 17 = .ok (.iconst 0, 1) := by decide +kernel
theorem dX5_are_18 : decode cX5_are 18 = .ok (.goto 4, 3) := by decide +kernel
theorem dX5_are_21 : decode cX5_are 21 = .ok (.iconst 1, 1) := by decide +kernel
theorem dX5_are_22 : decode cX5_are 22 = .ok (.putfield 62, 3) := by decide +kernel
theorem dX5_are_25 : decode cX5_are 25 = .ok (.aload_n 0, 1) := by decide +kernel
theorem dX5_are_26 : decode cX5_are 26 = .ok (.getfield 62, 3) := by decide +kernel
theorem dX5_are_29 : decode cX5_are 29 = .ok (.ifCond .ne 7, 3) := by decide +kernel
theorem dX5_are_32 : decode cX5_are 32 = .ok (.iconst 1, 1) := by decide +kernel
theorem dX5_are_33 : decode cX5_are 33 = .ok (.goto 4, 3) := by decide +kernel
theorem dX5_are_36 : decode cX5_are 36 = .ok (.iconst 0, 1) := by decide +kernel
theorem dX5_are_37 : decode cX5_are 37 = .ok (.ireturn, 1) := by decide +kernel
set_option maxRecDepth 20000 in
theorem ggX5_add_X5_are : GoodIn wsX5_add wsX5_are := goodIn_r _ [5, 6, 7, 8, 9, 4, 10, 11, 12, 13, 14, 75, 76, 77, 78, 79, 80, 81, 82, 83, 84, 85, 86, 87, 88, 89, 90, 91, 92, 93, 94] (by decide +kernel) (by decide +kernel)
set_option maxRecDepth 20000 in
theorem gX5_add_X5_are : GoodIn wsX5_add (wsV RX5 114 RX5 yX5_are wsX5_are) := goodIn_app (goodIn_of _ (by decide +kernel)) ggX5_add_X5_are
set_option maxRecDepth 20000 in
theorem ggX5_add_X5_sum : GoodIn wsX5_add wsX5_sum := goodIn_r _ [18, 19, 20, 21, 22, 23, 24, 25, 26, 27, 4, 28, 29, 30, 31, 32, 33, 34, 35, 36, 37, 38, 39, 40, 41, 42, 43, 44, 45, 46, 47, 48, 49, 50, 51, 52, 53, 54, 55, 56, 57, 58, 59, 60, 61, 62, 63, 64, 65, 66, 75, 76, 77, 78, 79, 80, 81, 82, 83, 84, 85, 86, 87, 88, 89, 90, 91, 92, 93, 94] (by decide +kernel) (by decide +kernel)
set_option maxRecDepth 20000 in
theorem gX5_add_X5_sum : GoodIn wsX5_add (wsV RX5 118 RX5 yX5_sum wsX5_sum) := goodIn_app (goodIn_of _ (by decide +kernel)) ggX5_add_X5_sum
set_option maxRecDepth 20000 in
theorem ggX5_add_X5_keep : GoodIn wsX5_add wsX5_keep := goodIn_r _ [70, 11, 19, 20, 6, 29, 37, 45, 46, 4, 47, 71, 72, 73, 74, 75, 76, 77, 78, 79, 80, 81, 82, 83, 84, 85, 86, 87, 88, 89, 90, 91, 92, 93, 94] (by decide +kernel) (by decide +kernel)
set_option maxRecDepth 20000 in
theorem gX5_add_X5_keep : GoodIn wsX5_add (wsV RX5 107 RX5 yX5_keep wsX5_keep) := goodIn_app (goodIn_of _ (by decide +kernel)) ggX5_add_X5_keep
theorem dX5_add_0 : decode cX5_add 0 = .ok (.aload_n 0, 1) := by decide +kernel
theorem dX5_add_1 : decode cX5_add 1 = .ok (.iload_n 1, 1) := by decide +kernel
theorem dX5_add_2 : decode cX5_add 2 = .ok (.iload_n 2, 1) := by decide +kernel
theorem dX5_add_3 : decode cX5_add 3 = .ok (.invokevirtual 114, 3) := by decide +kernel
theorem dX5_add_6 : decode cX5_add 6 = .ok (.ifCond .ne 5, 3) := by decide +kernel
theorem dX5_add_9 : decode cX5_add 9 = .ok (.iconst 0, 1) := by decide +kernel
theorem dX5_add_10 : decode cX5_add 10 = .ok (.ireturn, 1) := by decide +kernel
theorem dX5_add_11 : decode cX5_add 11 = .ok (.aload_n 0, 1) := by decide +kernel
theorem dX5_add_12 : decode cX5_add 12 = .ok (.iload_n 1, 1) := by decide +kernel
theorem dX5_add_13 : decode cX5_add 13 = .ok (.iload_n 2, 1) := by decide +kernel
theorem dX5_add_14 : decode cX5_add 14 = .ok (.invokevirtual 118, 3) := by decide +kernel
theorem dX5_add_17 : decode cX5_add 17 = .ok (.aload_n 0, 1) := by decide +kernel
theorem dX5_add_18 : decode cX5_add 18 = .ok (.iconst 2, 1) := by decide +kernel
theorem dX5_add_19 : decode cX5_add 19 = .ok (.invokevirtual 107, 3) := by decide +kernel
theorem dX5_add_22 : decode cX5_add 22 = .ok (.ireturn, 1) := by decide +kernel
set_option maxRecDepth 20000 in
theorem ggX5_sum_X5_loadTop : GoodIn wsX5_sum wsX5_loadTop := goodIn_r _ [11, 12, 13, 14, 10, 15, 50, 51, 52, 53, 54, 55, 56, 57, 58, 59, 60, 61, 62, 63, 64, 65, 66, 67, 68, 69] (by decide +kernel) (by decide +kernel)
set_option maxRecDepth 20000 in
theorem gX5_sum_X5_loadTop : GoodIn wsX5_sum (wsV RX5 122 RX5 yX5_loadTop wsX5_loadTop) := goodIn_app (goodIn_of _ (by decide +kernel)) ggX5_sum_X5_loadTop
set_option maxRecDepth 20000 in
theorem ggX5_sum_X5_loadBottom : GoodIn wsX5_sum wsX5_loadBottom := goodIn_r _ [19, 20, 13, 14, 10, 15, 50, 51, 52, 53, 54, 55, 56, 57, 58, 59, 60, 61, 62, 63, 64, 65, 66, 67, 68, 69] (by decide +kernel) (by decide +kernel)
set_option maxRecDepth 20000 in
theorem gX5_sum_X5_loadBottom : GoodIn wsX5_sum (wsV RX5 126 RX5 yX5_loadBottom wsX5_loadBottom) := goodIn_app (goodIn_of _ (by decide +kernel)) ggX5_sum_X5_loadBottom
set_option maxRecDepth 20000 in
theorem ggX5_sum_X5_multiply : GoodIn wsX5_sum wsX5_multiply := goodIn_r _ [24, 4, 6, 25, 26, 10, 27, 28, 29, 30, 50, 51, 52, 53, 54, 55, 56, 57, 58, 59, 60, 61, 62, 63, 64, 65, 66, 67, 68, 69] (by decide +kernel) (by decide +kernel)
set_option maxRecDepth 20000 in
theorem gX5_sum_X5_multiply : GoodIn wsX5_sum (wsV RX5 129 RX5 yX5_multiply wsX5_multiply) := goodIn_app (goodIn_of _ (by decide +kernel)) ggX5_sum_X5_multiply
set_option maxRecDepth 20000 in
theorem ggX5_sum_X5_copy : GoodIn wsX5_sum wsX5_copy := goodIn_r _ [33] (by decide +kernel) (by decide +kernel)
set_option maxRecDepth 20000 in
theorem gX5_sum_X5_copy : GoodIn wsX5_sum (va_wsS RX5 83 yX5_copy wsX5_copy) := goodIn_app (goodIn_of _ (by decide +kernel)) ggX5_sum_X5_copy
set_option maxRecDepth 20000 in
theorem ggX5_sum_X5_lowest : GoodIn wsX5_sum wsX5_lowest := goodIn_r _ [37, 4, 1, 38, 2, 39, 6, 31, 32, 10, 33, 28, 29, 30, 40, 41, 42, 43, 44, 45, 46, 25, 26, 27, 47, 48, 49, 50, 51, 52, 53, 54, 55, 56, 57, 58, 59, 60, 61, 62, 63, 64, 65, 66, 67, 68, 69] (by decide +kernel) (by decide +kernel)
set_option maxRecDepth 20000 in
theorem gX5_sum_X5_lowest : GoodIn wsX5_sum (wsV RX5 132 RX5 yX5_lowest wsX5_lowest) := goodIn_app (goodIn_of _ (by decide +kernel)) ggX5_sum_X5_lowest
theorem dX5_sum_0 : decode cX5_sum 0 = .ok (.aload_n 0, 1) := by decide +kernel
theorem dX5_sum_1 : decode cX5_sum 1 = .ok (.aload_n 0, 1) := by decide +kernel
theorem dX5_sum_2 : decode cX5_sum 2 = .ok (.getfield 22, 3) := by decide +kernel
theorem dX5_sum_5 : decode cX5_sum 5 = .ok (.iload_n 1, 1) := by decide +kernel
theorem dX5_sum_6 : decode cX5_sum 6 = .ok (.invokevirtual 122, 3) := by decide +kernel
theorem dX5_sum_9 : decode cX5_sum 9 = .ok (.aload_n 0, 1) := by decide +kernel
theorem dX5_sum_10 : decode cX5_sum 10 = .ok (.aload_n 0, 1) := by decide +kernel
theorem dX5_sum_11 : decode cX5_sum 11 = .ok (.getfield 26, 3) := by decide +kernel
theorem dX5_sum_14 : decode cX5_sum 14 = .ok (.iload_n 2, 1) := by decide +kernel
theorem dX5_sum_15 : decode cX5_sum 15 = .ok (.invokevirtual 126, 3) := by decide +kernel
theorem dX5_sum_18 : decode cX5_sum 18 = .ok (.aload_n 0, 1) := by decide +kernel
theorem dX5_sum_19 : decode cX5_sum 19 = .ok (.aload_n 0, 1) := by decide +kernel
theorem dX5_sum_20 : decode cX5_sum 20 = .ok (.getfield 22, 3) := by decide +kernel
theorem dX5_sum_23 : decode cX5_sum 23 = .ok (.aload_n 0, 1) := by decide +kernel
theorem dX5_sum_24 : decode cX5_sum 24 = .ok (.getfield 26, 3) := by decide +kernel
theorem dX5_sum_27 : decode cX5_sum 27 = .ok (.invokevirtual 129, 3) := by decide +kernel
theorem dX5_sum_30 : decode cX5_sum 30 = .ok (.aload_n 0, 1) := by decide +kernel
theorem dX5_sum_31 : decode cX5_sum 31 = .ok (.getfield 29, 3) := by decide +kernel
theorem dX5_sum_34 : decode cX5_sum 34 = .ok (.aload_n 0, 1) := by decide +kernel
theorem dX5_sum_35 : decode cX5_sum 35 = .ok (.getfield 38, 3) := by decide +kernel
theorem dX5_sum_38 : decode cX5_sum 38 = .ok (.invokestatic 83, 3) := by decide +kernel
theorem dX5_sum_41 : decode cX5_sum 41 = .ok (.aload_n 0, 1) := by decide +kernel
theorem dX5_sum_42 : decode cX5_sum 42 = .ok (.aload_n 0, 1) := by decide +kernel
theorem dX5_sum_43 : decode cX5_sum 43 = .ok (.getfield 22, 3) := by decide +kernel
theorem dX5_sum_46 : decode cX5_sum 46 = .ok (.iload_n 2, 1) := by decide +kernel
theorem dX5_sum_47 : decode cX5_sum 47 = .ok (.invokevirtual 122, 3) := by decide +kernel
theorem dX5_sum_50 : decode cX5_sum 50 = .ok (.aload_n 0, 1) := by decide +kernel
theorem dX5_sum_51 : decode cX5_sum 51 = .ok (.aload_n 0, 1) := by decide +kernel
theorem dX5_sum_52 : decode cX5_sum 52 = .ok (.getfield 32, 3) := by decide +kernel
theorem dX5_sum_55 : decode cX5_sum 55 = .ok (.iload_n 1, 1) := by decide +kernel
theorem dX5_sum_56 : decode cX5_sum 56 = .ok (.invokevirtual 126, 3) := by decide +kernel
theorem dX5_sum_59 : decode cX5_sum 59 = .ok (.aload_n 0, 1) := by decide +kernel
theorem dX5_sum_60 : decode cX5_sum 60 = .ok (.aload_n 0, 1) := by decide +kernel
theorem dX5_sum_61 : decode cX5_sum 61 = .ok (.getfield 22, 3) := by decide +kernel
theorem dX5_sum_64 : decode cX5_sum 64 = .ok (.aload_n 0, 1) := by decide +kernel
theorem dX5_sum_65 : decode cX5_sum 65 = .ok (.getfield 32, 3) := by decide +kernel
theorem dX5_sum_68 : decode cX5_sum 68 = .ok (.invokevirtual 129, 3) := by decide +kernel
theorem dX5_sum_71 : decode cX5_sum 71 = .ok (.iconst 0, 1) := by decide +kernel
theorem dX5_sum_72 : decode cX5_sum 72 = .ok (.istore_n 3, 1) := by decide +kernel
theorem dX5_sum_73 : decode cX5_sum 73 = .ok (.iload_n 3, 1) := by decide +kernel
theorem dX5_sum_74 : decode cX5_sum 74 = .ok (.bipush 64, 2) := by decide +kernel
theorem dX5_sum_76 : decode cX5_sum 76 = .ok (.if_icmp .ge 32, 3) := by decide +kernel
theorem dX5_sum_79 : decode cX5_sum 79 = .ok (.aload_n 0, 1) := by decide +kernel
theorem dX5_sum_80 : decode cX5_sum 80 = .ok (.getfield 22, 3) := by decide +kernel
theorem dX5_sum_83 : decode cX5_sum 83 = .ok (.iload_n 3, 1) := by decide +kernel
theorem dX5_sum_84 : decode cX5_sum 84 = .ok (.aload_n 0, 1) := by decide +kernel
theorem dX5_sum_85 : decode cX5_sum 85 = .ok (.getfield 38, 3) := by decide +kernel
theorem dX5_sum_88 : decode cX5_sum 88 = .ok (.iload_n 3, 1) := by decide +kernel
theorem dX5_sum_89 : decode cX5_sum 89 = .ok (.laload, 1) := by decide +kernel
theorem dX5_sum_90 : decode cX5_sum 90 = .ok (.aload_n 0, 1) := by decide +kernel
theorem dX5_sum_91 : decode cX5_sum 91 = .ok (.getfield 29, 3) := by decide +kernel
theorem dX5_sum_94 : decode cX5_sum 94 = .ok (.iload_n 3, 1) := by decide +kernel
theorem dX5_sum_95 : decode cX5_sum 95 = .ok (.laload, 1) := by decide +kernel
theorem dX5_sum_96 : decode cX5_sum 96 = .ok (.ladd, 1) := by decide +kernel
theorem dX5_sum_97 : decode cX5_sum 97 = .ok (.ldc2_w 66, 3) := by decide +kernel
theorem dX5_sum_100 : decode cX5_sum 100 = .ok (.lrem, 1) := by decide +kernel
theorem dX5_sum_101 : decode cX5_sum 101 = .ok (.lastore, 1) := by decide +kernel
theorem dX5_sum_102 : decode cX5_sum 102 = .ok (.iinc 3 1, 3) := by decide +kernel
theorem dX5_sum_105 : decode cX5_sum 105 = .ok (.goto (-32), 3) := by decide +kernel
theorem dX5_sum_108 : decode cX5_sum 108 = .ok (.aload_n 0, 1) := by decide +kernel
theorem dX5_sum_109 : decode cX5_sum 109 = .ok (.aload_n 0, 1) := by decide +kernel
theorem dX5_sum_110 : decode cX5_sum 110 = .ok (.getfield 26, 3) := by decide +kernel
theorem dX5_sum_113 : decode cX5_sum 113 = .ok (.aload_n 0, 1) := by decide +kernel
theorem dX5_sum_114 : decode cX5_sum 114 = .ok (.getfield 32, 3) := by decide +kernel
theorem dX5_sum_117 : decode cX5_sum 117 = .ok (.invokevirtual 129, 3) := by decide +kernel
theorem dX5_sum_120 : decode cX5_sum 120 = .ok (.aload_n 0, 1) := by decide +kernel
theorem dX5_sum_121 : decode cX5_sum 121 = .ok (.getfield 26, 3) := by decide +kernel
theorem dX5_sum_124 : decode cX5_sum 124 = .ok (.aload_n 0, 1) := by decide +kernel
theorem dX5_sum_125 : decode cX5_sum 125 = .ok (.getfield 38, 3) := by decide +kernel
theorem dX5_sum_128 : decode cX5_sum 128 = .ok (.invokestatic 83, 3) := by decide +kernel
theorem dX5_sum_131 : decode cX5_sum 131 = .ok (.aload_n 0, 1) := by decide +kernel
theorem dX5_sum_132 : decode cX5_sum 132 = .ok (.invokevirtual 132, 3) := by decide +kernel
theorem dX5_sum_135 : decode cX5_sum 135 = .ok (.return_, 1) := by decide +kernel
set_option maxRecDepth 20000 in
theorem ggX5_times_X5_are : GoodIn wsX5_times wsX5_are := goodIn_r _ [9, 10, 11, 12, 13, 8, 14, 15, 16, 17, 18, 70, 71, 72, 73, 74, 75, 76, 77, 78, 79, 80, 81, 82, 83, 84, 85, 86, 87, 88, 89] (by decide +kernel) (by decide +kernel)
set_option maxRecDepth 20000 in
theorem gX5_times_X5_are : GoodIn wsX5_times (wsV RX5 114 RX5 yX5_are wsX5_are) := goodIn_app (goodIn_of _ (by decide +kernel)) ggX5_times_X5_are
set_option maxRecDepth 20000 in
theorem ggX5_times_X5_loadTop : GoodIn wsX5_times wsX5_loadTop := goodIn_r _ [22, 23, 24, 25, 8, 26, 70, 71, 72, 73, 74, 75, 76, 77, 78, 79, 80, 81, 82, 83, 84, 85, 86, 87, 88, 89] (by decide +kernel) (by decide +kernel)
set_option maxRecDepth 20000 in
theorem gX5_times_X5_loadTop : GoodIn wsX5_times (wsV RX5 122 RX5 yX5_loadTop wsX5_loadTop) := goodIn_app (goodIn_of _ (by decide +kernel)) ggX5_times_X5_loadTop
set_option maxRecDepth 20000 in
theorem ggX5_times_X5_multiply : GoodIn wsX5_times wsX5_multiply := goodIn_r _ [30, 3, 31, 32, 33, 8, 34, 35, 36, 37, 70, 71, 72, 73, 74, 75, 76, 77, 78, 79, 80, 81, 82, 83, 84, 85, 86, 87, 88, 89] (by decide +kernel) (by decide +kernel)
set_option maxRecDepth 20000 in
theorem gX5_times_X5_multiply : GoodIn wsX5_times (wsV RX5 129 RX5 yX5_multiply wsX5_multiply) := goodIn_app (goodIn_of _ (by decide +kernel)) ggX5_times_X5_multiply
set_option maxRecDepth 20000 in
theorem ggX5_times_X5_copy : GoodIn wsX5_times wsX5_copy := goodIn_r _ [40] (by decide +kernel) (by decide +kernel)
set_option maxRecDepth 20000 in
theorem gX5_times_X5_copy : GoodIn wsX5_times (va_wsS RX5 83 yX5_copy wsX5_copy) := goodIn_app (goodIn_of _ (by decide +kernel)) ggX5_times_X5_copy
set_option maxRecDepth 20000 in
theorem ggX5_times_X5_loadBottom : GoodIn wsX5_times wsX5_loadBottom := goodIn_r _ [44, 45, 24, 25, 8, 26, 70, 71, 72, 73, 74, 75, 76, 77, 78, 79, 80, 81, 82, 83, 84, 85, 86, 87, 88, 89] (by decide +kernel) (by decide +kernel)
set_option maxRecDepth 20000 in
theorem gX5_times_X5_loadBottom : GoodIn wsX5_times (wsV RX5 126 RX5 yX5_loadBottom wsX5_loadBottom) := goodIn_app (goodIn_of _ (by decide +kernel)) ggX5_times_X5_loadBottom
set_option maxRecDepth 20000 in
theorem ggX5_times_X5_lowest : GoodIn wsX5_times wsX5_lowest := goodIn_r _ [49, 3, 1, 50, 4, 51, 31, 38, 39, 8, 40, 35, 36, 37, 52, 53, 54, 55, 56, 57, 58, 32, 33, 34, 59, 60, 61, 70, 71, 72, 73, 74, 75, 76, 77, 78, 79, 80, 81, 82, 83, 84, 85, 86, 87, 88, 89] (by decide +kernel) (by decide +kernel)
set_option maxRecDepth 20000 in
theorem gX5_times_X5_lowest : GoodIn wsX5_times (wsV RX5 132 RX5 yX5_lowest wsX5_lowest) := goodIn_app (goodIn_of _ (by decide +kernel)) ggX5_times_X5_lowest
set_option maxRecDepth 20000 in
theorem ggX5_times_X5_keep : GoodIn wsX5_times wsX5_keep := goodIn_r _ [65, 15, 1, 4, 10, 23, 45, 35, 36, 8, 37, 66, 67, 68, 69, 70, 71, 72, 73, 74, 75, 76, 77, 78, 79, 80, 81, 82, 83, 84, 85, 86, 87, 88, 89] (by decide +kernel) (by decide +kernel)
set_option maxRecDepth 20000 in
theorem gX5_times_X5_keep : GoodIn wsX5_times (wsV RX5 107 RX5 yX5_keep wsX5_keep) := goodIn_app (goodIn_of _ (by decide +kernel)) ggX5_times_X5_keep
theorem dX5_times_0 : decode cX5_times 0 = .ok (.aload_n 0, 1) := by decide +kernel
theorem dX5_times_1 : decode cX5_times 1 = .ok (.iload_n 1, 1) := by decide +kernel
theorem dX5_times_2 : decode cX5_times 2 = .ok (.iload_n 2, 1) := by decide +kernel
theorem dX5_times_3 : decode cX5_times 3 = .ok (.invokevirtual 114, 3) := by decide +kernel
theorem dX5_times_6 : decode cX5_times 6 = .ok (.ifCond .ne 5, 3) := by decide +kernel
theorem dX5_times_9 : decode cX5_times 9 = .ok (.iconst 0, 1) := by decide +kernel
theorem dX5_times_10 : decode cX5_times 10 = .ok (.ireturn, 1) := by decide +kernel
theorem dX5_times_11 : decode cX5_times 11 = .ok (.aload_n 0, 1) := by decide +kernel
theorem dX5_times_12 : decode cX5_times 12 = .ok (.aload_n 0, 1) := by decide +kernel
theorem dX5_times_13 : decode cX5_times 13 = .ok (.getfield 22, 3) := by decide +kernel
theorem dX5_times_16 : decode cX5_times 16 = .ok (.iload_n 1, 1) := by decide +kernel
theorem dX5_times_17 : decode cX5_times 17 = .ok (.invokevirtual 122, 3) := by decide +kernel
theorem dX5_times_20 : decode cX5_times 20 = .ok (.aload_n 0, 1) := by decide +kernel
theorem dX5_times_21 : decode cX5_times 21 = .ok (.aload_n 0, 1) := by decide +kernel
theorem dX5_times_22 : decode cX5_times 22 = .ok (.getfield 29, 3) := by decide +kernel
theorem dX5_times_25 : decode cX5_times 25 = .ok (.iload_n 2, 1) := by decide +kernel
theorem dX5_times_26 : decode cX5_times 26 = .ok (.invokevirtual 122, 3) := by decide +kernel
theorem dX5_times_29 : decode cX5_times 29 = .ok (.aload_n 0, 1) := by decide +kernel
theorem dX5_times_30 : decode cX5_times 30 = .ok (.aload_n 0, 1) := by decide +kernel
theorem dX5_times_31 : decode cX5_times 31 = .ok (.getfield 22, 3) := by decide +kernel
theorem dX5_times_34 : decode cX5_times 34 = .ok (.aload_n 0, 1) := by decide +kernel
theorem dX5_times_35 : decode cX5_times 35 = .ok (.getfield 29, 3) := by decide +kernel
theorem dX5_times_38 : decode cX5_times 38 = .ok (.invokevirtual 129, 3) := by decide +kernel
theorem dX5_times_41 : decode cX5_times 41 = .ok (.aload_n 0, 1) := by decide +kernel
theorem dX5_times_42 : decode cX5_times 42 = .ok (.getfield 22, 3) := by decide +kernel
theorem dX5_times_45 : decode cX5_times 45 = .ok (.aload_n 0, 1) := by decide +kernel
theorem dX5_times_46 : decode cX5_times 46 = .ok (.getfield 38, 3) := by decide +kernel
theorem dX5_times_49 : decode cX5_times 49 = .ok (.invokestatic 83, 3) := by decide +kernel
theorem dX5_times_52 : decode cX5_times 52 = .ok (.aload_n 0, 1) := by decide +kernel
theorem dX5_times_53 : decode cX5_times 53 = .ok (.aload_n 0, 1) := by decide +kernel
theorem dX5_times_54 : decode cX5_times 54 = .ok (.getfield 26, 3) := by decide +kernel
theorem dX5_times_57 : decode cX5_times 57 = .ok (.iload_n 1, 1) := by decide +kernel
theorem dX5_times_58 : decode cX5_times 58 = .ok (.invokevirtual 126, 3) := by decide +kernel
theorem dX5_times_61 : decode cX5_times 61 = .ok (.aload_n 0, 1) := by decide +kernel
theorem dX5_times_62 : decode cX5_times 62 = .ok (.aload_n 0, 1) := by decide +kernel
theorem dX5_times_63 : decode cX5_times 63 = .ok (.getfield 29, 3) := by decide +kernel
theorem dX5_times_66 : decode cX5_times 66 = .ok (.iload_n 2, 1) := by decide +kernel
theorem dX5_times_67 : decode cX5_times 67 = .ok (.invokevirtual 126, 3) := by decide +kernel
theorem dX5_times_70 : decode cX5_times 70 = .ok (.aload_n 0, 1) := by decide +kernel
theorem dX5_times_71 : decode cX5_times 71 = .ok (.aload_n 0, 1) := by decide +kernel
theorem dX5_times_72 : decode cX5_times 72 = .ok (.getfield 26, 3) := by decide +kernel
theorem dX5_times_75 : decode cX5_times 75 = .ok (.aload_n 0, 1) := by decide +kernel
theorem dX5_times_76 : decode cX5_times 76 = .ok (.getfield 29, 3) := by decide +kernel
theorem dX5_times_79 : decode cX5_times 79 = .ok (.invokevirtual 129, 3) := by decide +kernel
theorem dX5_times_82 : decode cX5_times 82 = .ok (.aload_n 0, 1) := by decide +kernel
theorem dX5_times_83 : decode cX5_times 83 = .ok (.getfield 26, 3) := by decide +kernel
theorem dX5_times_86 : decode cX5_times 86 = .ok (.aload_n 0, 1) := by decide +kernel
theorem dX5_times_87 : decode cX5_times 87 = .ok (.getfield 38, 3) := by decide +kernel
theorem dX5_times_90 : decode cX5_times 90 = .ok (.invokestatic 83, 3) := by decide +kernel
theorem dX5_times_93 : decode cX5_times 93 = .ok (.aload_n 0, 1) := by decide +kernel
theorem dX5_times_94 : decode cX5_times 94 = .ok (.invokevirtual 132, 3) := by decide +kernel
theorem dX5_times_97 : decode cX5_times 97 = .ok (.aload_n 0, 1) := by decide +kernel
theorem dX5_times_98 : decode cX5_times 98 = .ok (.iconst 2, 1) := by decide +kernel
theorem dX5_times_99 : decode cX5_times 99 = .ok (.invokevirtual 107, 3) := by decide +kernel
theorem dX5_times_102 : decode cX5_times 102 = .ok (.ireturn, 1) := by decide +kernel
set_option maxRecDepth 20000 in
theorem ggX5_over_X5_are : GoodIn wsX5_over wsX5_are := goodIn_r _ [9, 10, 11, 12, 13, 8, 14, 15, 16, 17, 18, 70, 71, 72, 73, 74, 75, 76, 77, 78, 79, 80, 81, 82, 83, 84, 85, 86, 87, 88, 89] (by decide +kernel) (by decide +kernel)
set_option maxRecDepth 20000 in
theorem gX5_over_X5_are : GoodIn wsX5_over (wsV RX5 114 RX5 yX5_are wsX5_are) := goodIn_app (goodIn_of _ (by decide +kernel)) ggX5_over_X5_are
set_option maxRecDepth 20000 in
theorem ggX5_over_X5_loadTop : GoodIn wsX5_over wsX5_loadTop := goodIn_r _ [22, 23, 24, 25, 8, 26, 70, 71, 72, 73, 74, 75, 76, 77, 78, 79, 80, 81, 82, 83, 84, 85, 86, 87, 88, 89] (by decide +kernel) (by decide +kernel)
set_option maxRecDepth 20000 in
theorem gX5_over_X5_loadTop : GoodIn wsX5_over (wsV RX5 122 RX5 yX5_loadTop wsX5_loadTop) := goodIn_app (goodIn_of _ (by decide +kernel)) ggX5_over_X5_loadTop
set_option maxRecDepth 20000 in
theorem ggX5_over_X5_high : GoodIn wsX5_over wsX5_high := goodIn_r _ [29] (by decide +kernel) (by decide +kernel)
set_option maxRecDepth 20000 in
theorem gX5_over_X5_high : GoodIn wsX5_over (va_wsS RX5 72 yX5_high wsX5_high) := goodIn_app (goodIn_of _ (by decide +kernel)) ggX5_over_X5_high
set_option maxRecDepth 20000 in
theorem ggX5_over_X5_raise : GoodIn wsX5_over wsX5_raise := goodIn_r _ [33, 10, 70, 71, 72, 73, 74, 75, 76, 77, 78, 79, 80, 81, 82, 83, 84, 85, 86, 87, 88, 89] (by decide +kernel) (by decide +kernel)
set_option maxRecDepth 20000 in
theorem gX5_over_X5_raise : GoodIn wsX5_over (wsV RX5 97 RX5 yX5_raise wsX5_raise) := goodIn_app (goodIn_of _ (by decide +kernel)) ggX5_over_X5_raise
set_option maxRecDepth 20000 in
theorem ggX5_over_X5_loadBottom : GoodIn wsX5_over wsX5_loadBottom := goodIn_r _ [37, 38, 24, 25, 8, 26, 70, 71, 72, 73, 74, 75, 76, 77, 78, 79, 80, 81, 82, 83, 84, 85, 86, 87, 88, 89] (by decide +kernel) (by decide +kernel)
set_option maxRecDepth 20000 in
theorem gX5_over_X5_loadBottom : GoodIn wsX5_over (wsV RX5 126 RX5 yX5_loadBottom wsX5_loadBottom) := goodIn_app (goodIn_of _ (by decide +kernel)) ggX5_over_X5_loadBottom
set_option maxRecDepth 20000 in
theorem ggX5_over_X5_multiply : GoodIn wsX5_over wsX5_multiply := goodIn_r _ [42, 3, 43, 44, 45, 8, 46, 27, 28, 29, 70, 71, 72, 73, 74, 75, 76, 77, 78, 79, 80, 81, 82, 83, 84, 85, 86, 87, 88, 89] (by decide +kernel) (by decide +kernel)
set_option maxRecDepth 20000 in
theorem gX5_over_X5_multiply : GoodIn wsX5_over (wsV RX5 129 RX5 yX5_multiply wsX5_multiply) := goodIn_app (goodIn_of _ (by decide +kernel)) ggX5_over_X5_multiply
set_option maxRecDepth 20000 in
theorem ggX5_over_X5_copy : GoodIn wsX5_over wsX5_copy := goodIn_r _ [49] (by decide +kernel) (by decide +kernel)
set_option maxRecDepth 20000 in
theorem gX5_over_X5_copy : GoodIn wsX5_over (va_wsS RX5 83 yX5_copy wsX5_copy) := goodIn_app (goodIn_of _ (by decide +kernel)) ggX5_over_X5_copy
set_option maxRecDepth 20000 in
theorem ggX5_over_X5_lowest : GoodIn wsX5_over wsX5_lowest := goodIn_r _ [53, 3, 4, 54, 2, 55, 43, 47, 48, 8, 49, 27, 28, 29, 56, 57, 58, 59, 60, 61, 62, 44, 45, 46, 63, 64, 65, 70, 71, 72, 73, 74, 75, 76, 77, 78, 79, 80, 81, 82, 83, 84, 85, 86, 87, 88, 89] (by decide +kernel) (by decide +kernel)
set_option maxRecDepth 20000 in
theorem gX5_over_X5_lowest : GoodIn wsX5_over (wsV RX5 132 RX5 yX5_lowest wsX5_lowest) := goodIn_app (goodIn_of _ (by decide +kernel)) ggX5_over_X5_lowest
set_option maxRecDepth 20000 in
theorem ggX5_over_X5_keep : GoodIn wsX5_over wsX5_keep := goodIn_r _ [69, 15, 4, 2, 10, 23, 38, 27, 28, 8, 29, 30, 31, 32, 33, 70, 71, 72, 73, 74, 75, 76, 77, 78, 79, 80, 81, 82, 83, 84, 85, 86, 87, 88, 89] (by decide +kernel) (by decide +kernel)
set_option maxRecDepth 20000 in
theorem gX5_over_X5_keep : GoodIn wsX5_over (wsV RX5 107 RX5 yX5_keep wsX5_keep) := goodIn_app (goodIn_of _ (by decide +kernel)) ggX5_over_X5_keep
theorem dX5_over_0 : decode cX5_over 0 = .ok (.aload_n 0, 1) := by decide +kernel
theorem dX5_over_1 : decode cX5_over 1 = .ok (.iload_n 1, 1) := by decide +kernel
theorem dX5_over_2 : decode cX5_over 2 = .ok (.iload_n 2, 1) := by decide +kernel
theorem dX5_over_3 : decode cX5_over 3 = .ok (.invokevirtual 114, 3) := by decide +kernel
theorem dX5_over_6 : decode cX5_over 6 = .ok (.ifCond .ne 5, 3) := by decide +kernel
theorem dX5_over_9 : decode cX5_over 9 = .ok (.iconst 0, 1) := by decide +kernel
theorem dX5_over_10 : decode cX5_over 10 = .ok (.ireturn, 1) := by decide +kernel
theorem dX5_over_11 : decode cX5_over 11 = .ok (.aload_n 0, 1) := by decide +kernel
theorem dX5_over_12 : decode cX5_over 12 = .ok (.aload_n 0, 1) := by decide +kernel
theorem dX5_over_13 : decode cX5_over 13 = .ok (.getfield 29, 3) := by decide +kernel
theorem dX5_over_16 : decode cX5_over 16 = .ok (.iload_n 2, 1) := by decide +kernel
theorem dX5_over_17 : decode cX5_over 17 = .ok (.invokevirtual 122, 3) := by decide +kernel
theorem dX5_over_20 : decode cX5_over 20 = .ok (.aload_n 0, 1) := by decide +kernel
theorem dX5_over_21 : decode cX5_over 21 = .ok (.getfield 29, 3) := by decide +kernel
theorem dX5_over_24 : decode cX5_over 24 = .ok (.invokestatic 72, 3) := by decide +kernel
theorem dX5_over_27 : decode cX5_over 27 = .ok (.ifCond .ge 9, 3) := by decide +kernel
theorem dX5_over_30 : decode cX5_over 30 = .ok (.aload_n 0, 1) := by decide +kernel
theorem dX5_over_31 : decode cX5_over 31 = .ok (.iconst 2, 1) := by decide +kernel
theorem dX5_over_32 : decode cX5_over 32 = .ok (.invokevirtual 97, 3) := by decide +kernel
theorem dX5_over_35 : decode cX5_over 35 = .ok (.ireturn, 1) := by decide +kernel
theorem dX5_over_36 : decode cX5_over 36 = .ok (.aload_n 0, 1) := by decide +kernel
theorem dX5_over_37 : decode cX5_over 37 = .ok (.aload_n 0, 1) := by decide +kernel
theorem dX5_over_38 : decode cX5_over 38 = .ok (.getfield 26, 3) := by decide +kernel
theorem dX5_over_41 : decode cX5_over 41 = .ok (.iload_n 1, 1) := by decide +kernel
theorem dX5_over_42 : decode cX5_over 42 = .ok (.invokevirtual 126, 3) := by decide +kernel
theorem dX5_over_45 : decode cX5_over 45 = .ok (.aload_n 0, 1) := by decide +kernel
theorem dX5_over_46 : decode cX5_over 46 = .ok (.aload_n 0, 1) := by decide +kernel
theorem dX5_over_47 : decode cX5_over 47 = .ok (.getfield 26, 3) := by decide +kernel
theorem dX5_over_50 : decode cX5_over 50 = .ok (.aload_n 0, 1) := by decide +kernel
theorem dX5_over_51 : decode cX5_over 51 = .ok (.getfield 29, 3) := by decide +kernel
theorem dX5_over_54 : decode cX5_over 54 = .ok (.invokevirtual 129, 3) := by decide +kernel
theorem dX5_over_57 : decode cX5_over 57 = .ok (.aload_n 0, 1) := by decide +kernel
theorem dX5_over_58 : decode cX5_over 58 = .ok (.getfield 26, 3) := by decide +kernel
theorem dX5_over_61 : decode cX5_over 61 = .ok (.aload_n 0, 1) := by decide +kernel
theorem dX5_over_62 : decode cX5_over 62 = .ok (.getfield 38, 3) := by decide +kernel
theorem dX5_over_65 : decode cX5_over 65 = .ok (.invokestatic 83, 3) := by decide +kernel
theorem dX5_over_68 : decode cX5_over 68 = .ok (.aload_n 0, 1) := by decide +kernel
theorem dX5_over_69 : decode cX5_over 69 = .ok (.aload_n 0, 1) := by decide +kernel
theorem dX5_over_70 : decode cX5_over 70 = .ok (.getfield 22, 3) := by decide +kernel
theorem dX5_over_73 : decode cX5_over 73 = .ok (.iload_n 1, 1) := by decide +kernel
theorem dX5_over_74 : decode cX5_over 74 = .ok (.invokevirtual 122, 3) := by decide +kernel
theorem dX5_over_77 : decode cX5_over 77 = .ok (.aload_n 0, 1) := by decide +kernel
theorem dX5_over_78 : decode cX5_over 78 = .ok (.aload_n 0, 1) := by decide +kernel
theorem dX5_over_79 : decode cX5_over 79 = .ok (.getfield 29, 3) := by decide +kernel
theorem dX5_over_82 : decode cX5_over 82 = .ok (.iload_n 2, 1) := by decide +kernel
theorem dX5_over_83 : decode cX5_over 83 = .ok (.invokevirtual 126, 3) := by decide +kernel
theorem dX5_over_86 : decode cX5_over 86 = .ok (.aload_n 0, 1) := by decide +kernel
theorem dX5_over_87 : decode cX5_over 87 = .ok (.aload_n 0, 1) := by decide +kernel
theorem dX5_over_88 : decode cX5_over 88 = .ok (.getfield 22, 3) := by decide +kernel
theorem dX5_over_91 : decode cX5_over 91 = .ok (.aload_n 0, 1) := by decide +kernel
theorem dX5_over_92 : decode cX5_over 92 = .ok (.getfield 29, 3) := by decide +kernel
theorem dX5_over_95 : decode cX5_over 95 = .ok (.invokevirtual 129, 3) := by decide +kernel
theorem dX5_over_98 : decode cX5_over 98 = .ok (.aload_n 0, 1) := by decide +kernel
theorem dX5_over_99 : decode cX5_over 99 = .ok (.getfield 22, 3) := by decide +kernel
theorem dX5_over_102 : decode cX5_over 102 = .ok (.aload_n 0, 1) := by decide +kernel
theorem dX5_over_103 : decode cX5_over 103 = .ok (.getfield 38, 3) := by decide +kernel
theorem dX5_over_106 : decode cX5_over 106 = .ok (.invokestatic 83, 3) := by decide +kernel
theorem dX5_over_109 : decode cX5_over 109 = .ok (.aload_n 0, 1) := by decide +kernel
theorem dX5_over_110 : decode cX5_over 110 = .ok (.invokevirtual 132, 3) := by decide +kernel
theorem dX5_over_113 : decode cX5_over 113 = .ok (.aload_n 0, 1) := by decide +kernel
theorem dX5_over_114 : decode cX5_over 114 = .ok (.iconst 3, 1) := by decide +kernel
theorem dX5_over_115 : decode cX5_over 115 = .ok (.invokevirtual 107, 3) := by decide +kernel
theorem dX5_over_118 : decode cX5_over 118 = .ok (.ireturn, 1) := by decide +kernel
set_option maxRecDepth 20000 in
theorem ggX5_moved_X5_are : GoodIn wsX5_moved wsX5_are := goodIn_r _ [7, 8, 9, 10, 11, 6, 12, 13, 14, 15, 16, 45, 46, 47, 48, 49, 50, 51, 52, 53, 54, 55, 56, 57, 58, 59, 60, 61, 62, 63, 64] (by decide +kernel) (by decide +kernel)
set_option maxRecDepth 20000 in
theorem gX5_moved_X5_are : GoodIn wsX5_moved (wsV RX5 114 RX5 yX5_are wsX5_are) := goodIn_app (goodIn_of _ (by decide +kernel)) ggX5_moved_X5_are
set_option maxRecDepth 20000 in
theorem ggX5_moved_X5_loadTop : GoodIn wsX5_moved wsX5_loadTop := goodIn_r _ [20, 21, 22, 23, 6, 24, 45, 46, 47, 48, 49, 50, 51, 52, 53, 54, 55, 56, 57, 58, 59, 60, 61, 62, 63, 64] (by decide +kernel) (by decide +kernel)
set_option maxRecDepth 20000 in
theorem gX5_moved_X5_loadTop : GoodIn wsX5_moved (wsV RX5 122 RX5 yX5_loadTop wsX5_loadTop) := goodIn_app (goodIn_of _ (by decide +kernel)) ggX5_moved_X5_loadTop
set_option maxRecDepth 20000 in
theorem ggX5_moved_X5_loadBottom : GoodIn wsX5_moved wsX5_loadBottom := goodIn_r _ [28, 29, 22, 23, 6, 24, 45, 46, 47, 48, 49, 50, 51, 52, 53, 54, 55, 56, 57, 58, 59, 60, 61, 62, 63, 64] (by decide +kernel) (by decide +kernel)
set_option maxRecDepth 20000 in
theorem gX5_moved_X5_loadBottom : GoodIn wsX5_moved (wsV RX5 126 RX5 yX5_loadBottom wsX5_loadBottom) := goodIn_app (goodIn_of _ (by decide +kernel)) ggX5_moved_X5_loadBottom
set_option maxRecDepth 20000 in
theorem ggX5_moved_X5_move : GoodIn wsX5_moved wsX5_move := goodIn_r _ [32, 33] (by decide +kernel) (by decide +kernel)
set_option maxRecDepth 20000 in
theorem gX5_moved_X5_move : GoodIn wsX5_moved (va_wsS RX5 135 yX5_move wsX5_move) := goodIn_app (goodIn_of _ (by decide +kernel)) ggX5_moved_X5_move
set_option maxRecDepth 20000 in
theorem ggX5_moved_X5_keep : GoodIn wsX5_moved wsX5_keep := goodIn_r _ [37, 13, 1, 2, 8, 21, 29, 38, 39, 6, 40, 41, 42, 43, 44, 45, 46, 47, 48, 49, 50, 51, 52, 53, 54, 55, 56, 57, 58, 59, 60, 61, 62, 63, 64] (by decide +kernel) (by decide +kernel)
set_option maxRecDepth 20000 in
theorem gX5_moved_X5_keep : GoodIn wsX5_moved (wsV RX5 107 RX5 yX5_keep wsX5_keep) := goodIn_app (goodIn_of _ (by decide +kernel)) ggX5_moved_X5_keep
theorem dX5_moved_0 : decode cX5_moved 0 = .ok (.aload_n 0, 1) := by decide +kernel
theorem dX5_moved_1 : decode cX5_moved 1 = .ok (.iload_n 1, 1) := by decide +kernel
theorem dX5_moved_2 : decode cX5_moved 2 = .ok (.iload_n 1, 1) := by decide +kernel
theorem dX5_moved_3 : decode cX5_moved 3 = .ok (.invokevirtual 114, 3) := by decide +kernel
theorem dX5_moved_6 : decode cX5_moved 6 = .ok (.ifCond .ne 5, 3) := by decide +kernel
theorem dX5_moved_9 : decode cX5_moved 9 = .ok (.iconst 0, 1) := by decide +kernel
theorem dX5_moved_10 : decode cX5_moved 10 = .ok (.ireturn, 1) := by decide +kernel
theorem dX5_moved_11 : decode cX5_moved 11 = .ok (.aload_n 0, 1) := by decide +kernel
theorem dX5_moved_12 : decode cX5_moved 12 = .ok (.aload_n 0, 1) := by decide +kernel
theorem dX5_moved_13 : decode cX5_moved 13 = .ok (.getfield 22, 3) := by decide +kernel
theorem dX5_moved_16 : decode cX5_moved 16 = .ok (.iload_n 1, 1) := by decide +kernel
theorem dX5_moved_17 : decode cX5_moved 17 = .ok (.invokevirtual 122, 3) := by decide +kernel
theorem dX5_moved_20 : decode cX5_moved 20 = .ok (.aload_n 0, 1) := by decide +kernel
theorem dX5_moved_21 : decode cX5_moved 21 = .ok (.aload_n 0, 1) := by decide +kernel
theorem dX5_moved_22 : decode cX5_moved 22 = .ok (.getfield 26, 3) := by decide +kernel
theorem dX5_moved_25 : decode cX5_moved 25 = .ok (.iload_n 1, 1) := by decide +kernel
theorem dX5_moved_26 : decode cX5_moved 26 = .ok (.invokevirtual 126, 3) := by decide +kernel
theorem dX5_moved_29 : decode cX5_moved 29 = .ok (.aload_n 0, 1) := by decide +kernel
theorem dX5_moved_30 : decode cX5_moved 30 = .ok (.getfield 22, 3) := by decide +kernel
theorem dX5_moved_33 : decode cX5_moved 33 = .ok (.invokestatic 135, 3) := by decide +kernel
theorem dX5_moved_36 : decode cX5_moved 36 = .ok (.aload_n 0, 1) := by decide +kernel
theorem dX5_moved_37 : decode cX5_moved 37 = .ok (.getfield 26, 3) := by decide +kernel
theorem dX5_moved_40 : decode cX5_moved 40 = .ok (.invokestatic 135, 3) := by decide +kernel
theorem dX5_moved_43 : decode cX5_moved 43 = .ok (.aload_n 0, 1) := by decide +kernel
theorem dX5_moved_44 : decode cX5_moved 44 = .ok (.iconst 2, 1) := by decide +kernel
theorem dX5_moved_45 : decode cX5_moved 45 = .ok (.invokevirtual 107, 3) := by decide +kernel
theorem dX5_moved_48 : decode cX5_moved 48 = .ok (.ireturn, 1) := by decide +kernel
set_option maxRecDepth 20000 in
theorem ggX5_makeStep_X5_copy : GoodIn wsX5_makeStep wsX5_copy := goodIn_r _ [13] (by decide +kernel) (by decide +kernel)
set_option maxRecDepth 20000 in
theorem gX5_makeStep_X5_copy : GoodIn wsX5_makeStep (va_wsS RX5 83 yX5_copy wsX5_copy) := goodIn_app (goodIn_of _ (by decide +kernel)) ggX5_makeStep_X5_copy
set_option maxRecDepth 20000 in
theorem ggX5_makeStep_X5_move : GoodIn wsX5_makeStep wsX5_move := goodIn_r _ [16, 9] (by decide +kernel) (by decide +kernel)
set_option maxRecDepth 20000 in
theorem gX5_makeStep_X5_move : GoodIn wsX5_makeStep (va_wsS RX5 135 yX5_move wsX5_move) := goodIn_app (goodIn_of _ (by decide +kernel)) ggX5_makeStep_X5_move
set_option maxRecDepth 20000 in
theorem ggX5_makeStep_X5_load : GoodIn wsX5_makeStep wsX5_load := goodIn_r _ [19] (by decide +kernel) (by decide +kernel)
set_option maxRecDepth 20000 in
theorem gX5_makeStep_X5_load : GoodIn wsX5_makeStep (va_wsS RX5 101 yX5_load wsX5_load) := goodIn_app (goodIn_of _ (by decide +kernel)) ggX5_makeStep_X5_load
set_option maxRecDepth 20000 in
theorem ggX5_makeStep_X5_multiply : GoodIn wsX5_makeStep wsX5_multiply := goodIn_r _ [23, 7, 9, 24, 25, 12, 26, 27, 28, 29, 46, 47, 48, 49, 50, 51, 52, 53, 54, 55, 56, 57, 58, 59, 60, 61, 62, 63, 64, 65] (by decide +kernel) (by decide +kernel)
set_option maxRecDepth 20000 in
theorem gX5_makeStep_X5_multiply : GoodIn wsX5_makeStep (wsV RX5 129 RX5 yX5_multiply wsX5_multiply) := goodIn_app (goodIn_of _ (by decide +kernel)) ggX5_makeStep_X5_multiply
set_option maxRecDepth 20000 in
theorem ggX5_makeStep_X5_lowest : GoodIn wsX5_makeStep wsX5_lowest := goodIn_r _ [33, 7, 2, 34, 4, 35, 9, 10, 11, 12, 13, 27, 28, 29, 36, 37, 38, 39, 40, 41, 42, 24, 25, 26, 43, 44, 45, 46, 47, 48, 49, 50, 51, 52, 53, 54, 55, 56, 57, 58, 59, 60, 61, 62, 63, 64, 65] (by decide +kernel) (by decide +kernel)
set_option maxRecDepth 20000 in
theorem gX5_makeStep_X5_lowest : GoodIn wsX5_makeStep (wsV RX5 132 RX5 yX5_lowest wsX5_lowest) := goodIn_app (goodIn_of _ (by decide +kernel)) ggX5_makeStep_X5_lowest
theorem dX5_makeStep_0 : decode cX5_makeStep 0 = .ok (.aload_n 0, 1) := by decide +kernel
theorem dX5_makeStep_1 : decode cX5_makeStep 1 = .ok (.getfield 32, 3) := by decide +kernel
theorem dX5_makeStep_4 : decode cX5_makeStep 4 = .ok (.aload_n 0, 1) := by decide +kernel
theorem dX5_makeStep_5 : decode cX5_makeStep 5 = .ok (.getfield 22, 3) := by decide +kernel
theorem dX5_makeStep_8 : decode cX5_makeStep 8 = .ok (.invokestatic 83, 3) := by decide +kernel
theorem dX5_makeStep_11 : decode cX5_makeStep 11 = .ok (.aload_n 0, 1) := by decide +kernel
theorem dX5_makeStep_12 : decode cX5_makeStep 12 = .ok (.getfield 35, 3) := by decide +kernel
theorem dX5_makeStep_15 : decode cX5_makeStep 15 = .ok (.aload_n 0, 1) := by decide +kernel
theorem dX5_makeStep_16 : decode cX5_makeStep 16 = .ok (.getfield 26, 3) := by decide +kernel
theorem dX5_makeStep_19 : decode cX5_makeStep 19 = .ok (.invokestatic 83, 3) := by decide +kernel
theorem dX5_makeStep_22 : decode cX5_makeStep 22 = .ok (.aload_n 0, 1) := by decide +kernel
theorem dX5_makeStep_23 : decode cX5_makeStep 23 = .ok (.getfield 22, 3) := by decide +kernel
theorem dX5_makeStep_26 : decode cX5_makeStep 26 = .ok (.invokestatic 135, 3) := by decide +kernel
theorem dX5_makeStep_29 : decode cX5_makeStep 29 = .ok (.aload_n 0, 1) := by decide +kernel
theorem dX5_makeStep_30 : decode cX5_makeStep 30 = .ok (.getfield 26, 3) := by decide +kernel
theorem dX5_makeStep_33 : decode cX5_makeStep 33 = .ok (.invokestatic 135, 3) := by decide +kernel
theorem dX5_makeStep_36 : decode cX5_makeStep 36 = .ok (.aload_n 0, 1) := by decide +kernel
theorem dX5_makeStep_37 : decode cX5_makeStep 37 = .ok (.getfield 29, 3) := by decide +kernel
theorem dX5_makeStep_40 : decode cX5_makeStep 40 = .ok (.aload_n 0, 1) := by decide +kernel
theorem dX5_makeStep_41 : decode cX5_makeStep 41 = .ok (.getfield 16, 3) := by decide +kernel
theorem dX5_makeStep_44 : decode cX5_makeStep 44 = .ok (.iconst 0, 1) := by decide +kernel
theorem dX5_makeStep_45 : decode cX5_makeStep 45 = .ok (.iconst 4, 1) := by decide +kernel
theorem dX5_makeStep_46 : decode cX5_makeStep 46 = .ok (.invokestatic 101, 3) := by decide +kernel
theorem dX5_makeStep_49 : decode cX5_makeStep 49 = .ok (.aload_n 0, 1) := by decide +kernel
theorem dX5_makeStep_50 : decode cX5_makeStep 50 = .ok (.aload_n 0, 1) := by decide +kernel
theorem dX5_makeStep_51 : decode cX5_makeStep 51 = .ok (.getfield 22, 3) := by decide +kernel
theorem dX5_makeStep_54 : decode cX5_makeStep 54 = .ok (.aload_n 0, 1) := by decide +kernel
theorem dX5_makeStep_55 : decode cX5_makeStep 55 = .ok (.getfield 29, 3) := by decide +kernel
theorem dX5_makeStep_58 : decode cX5_makeStep 58 = .ok (.invokevirtual 129, 3) := by decide +kernel
theorem dX5_makeStep_61 : decode cX5_makeStep 61 = .ok (.aload_n 0, 1) := by decide +kernel
theorem dX5_makeStep_62 : decode cX5_makeStep 62 = .ok (.getfield 22, 3) := by decide +kernel
theorem dX5_makeStep_65 : decode cX5_makeStep 65 = .ok (.aload_n 0, 1) := by decide +kernel
theorem dX5_makeStep_66 : decode cX5_makeStep 66 = .ok (.getfield 38, 3) := by decide +kernel
theorem dX5_makeStep_69 : decode cX5_makeStep 69 = .ok (.invokestatic 83, 3) := by decide +kernel
theorem dX5_makeStep_72 : decode cX5_makeStep 72 = .ok (.aload_n 0, 1) := by decide +kernel
theorem dX5_makeStep_73 : decode cX5_makeStep 73 = .ok (.getfield 29, 3) := by decide +kernel
theorem dX5_makeStep_76 : decode cX5_makeStep 76 = .ok (.aload_n 0, 1) := by decide +kernel
theorem dX5_makeStep_77 : decode cX5_makeStep 77 = .ok (.getfield 19, 3) := by decide +kernel
theorem dX5_makeStep_80 : decode cX5_makeStep 80 = .ok (.iconst 0, 1) := by decide +kernel
theorem dX5_makeStep_81 : decode cX5_makeStep 81 = .ok (.iconst 4, 1) := by decide +kernel
theorem dX5_makeStep_82 : decode cX5_makeStep 82 = .ok (.invokestatic 101, 3) := by decide +kernel
theorem dX5_makeStep_85 : decode cX5_makeStep 85 = .ok (.aload_n 0, 1) := by decide +kernel
theorem dX5_makeStep_86 : decode cX5_makeStep 86 = .ok (.aload_n 0, 1) := by decide +kernel
theorem dX5_makeStep_87 : decode cX5_makeStep 87 = .ok (.getfield 26, 3) := by decide +kernel
theorem dX5_makeStep_90 : decode cX5_makeStep 90 = .ok (.aload_n 0, 1) := by decide +kernel
theorem dX5_makeStep_91 : decode cX5_makeStep 91 = .ok (.getfield 29, 3) := by decide +kernel
theorem dX5_makeStep_94 : decode cX5_makeStep 94 = .ok (.invokevirtual 129, 3) := by decide +kernel
theorem dX5_makeStep_97 : decode cX5_makeStep 97 = .ok (.aload_n 0, 1) := by decide +kernel
theorem dX5_makeStep_98 : decode cX5_makeStep 98 = .ok (.getfield 26, 3) := by decide +kernel
theorem dX5_makeStep_101 : decode cX5_makeStep 101 = .ok (.aload_n 0, 1) := by decide +kernel
theorem dX5_makeStep_102 : decode cX5_makeStep 102 = .ok (.getfield 38, 3) := by decide +kernel
theorem dX5_makeStep_105 : decode cX5_makeStep 105 = .ok (.invokestatic 83, 3) := by decide +kernel
theorem dX5_makeStep_108 : decode cX5_makeStep 108 = .ok (.aload_n 0, 1) := by decide +kernel
theorem dX5_makeStep_109 : decode cX5_makeStep 109 = .ok (.aload_n 0, 1) := by decide +kernel
theorem dX5_makeStep_110 : decode cX5_makeStep 110 = .ok (.getfield 22, 3) := by decide +kernel
theorem dX5_makeStep_113 : decode cX5_makeStep 113 = .ok (.aload_n 0, 1) := by decide +kernel
theorem dX5_makeStep_114 : decode cX5_makeStep 114 = .ok (.getfield 35, 3) := by decide +kernel
theorem dX5_makeStep_117 : decode cX5_makeStep 117 = .ok (.invokevirtual 129, 3) := by decide +kernel
theorem dX5_makeStep_120 : decode cX5_makeStep 120 = .ok (.aload_n 0, 1) := by decide +kernel
theorem dX5_makeStep_121 : decode cX5_makeStep 121 = .ok (.getfield 22, 3) := by decide +kernel
theorem dX5_makeStep_124 : decode cX5_makeStep 124 = .ok (.aload_n 0, 1) := by decide +kernel
theorem dX5_makeStep_125 : decode cX5_makeStep 125 = .ok (.getfield 38, 3) := by decide +kernel
theorem dX5_makeStep_128 : decode cX5_makeStep 128 = .ok (.invokestatic 83, 3) := by decide +kernel
theorem dX5_makeStep_131 : decode cX5_makeStep 131 = .ok (.aload_n 0, 1) := by decide +kernel
theorem dX5_makeStep_132 : decode cX5_makeStep 132 = .ok (.aload_n 0, 1) := by decide +kernel
theorem dX5_makeStep_133 : decode cX5_makeStep 133 = .ok (.getfield 32, 3) := by decide +kernel
theorem dX5_makeStep_136 : decode cX5_makeStep 136 = .ok (.aload_n 0, 1) := by decide +kernel
theorem dX5_makeStep_137 : decode cX5_makeStep 137 = .ok (.getfield 26, 3) := by decide +kernel
theorem dX5_makeStep_140 : decode cX5_makeStep 140 = .ok (.invokevirtual 129, 3) := by decide +kernel
theorem dX5_makeStep_143 : decode cX5_makeStep 143 = .ok (.iconst 0, 1) := by decide +kernel
theorem dX5_makeStep_144 : decode cX5_makeStep 144 = .ok (.istore_n 1, 1) := by decide +kernel
theorem dX5_makeStep_145 : decode cX5_makeStep 145 = .ok (.iload_n 1, 1) := by decide +kernel
theorem dX5_makeStep_146 : decode cX5_makeStep 146 = .ok (.bipush 64, 2) := by decide +kernel
theorem dX5_makeStep_148 : decode cX5_makeStep 148 = .ok (.if_icmp .ge 36, 3) := by decide +kernel
theorem dX5_makeStep_151 : decode cX5_makeStep 151 = .ok (.aload_n 0, 1) := by decide +kernel
theorem dX5_makeStep_152 : decode cX5_makeStep 152 = .ok (.getfield 22, 3) := by decide +kernel
theorem dX5_makeStep_155 : decode cX5_makeStep 155 = .ok (.iload_n 1, 1) := by decide +kernel
theorem dX5_makeStep_156 : decode cX5_makeStep 156 = .ok (.aload_n 0, 1) := by decide +kernel
theorem dX5_makeStep_157 : decode cX5_makeStep 157 = .ok (.getfield 22, 3) := by decide +kernel
theorem dX5_makeStep_160 : decode cX5_makeStep 160 = .ok (.iload_n 1, 1) := by decide +kernel
theorem dX5_makeStep_161 : decode cX5_makeStep 161 = .ok (.laload, 1) := by decide +kernel
theorem dX5_makeStep_162 : decode cX5_makeStep 162 = .ok (.ldc2_w 66, 3) := by decide +kernel
theorem dX5_makeStep_165 : decode cX5_makeStep 165 = .ok (.ladd, 1) := by decide +kernel
theorem dX5_makeStep_166 : decode cX5_makeStep 166 = .ok (.aload_n 0, 1) := by decide +kernel
theorem dX5_makeStep_167 : decode cX5_makeStep 167 = .ok (.getfield 38, 3) := by decide +kernel
theorem dX5_makeStep_170 : decode cX5_makeStep 170 = .ok (.iload_n 1, 1) := by decide +kernel
theorem dX5_makeStep_171 : decode cX5_makeStep 171 = .ok (.laload, 1) := by decide +kernel
theorem dX5_makeStep_172 : decode cX5_makeStep 172 = .ok (.lsub, 1) := by decide +kernel
theorem dX5_makeStep_173 : decode cX5_makeStep 173 = .ok (.ldc2_w 66, 3) := by decide +kernel
theorem dX5_makeStep_176 : decode cX5_makeStep 176 = .ok (.lrem, 1) := by decide +kernel
theorem dX5_makeStep_177 : decode cX5_makeStep 177 = .ok (.lastore, 1) := by decide +kernel
theorem dX5_makeStep_178 : decode cX5_makeStep 178 = .ok (.iinc 1 1, 3) := by decide +kernel
theorem dX5_makeStep_181 : decode cX5_makeStep 181 = .ok (.goto (-36), 3) := by decide +kernel
theorem dX5_makeStep_184 : decode cX5_makeStep 184 = .ok (.aload_n 0, 1) := by decide +kernel
theorem dX5_makeStep_185 : decode cX5_makeStep 185 = .ok (.aload_n 0, 1) := by decide +kernel
theorem dX5_makeStep_186 : decode cX5_makeStep 186 = .ok (.getfield 26, 3) := by decide +kernel
theorem dX5_makeStep_189 : decode cX5_makeStep 189 = .ok (.aload_n 0, 1) := by decide +kernel
theorem dX5_makeStep_190 : decode cX5_makeStep 190 = .ok (.getfield 35, 3) := by decide +kernel
theorem dX5_makeStep_193 : decode cX5_makeStep 193 = .ok (.invokevirtual 129, 3) := by decide +kernel
theorem dX5_makeStep_196 : decode cX5_makeStep 196 = .ok (.aload_n 0, 1) := by decide +kernel
theorem dX5_makeStep_197 : decode cX5_makeStep 197 = .ok (.getfield 26, 3) := by decide +kernel
theorem dX5_makeStep_200 : decode cX5_makeStep 200 = .ok (.aload_n 0, 1) := by decide +kernel
theorem dX5_makeStep_201 : decode cX5_makeStep 201 = .ok (.getfield 38, 3) := by decide +kernel
theorem dX5_makeStep_204 : decode cX5_makeStep 204 = .ok (.invokestatic 83, 3) := by decide +kernel
theorem dX5_makeStep_207 : decode cX5_makeStep 207 = .ok (.aload_n 0, 1) := by decide +kernel
theorem dX5_makeStep_208 : decode cX5_makeStep 208 = .ok (.invokevirtual 132, 3) := by decide +kernel
theorem dX5_makeStep_211 : decode cX5_makeStep 211 = .ok (.return_, 1) := by decide +kernel
set_option maxRecDepth 20000 in
theorem ggX5_step_X5_are : GoodIn wsX5_step wsX5_are := goodIn_r _ [7, 8, 9, 10, 11, 6, 12, 13, 14, 15, 16, 85, 86, 87, 88, 89, 90, 91, 92, 93, 94, 95, 96, 97, 98, 99, 100, 101, 102, 103, 104] (by decide +kernel) (by decide +kernel)
set_option maxRecDepth 20000 in
theorem gX5_step_X5_are : GoodIn wsX5_step (wsV RX5 114 RX5 yX5_are wsX5_are) := goodIn_app (goodIn_of _ (by decide +kernel)) ggX5_step_X5_are
set_option maxRecDepth 20000 in
theorem ggX5_step_X5_isNoRatio : GoodIn wsX5_step wsX5_isNoRatio := goodIn_r _ [20, 21, 85, 86, 87, 88, 89, 90, 91, 92, 93, 94, 95, 96, 97, 98, 99, 100, 101, 102, 103, 104] (by decide +kernel) (by decide +kernel)
set_option maxRecDepth 20000 in
theorem gX5_step_X5_isNoRatio : GoodIn wsX5_step (wsV RX5 138 RX5 yX5_isNoRatio wsX5_isNoRatio) := goodIn_app (goodIn_of _ (by decide +kernel)) ggX5_step_X5_isNoRatio
set_option maxRecDepth 20000 in
theorem ggX5_step_X5_raise : GoodIn wsX5_step wsX5_raise := goodIn_r _ [25, 8, 85, 86, 87, 88, 89, 90, 91, 92, 93, 94, 95, 96, 97, 98, 99, 100, 101, 102, 103, 104] (by decide +kernel) (by decide +kernel)
set_option maxRecDepth 20000 in
theorem gX5_step_X5_raise : GoodIn wsX5_step (wsV RX5 97 RX5 yX5_raise wsX5_raise) := goodIn_app (goodIn_of _ (by decide +kernel)) ggX5_step_X5_raise
set_option maxRecDepth 20000 in
theorem ggX5_step_X5_loadTop : GoodIn wsX5_step wsX5_loadTop := goodIn_r _ [29, 30, 31, 32, 6, 33, 85, 86, 87, 88, 89, 90, 91, 92, 93, 94, 95, 96, 97, 98, 99, 100, 101, 102, 103, 104] (by decide +kernel) (by decide +kernel)
set_option maxRecDepth 20000 in
theorem gX5_step_X5_loadTop : GoodIn wsX5_step (wsV RX5 122 RX5 yX5_loadTop wsX5_loadTop) := goodIn_app (goodIn_of _ (by decide +kernel)) ggX5_step_X5_loadTop
set_option maxRecDepth 20000 in
theorem ggX5_step_X5_loadBottom : GoodIn wsX5_step wsX5_loadBottom := goodIn_r _ [37, 38, 31, 32, 6, 33, 85, 86, 87, 88, 89, 90, 91, 92, 93, 94, 95, 96, 97, 98, 99, 100, 101, 102, 103, 104] (by decide +kernel) (by decide +kernel)
set_option maxRecDepth 20000 in
theorem gX5_step_X5_loadBottom : GoodIn wsX5_step (wsV RX5 126 RX5 yX5_loadBottom wsX5_loadBottom) := goodIn_app (goodIn_of _ (by decide +kernel)) ggX5_step_X5_loadBottom
set_option maxRecDepth 20000 in
theorem ggX5_step_X5_makeStep : GoodIn wsX5_step wsX5_makeStep := goodIn_r _ [42, 43, 1, 44, 2, 45, 46, 47, 21, 48, 49, 50, 6, 51, 52, 53, 54, 31, 32, 33, 55, 56, 57, 58, 59, 60, 61, 62, 63, 64, 65, 66, 67, 68, 69, 70, 71, 72, 73, 74, 75, 76, 77, 78, 79, 80, 85, 86, 87, 88, 89, 90, 91, 92, 93, 94, 95, 96, 97, 98, 99, 100, 101, 102, 103, 104] (by decide +kernel) (by decide +kernel)
set_option maxRecDepth 20000 in
theorem gX5_step_X5_makeStep : GoodIn wsX5_step (wsV RX5 142 RX5 yX5_makeStep wsX5_makeStep) := goodIn_app (goodIn_of _ (by decide +kernel)) ggX5_step_X5_makeStep
set_option maxRecDepth 20000 in
theorem ggX5_step_X5_keep : GoodIn wsX5_step wsX5_keep := goodIn_r _ [84, 13, 1, 2, 8, 30, 38, 62, 63, 6, 64, 22, 23, 24, 25, 85, 86, 87, 88, 89, 90, 91, 92, 93, 94, 95, 96, 97, 98, 99, 100, 101, 102, 103, 104] (by decide +kernel) (by decide +kernel)
set_option maxRecDepth 20000 in
theorem gX5_step_X5_keep : GoodIn wsX5_step (wsV RX5 107 RX5 yX5_keep wsX5_keep) := goodIn_app (goodIn_of _ (by decide +kernel)) ggX5_step_X5_keep
theorem dX5_step_0 : decode cX5_step 0 = .ok (.aload_n 0, 1) := by decide +kernel
theorem dX5_step_1 : decode cX5_step 1 = .ok (.iload_n 1, 1) := by decide +kernel
theorem dX5_step_2 : decode cX5_step 2 = .ok (.iload_n 1, 1) := by decide +kernel
theorem dX5_step_3 : decode cX5_step 3 = .ok (.invokevirtual 114, 3) := by decide +kernel
theorem dX5_step_6 : decode cX5_step 6 = .ok (.ifCond .ne 5, 3) := by decide +kernel
theorem dX5_step_9 : decode cX5_step 9 = .ok (.iconst 0, 1) := by decide +kernel
theorem dX5_step_10 : decode cX5_step 10 = .ok (.ireturn, 1) := by decide +kernel
theorem dX5_step_11 : decode cX5_step 11 = .ok (.aload_n 0, 1) := by decide +kernel
theorem dX5_step_12 : decode cX5_step 12 = .ok (.invokevirtual 138, 3) := by decide +kernel
theorem dX5_step_15 : decode cX5_step 15 = .ok (.ifCond .eq 9, 3) := by decide +kernel
theorem dX5_step_18 : decode cX5_step 18 = .ok (.aload_n 0, 1) := by decide +kernel
theorem dX5_step_19 : decode cX5_step 19 = .ok (.iconst 2, 1) := by decide +kernel
theorem dX5_step_20 : decode cX5_step 20 = .ok (.invokevirtual 97, 3) := by decide +kernel
theorem dX5_step_23 : decode cX5_step 23 = .ok (.ireturn, 1) := by decide +kernel
theorem dX5_step_24 : decode cX5_step 24 = .ok (.aload_n 0, 1) := by decide +kernel
theorem dX5_step_25 : decode cX5_step 25 = .ok (.aload_n 0, 1) := by decide +kernel
theorem dX5_step_26 : decode cX5_step 26 = .ok (.getfield 22, 3) := by decide +kernel
theorem dX5_step_29 : decode cX5_step 29 = .ok (.iload_n 1, 1) := by decide +kernel
theorem dX5_step_30 : decode cX5_step 30 = .ok (.invokevirtual 122, 3) := by decide +kernel
theorem dX5_step_33 : decode cX5_step 33 = .ok (.aload_n 0, 1) := by decide +kernel
theorem dX5_step_34 : decode cX5_step 34 = .ok (.aload_n 0, 1) := by decide +kernel
theorem dX5_step_35 : decode cX5_step 35 = .ok (.getfield 26, 3) := by decide +kernel
theorem dX5_step_38 : decode cX5_step 38 = .ok (.iload_n 1, 1) := by decide +kernel
theorem dX5_step_39 : decode cX5_step 39 = .ok (.invokevirtual 126, 3) := by decide +kernel
theorem dX5_step_42 : decode cX5_step 42 = .ok (.aload_n 0, 1) := by decide +kernel
theorem dX5_step_43 : decode cX5_step 43 = .ok (.invokevirtual 142, 3) := by decide +kernel
theorem dX5_step_46 : decode cX5_step 46 = .ok (.aload_n 0, 1) := by decide +kernel
theorem dX5_step_47 : decode cX5_step 47 = .ok (.iconst 3, 1) := by decide +kernel
theorem dX5_step_48 : decode cX5_step 48 = .ok (.invokevirtual 107, 3) := by decide +kernel
theorem dX5_step_51 : decode cX5_step 51 = .ok (.ireturn, 1) := by decide +kernel
set_option maxRecDepth 20000 in
theorem ggX5_proves_X5_are : GoodIn wsX5_proves wsX5_are := goodIn_r _ [10, 1, 11, 12, 13, 9, 14, 15, 16, 17, 18, 77, 78, 79, 80, 81, 82, 83, 84, 85, 86, 87, 88, 89, 90, 91, 92, 93, 94, 95, 96] (by decide +kernel) (by decide +kernel)
set_option maxRecDepth 20000 in
theorem gX5_proves_X5_are : GoodIn wsX5_proves (wsV RX5 114 RX5 yX5_are wsX5_are) := goodIn_app (goodIn_of _ (by decide +kernel)) ggX5_proves_X5_are
set_option maxRecDepth 20000 in
theorem ggX5_proves_X5_isNoRatio : GoodIn wsX5_proves wsX5_isNoRatio := goodIn_r _ [22, 23, 77, 78, 79, 80, 81, 82, 83, 84, 85, 86, 87, 88, 89, 90, 91, 92, 93, 94, 95, 96] (by decide +kernel) (by decide +kernel)
set_option maxRecDepth 20000 in
theorem gX5_proves_X5_isNoRatio : GoodIn wsX5_proves (wsV RX5 138 RX5 yX5_isNoRatio wsX5_isNoRatio) := goodIn_app (goodIn_of _ (by decide +kernel)) ggX5_proves_X5_isNoRatio
set_option maxRecDepth 20000 in
theorem ggX5_proves_X5_loadTop : GoodIn wsX5_proves wsX5_loadTop := goodIn_r _ [27, 4, 28, 29, 9, 30, 77, 78, 79, 80, 81, 82, 83, 84, 85, 86, 87, 88, 89, 90, 91, 92, 93, 94, 95, 96] (by decide +kernel) (by decide +kernel)
set_option maxRecDepth 20000 in
theorem gX5_proves_X5_loadTop : GoodIn wsX5_proves (wsV RX5 122 RX5 yX5_loadTop wsX5_loadTop) := goodIn_app (goodIn_of _ (by decide +kernel)) ggX5_proves_X5_loadTop
set_option maxRecDepth 20000 in
theorem ggX5_proves_X5_loadBottom : GoodIn wsX5_proves wsX5_loadBottom := goodIn_r _ [34, 5, 28, 29, 9, 30, 77, 78, 79, 80, 81, 82, 83, 84, 85, 86, 87, 88, 89, 90, 91, 92, 93, 94, 95, 96] (by decide +kernel) (by decide +kernel)
set_option maxRecDepth 20000 in
theorem gX5_proves_X5_loadBottom : GoodIn wsX5_proves (wsV RX5 126 RX5 yX5_loadBottom wsX5_loadBottom) := goodIn_app (goodIn_of _ (by decide +kernel)) ggX5_proves_X5_loadBottom
set_option maxRecDepth 20000 in
theorem ggX5_proves_X5_makeStep : GoodIn wsX5_proves wsX5_makeStep := goodIn_r _ [38, 39, 2, 40, 3, 41, 42, 43, 23, 44, 45, 46, 9, 47, 48, 49, 50, 28, 29, 30, 51, 52, 53, 54, 55, 56, 57, 58, 59, 60, 61, 62, 63, 64, 65, 66, 67, 68, 69, 70, 71, 72, 73, 74, 75, 76, 77, 78, 79, 80, 81, 82, 83, 84, 85, 86, 87, 88, 89, 90, 91, 92, 93, 94, 95, 96] (by decide +kernel) (by decide +kernel)
set_option maxRecDepth 20000 in
theorem gX5_proves_X5_makeStep : GoodIn wsX5_proves (wsV RX5 142 RX5 yX5_makeStep wsX5_makeStep) := goodIn_app (goodIn_of _ (by decide +kernel)) ggX5_proves_X5_makeStep
theorem dX5_proves_0 : decode cX5_proves 0 = .ok (.aload_n 0, 1) := by decide +kernel
theorem dX5_proves_1 : decode cX5_proves 1 = .ok (.iload_n 1, 1) := by decide +kernel
theorem dX5_proves_2 : decode cX5_proves 2 = .ok (.iload_n 2, 1) := by decide +kernel
theorem dX5_proves_3 : decode cX5_proves 3 = .ok (.invokevirtual 114, 3) := by decide +kernel
theorem dX5_proves_6 : decode cX5_proves 6 = .ok (.ifCond .ne 5, 3) := by decide +kernel
theorem dX5_proves_9 : decode cX5_proves 9 = .ok (.iconst 0, 1) := by decide +kernel
theorem dX5_proves_10 : decode cX5_proves 10 = .ok (.ireturn, 1) := by decide +kernel
theorem dX5_proves_11 : decode cX5_proves 11 = .ok (.aload_n 0, 1) := by decide +kernel
theorem dX5_proves_12 : decode cX5_proves 12 = .ok (.aload_n 0, 1) := by decide +kernel
theorem dX5_proves_13 : decode cX5_proves 13 = .ok (.invokevirtual 138, 3) := by decide +kernel
theorem dX5_proves_16 : decode cX5_proves 16 = .ok (.ifCond .eq 7, 3) := by decide +kernel
theorem dX5_proves_19 : decode cX5_proves 19 = .ok (.iconst 2, 1) := by decide +kernel
theorem dX5_proves_20 : decode cX5_proves 20 = .ok (.goto 4, 3) := by decide +kernel
theorem dX5_proves_23 : decode cX5_proves 23 = .ok (.iconst 0, 1) := by decide +kernel
theorem dX5_proves_24 : decode cX5_proves 24 = .ok (.putfield 62, 3) := by decide +kernel
theorem dX5_proves_27 : decode cX5_proves 27 = .ok (.aload_n 0, 1) := by decide +kernel
theorem dX5_proves_28 : decode cX5_proves 28 = .ok (.getfield 62, 3) := by decide +kernel
theorem dX5_proves_31 : decode cX5_proves 31 = .ok (.ifCond .le 5, 3) := by decide +kernel
theorem dX5_proves_34 : decode cX5_proves 34 = .ok (.iconst 0, 1) := by decide +kernel
theorem dX5_proves_35 : decode cX5_proves 35 = .ok (.ireturn, 1) := by decide +kernel
theorem dX5_proves_36 : decode cX5_proves 36 = .ok (.aload_n 0, 1) := by decide +kernel
theorem dX5_proves_37 : decode cX5_proves 37 = .ok (.aload_n 0, 1) := by decide +kernel
theorem dX5_proves_38 : decode cX5_proves 38 = .ok (.getfield 22, 3) := by decide +kernel
theorem dX5_proves_41 : decode cX5_proves 41 = .ok (.iload_n 2, 1) := by decide +kernel
theorem dX5_proves_42 : decode cX5_proves 42 = .ok (.invokevirtual 122, 3) := by decide +kernel
theorem dX5_proves_45 : decode cX5_proves 45 = .ok (.aload_n 0, 1) := by decide +kernel
theorem dX5_proves_46 : decode cX5_proves 46 = .ok (.aload_n 0, 1) := by decide +kernel
theorem dX5_proves_47 : decode cX5_proves 47 = .ok (.getfield 26, 3) := by decide +kernel
theorem dX5_proves_50 : decode cX5_proves 50 = .ok (.iload_n 2, 1) := by decide +kernel
theorem dX5_proves_51 : decode cX5_proves 51 = .ok (.invokevirtual 126, 3) := by decide +kernel
theorem dX5_proves_54 : decode cX5_proves 54 = .ok (.aload_n 0, 1) := by decide +kernel
theorem dX5_proves_55 : decode cX5_proves 55 = .ok (.invokevirtual 142, 3) := by decide +kernel
theorem dX5_proves_58 : decode cX5_proves 58 = .ok (.iconst 0, 1) := by decide +kernel
theorem dX5_proves_59 : decode cX5_proves 59 = .ok (.istore_n 3, 1) := by decide +kernel
theorem dX5_proves_60 : decode cX5_proves 60 = .ok (.iload_n 3, 1) := by decide +kernel
theorem dX5_proves_61 : decode cX5_proves 61 = .ok (.bipush 64, 2) := by decide +kernel
theorem dX5_proves_63 : decode cX5_proves 63 = .ok (.if_icmp .ge 75, 3) := by decide +kernel
theorem dX5_proves_66 : decode cX5_proves 66 = .ok (.aload_n 0, 1) := by decide +kernel
theorem dX5_proves_67 : decode cX5_proves 67 = .ok (.getfield 22, 3) := by decide +kernel
theorem dX5_proves_70 : decode cX5_proves 70 = .ok (.iload_n 3, 1) := by decide +kernel
theorem dX5_proves_71 : decode cX5_proves 71 = .ok (.laload, 1) := by decide +kernel
theorem dX5_proves_72 : decode cX5_proves 72 = .ok (.iload_n 3, 1) := by decide +kernel
theorem dX5_proves_73 : decode cX5_proves 73 = .ok (.bipush 21, 2) := by decide +kernel
theorem dX5_proves_75 : decode cX5_proves 75 = .ok (.if_icmp .ge 17, 3) := by decide +kernel
theorem dX5_proves_78 : decode cX5_proves 78 = .ok (.aload_n 0, 1) := by decide +kernel
theorem dX5_proves_79 : decode cX5_proves 79 = .ok (.getfield 7, 3) := by decide +kernel
theorem dX5_proves_82 : decode cX5_proves 82 = .ok (.bipush 21, 2) := by decide +kernel
theorem dX5_proves_84 : decode cX5_proves 84 = .ok (.iload_n 1, 1) := by decide +kernel
theorem dX5_proves_85 : decode cX5_proves 85 = .ok (.imul, 1) := by decide +kernel
theorem dX5_proves_86 : decode cX5_proves 86 = .ok (.iload_n 3, 1) := by decide +kernel
theorem dX5_proves_87 : decode cX5_proves 87 = .ok (.iadd, 1) := by decide +kernel
theorem dX5_proves_88 : decode cX5_proves 88 = .ok (.iaload, 1) := by decide +kernel
theorem dX5_proves_89 : decode cX5_proves 89 = .ok (.goto 4, 3) := by decide +kernel
theorem dX5_proves_92 : decode cX5_proves 92 = .ok (.iconst 0, 1) := by decide +kernel
theorem dX5_proves_93 : decode cX5_proves 93 = .ok (.i2l, 1) := by decide +kernel
theorem dX5_proves_94 : decode cX5_proves 94 = .ok (.lcmp, 1) := by decide +kernel
theorem dX5_proves_95 : decode cX5_proves 95 = .ok (.ifCond .ne 35, 3) := by decide +kernel
theorem dX5_proves_98 : decode cX5_proves 98 = .ok (.aload_n 0, 1) := by decide +kernel
theorem dX5_proves_99 : decode cX5_proves 99 = .ok (.getfield 26, 3) := by decide +kernel
theorem dX5_proves_102 : decode cX5_proves 102 = .ok (.iload_n 3, 1) := by decide +kernel
theorem dX5_proves_103 : decode cX5_proves 103 = .ok (.laload, 1) := by decide +kernel
theorem dX5_proves_104 : decode cX5_proves 104 = .ok (.iload_n 3, 1) := by decide +kernel
theorem dX5_proves_105 : decode cX5_proves 105 = .ok (.bipush 21, 2) := by decide +kernel
theorem dX5_proves_107 : decode cX5_proves 107 = .ok (.if_icmp .ge 17, 3) := by decide +kernel
theorem dX5_proves_110 : decode cX5_proves 110 = .ok (.aload_n 0, 1) := by decide +kernel
theorem dX5_proves_111 : decode cX5_proves 111 = .ok (.getfield 13, 3) := by decide +kernel
theorem dX5_proves_114 : decode cX5_proves 114 = .ok (.bipush 21, 2) := by decide +kernel
theorem dX5_proves_116 : decode cX5_proves 116 = .ok (.iload_n 1, 1) := by decide +kernel
theorem dX5_proves_117 : decode cX5_proves 117 = .ok (.imul, 1) := by decide +kernel
theorem dX5_proves_118 : decode cX5_proves 118 = .ok (.iload_n 3, 1) := by decide +kernel
theorem dX5_proves_119 : decode cX5_proves 119 = .ok (.iadd, 1) := by decide +kernel
theorem dX5_proves_120 : decode cX5_proves 120 = .ok (.iaload, 1) := by decide +kernel
theorem dX5_proves_121 : decode cX5_proves 121 = .ok (.goto 4, 3) := by decide +kernel
theorem dX5_proves_124 : decode cX5_proves 124 = .ok (.iconst 0, 1) := by decide +kernel
theorem dX5_proves_125 : decode cX5_proves 125 = .ok (.i2l, 1) := by decide +kernel
theorem dX5_proves_126 : decode cX5_proves 126 = .ok (.lcmp, 1) := by decide +kernel
theorem dX5_proves_127 : decode cX5_proves 127 = .ok (.ifCond .eq 5, 3) := by decide +kernel
theorem dX5_proves_130 : decode cX5_proves 130 = .ok (.iconst 0, 1) := by decide +kernel
theorem dX5_proves_131 : decode cX5_proves 131 = .ok (.ireturn, 1) := by decide +kernel
theorem dX5_proves_132 : decode cX5_proves 132 = .ok (.iinc 3 1, 3) := by decide +kernel
theorem dX5_proves_135 : decode cX5_proves 135 = .ok (.goto (-75), 3) := by decide +kernel
theorem dX5_proves_138 : decode cX5_proves 138 = .ok (.iconst 1, 1) := by decide +kernel
theorem dX5_proves_139 : decode cX5_proves 139 = .ok (.ireturn, 1) := by decide +kernel
set_option maxRecDepth 20000 in
theorem ggX5_fill_X5_loadTop : GoodIn wsX5_fill wsX5_loadTop := goodIn_r _ [18, 19, 20, 21, 17, 22, 44, 45, 46, 47, 48, 49, 50, 51, 52, 53, 54, 55, 56, 57, 58, 59, 60, 61, 62, 63] (by decide +kernel) (by decide +kernel)
set_option maxRecDepth 20000 in
theorem gX5_fill_X5_loadTop : GoodIn wsX5_fill (wsV RX5 122 RX5 yX5_loadTop wsX5_loadTop) := goodIn_app (goodIn_of _ (by decide +kernel)) ggX5_fill_X5_loadTop
set_option maxRecDepth 20000 in
theorem ggX5_fill_X5_copy : GoodIn wsX5_fill wsX5_copy := goodIn_r _ [25] (by decide +kernel) (by decide +kernel)
set_option maxRecDepth 20000 in
theorem gX5_fill_X5_copy : GoodIn wsX5_fill (va_wsS RX5 83 yX5_copy wsX5_copy) := goodIn_app (goodIn_of _ (by decide +kernel)) ggX5_fill_X5_copy
set_option maxRecDepth 20000 in
theorem ggX5_fill_X5_move : GoodIn wsX5_fill wsX5_move := goodIn_r _ [28, 13] (by decide +kernel) (by decide +kernel)
set_option maxRecDepth 20000 in
theorem gX5_fill_X5_move : GoodIn wsX5_fill (va_wsS RX5 135 yX5_move wsX5_move) := goodIn_app (goodIn_of _ (by decide +kernel)) ggX5_fill_X5_move
set_option maxRecDepth 20000 in
theorem ggX5_fill_X5_load : GoodIn wsX5_fill wsX5_load := goodIn_r _ [22] (by decide +kernel) (by decide +kernel)
set_option maxRecDepth 20000 in
theorem gX5_fill_X5_load : GoodIn wsX5_fill (va_wsS RX5 101 yX5_load wsX5_load) := goodIn_app (goodIn_of _ (by decide +kernel)) ggX5_fill_X5_load
set_option maxRecDepth 20000 in
theorem ggX5_fill_X5_multiply : GoodIn wsX5_fill wsX5_multiply := goodIn_r _ [32, 6, 13, 33, 34, 17, 35, 36, 37, 38, 44, 45, 46, 47, 48, 49, 50, 51, 52, 53, 54, 55, 56, 57, 58, 59, 60, 61, 62, 63] (by decide +kernel) (by decide +kernel)
set_option maxRecDepth 20000 in
theorem gX5_fill_X5_multiply : GoodIn wsX5_fill (wsV RX5 129 RX5 yX5_multiply wsX5_multiply) := goodIn_app (goodIn_of _ (by decide +kernel)) ggX5_fill_X5_multiply
set_option maxRecDepth 20000 in
theorem ggX5_fill_X5_loadBottom : GoodIn wsX5_fill wsX5_loadBottom := goodIn_r _ [42, 43, 20, 21, 17, 22, 44, 45, 46, 47, 48, 49, 50, 51, 52, 53, 54, 55, 56, 57, 58, 59, 60, 61, 62, 63] (by decide +kernel) (by decide +kernel)
set_option maxRecDepth 20000 in
theorem gX5_fill_X5_loadBottom : GoodIn wsX5_fill (wsV RX5 126 RX5 yX5_loadBottom wsX5_loadBottom) := goodIn_app (goodIn_of _ (by decide +kernel)) ggX5_fill_X5_loadBottom
set_option maxRecDepth 20000 in
theorem ggX5_fill_X5_empty : GoodIn wsX5_fill wsX5_empty := goodIn_r _ [35] (by decide +kernel) (by decide +kernel)
set_option maxRecDepth 20000 in
theorem gX5_fill_X5_empty : GoodIn wsX5_fill (va_wsS RX5 68 yX5_empty wsX5_empty) := goodIn_app (goodIn_of _ (by decide +kernel)) ggX5_fill_X5_empty
theorem dX5_fill_0 : decode cX5_fill 0 = .ok (.aload_n 0, 1) := by decide +kernel
theorem dX5_fill_1 : decode cX5_fill 1 = .ok (.aload_n 0, 1) := by decide +kernel
theorem dX5_fill_2 : decode cX5_fill 2 = .ok (.getfield 53, 3) := by decide +kernel
theorem dX5_fill_5 : decode cX5_fill 5 = .ok (.iload_n 2, 1) := by decide +kernel
theorem dX5_fill_6 : decode cX5_fill 6 = .ok (.invokevirtual 122, 3) := by decide +kernel
theorem dX5_fill_9 : decode cX5_fill 9 = .ok (.aload_n 0, 1) := by decide +kernel
theorem dX5_fill_10 : decode cX5_fill 10 = .ok (.getfield 56, 3) := by decide +kernel
theorem dX5_fill_13 : decode cX5_fill 13 = .ok (.aload_n 0, 1) := by decide +kernel
theorem dX5_fill_14 : decode cX5_fill 14 = .ok (.getfield 53, 3) := by decide +kernel
theorem dX5_fill_17 : decode cX5_fill 17 = .ok (.invokestatic 83, 3) := by decide +kernel
theorem dX5_fill_20 : decode cX5_fill 20 = .ok (.aload_n 0, 1) := by decide +kernel
theorem dX5_fill_21 : decode cX5_fill 21 = .ok (.getfield 56, 3) := by decide +kernel
theorem dX5_fill_24 : decode cX5_fill 24 = .ok (.invokestatic 135, 3) := by decide +kernel
theorem dX5_fill_27 : decode cX5_fill 27 = .ok (.aload_n 0, 1) := by decide +kernel
theorem dX5_fill_28 : decode cX5_fill 28 = .ok (.getfield 29, 3) := by decide +kernel
theorem dX5_fill_31 : decode cX5_fill 31 = .ok (.aload_n 0, 1) := by decide +kernel
theorem dX5_fill_32 : decode cX5_fill 32 = .ok (.getfield 16, 3) := by decide +kernel
theorem dX5_fill_35 : decode cX5_fill 35 = .ok (.iconst 0, 1) := by decide +kernel
theorem dX5_fill_36 : decode cX5_fill 36 = .ok (.iconst 4, 1) := by decide +kernel
theorem dX5_fill_37 : decode cX5_fill 37 = .ok (.invokestatic 101, 3) := by decide +kernel
theorem dX5_fill_40 : decode cX5_fill 40 = .ok (.aload_n 0, 1) := by decide +kernel
theorem dX5_fill_41 : decode cX5_fill 41 = .ok (.aload_n 0, 1) := by decide +kernel
theorem dX5_fill_42 : decode cX5_fill 42 = .ok (.getfield 29, 3) := by decide +kernel
theorem dX5_fill_45 : decode cX5_fill 45 = .ok (.aload_n 0, 1) := by decide +kernel
theorem dX5_fill_46 : decode cX5_fill 46 = .ok (.getfield 53, 3) := by decide +kernel
theorem dX5_fill_49 : decode cX5_fill 49 = .ok (.invokevirtual 129, 3) := by decide +kernel
theorem dX5_fill_52 : decode cX5_fill 52 = .ok (.aload_n 0, 1) := by decide +kernel
theorem dX5_fill_53 : decode cX5_fill 53 = .ok (.getfield 32, 3) := by decide +kernel
theorem dX5_fill_56 : decode cX5_fill 56 = .ok (.aload_n 0, 1) := by decide +kernel
theorem dX5_fill_57 : decode cX5_fill 57 = .ok (.getfield 38, 3) := by decide +kernel
theorem dX5_fill_60 : decode cX5_fill 60 = .ok (.invokestatic 83, 3) := by decide +kernel
theorem dX5_fill_63 : decode cX5_fill 63 = .ok (.aload_n 0, 1) := by decide +kernel
theorem dX5_fill_64 : decode cX5_fill 64 = .ok (.getfield 29, 3) := by decide +kernel
theorem dX5_fill_67 : decode cX5_fill 67 = .ok (.aload_n 0, 1) := by decide +kernel
theorem dX5_fill_68 : decode cX5_fill 68 = .ok (.getfield 19, 3) := by decide +kernel
theorem dX5_fill_71 : decode cX5_fill 71 = .ok (.iconst 0, 1) := by decide +kernel
theorem dX5_fill_72 : decode cX5_fill 72 = .ok (.iconst 4, 1) := by decide +kernel
theorem dX5_fill_73 : decode cX5_fill 73 = .ok (.invokestatic 101, 3) := by decide +kernel
theorem dX5_fill_76 : decode cX5_fill 76 = .ok (.aload_n 0, 1) := by decide +kernel
theorem dX5_fill_77 : decode cX5_fill 77 = .ok (.aload_n 0, 1) := by decide +kernel
theorem dX5_fill_78 : decode cX5_fill 78 = .ok (.getfield 29, 3) := by decide +kernel
theorem dX5_fill_81 : decode cX5_fill 81 = .ok (.aload_n 0, 1) := by decide +kernel
theorem dX5_fill_82 : decode cX5_fill 82 = .ok (.getfield 56, 3) := by decide +kernel
theorem dX5_fill_85 : decode cX5_fill 85 = .ok (.invokevirtual 129, 3) := by decide +kernel
theorem dX5_fill_88 : decode cX5_fill 88 = .ok (.aload_n 0, 1) := by decide +kernel
theorem dX5_fill_89 : decode cX5_fill 89 = .ok (.getfield 35, 3) := by decide +kernel
theorem dX5_fill_92 : decode cX5_fill 92 = .ok (.aload_n 0, 1) := by decide +kernel
theorem dX5_fill_93 : decode cX5_fill 93 = .ok (.getfield 38, 3) := by decide +kernel
theorem dX5_fill_96 : decode cX5_fill 96 = .ok (.invokestatic 83, 3) := by decide +kernel
theorem dX5_fill_99 : decode cX5_fill 99 = .ok (.aload_n 0, 1) := by decide +kernel
theorem dX5_fill_100 : decode cX5_fill 100 = .ok (.aload_n 0, 1) := by decide +kernel
theorem dX5_fill_101 : decode cX5_fill 101 = .ok (.getfield 29, 3) := by decide +kernel
theorem dX5_fill_104 : decode cX5_fill 104 = .ok (.iload_n 1, 1) := by decide +kernel
theorem dX5_fill_105 : decode cX5_fill 105 = .ok (.invokevirtual 126, 3) := by decide +kernel
theorem dX5_fill_108 : decode cX5_fill 108 = .ok (.aload_n 0, 1) := by decide +kernel
theorem dX5_fill_109 : decode cX5_fill 109 = .ok (.aload_n 0, 1) := by decide +kernel
theorem dX5_fill_110 : decode cX5_fill 110 = .ok (.getfield 32, 3) := by decide +kernel
theorem dX5_fill_113 : decode cX5_fill 113 = .ok (.aload_n 0, 1) := by decide +kernel
theorem dX5_fill_114 : decode cX5_fill 114 = .ok (.getfield 29, 3) := by decide +kernel
theorem dX5_fill_117 : decode cX5_fill 117 = .ok (.invokevirtual 129, 3) := by decide +kernel
theorem dX5_fill_120 : decode cX5_fill 120 = .ok (.aload_n 0, 1) := by decide +kernel
theorem dX5_fill_121 : decode cX5_fill 121 = .ok (.getfield 32, 3) := by decide +kernel
theorem dX5_fill_124 : decode cX5_fill 124 = .ok (.aload_n 0, 1) := by decide +kernel
theorem dX5_fill_125 : decode cX5_fill 125 = .ok (.getfield 38, 3) := by decide +kernel
theorem dX5_fill_128 : decode cX5_fill 128 = .ok (.invokestatic 83, 3) := by decide +kernel
theorem dX5_fill_131 : decode cX5_fill 131 = .ok (.aload_n 0, 1) := by decide +kernel
theorem dX5_fill_132 : decode cX5_fill 132 = .ok (.aload_n 0, 1) := by decide +kernel
theorem dX5_fill_133 : decode cX5_fill 133 = .ok (.getfield 35, 3) := by decide +kernel
theorem dX5_fill_136 : decode cX5_fill 136 = .ok (.aload_n 0, 1) := by decide +kernel
theorem dX5_fill_137 : decode cX5_fill 137 = .ok (.getfield 29, 3) := by decide +kernel
theorem dX5_fill_140 : decode cX5_fill 140 = .ok (.invokevirtual 129, 3) := by decide +kernel
theorem dX5_fill_143 : decode cX5_fill 143 = .ok (.aload_n 0, 1) := by decide +kernel
theorem dX5_fill_144 : decode cX5_fill 144 = .ok (.getfield 59, 3) := by decide +kernel
theorem dX5_fill_147 : decode cX5_fill 147 = .ok (.aload_n 0, 1) := by decide +kernel
theorem dX5_fill_148 : decode cX5_fill 148 = .ok (.getfield 38, 3) := by decide +kernel
theorem dX5_fill_151 : decode cX5_fill 151 = .ok (.invokestatic 83, 3) := by decide +kernel
theorem dX5_fill_154 : decode cX5_fill 154 = .ok (.iconst 0, 1) := by decide +kernel
theorem dX5_fill_155 : decode cX5_fill 155 = .ok (.istore_n 3, 1) := by decide +kernel
theorem dX5_fill_156 : decode cX5_fill 156 = .ok (.iload_n 3, 1) := by decide +kernel
theorem dX5_fill_157 : decode cX5_fill 157 = .ok (.bipush 9, 2) := by decide +kernel
theorem dX5_fill_159 : decode cX5_fill 159 = .ok (.if_icmp .ge 130, 3) := by decide +kernel
theorem dX5_fill_162 : decode cX5_fill 162 = .ok (.aload_n 0, 1) := by decide +kernel
theorem dX5_fill_163 : decode cX5_fill 163 = .ok (.getfield 22, 3) := by decide +kernel
theorem dX5_fill_166 : decode cX5_fill 166 = .ok (.invokestatic 68, 3) := by decide +kernel
theorem dX5_fill_169 : decode cX5_fill 169 = .ok (.aload_n 0, 1) := by decide +kernel
theorem dX5_fill_170 : decode cX5_fill 170 = .ok (.getfield 22, 3) := by decide +kernel
theorem dX5_fill_173 : decode cX5_fill 173 = .ok (.iload_n 3, 1) := by decide +kernel
theorem dX5_fill_174 : decode cX5_fill 174 = .ok (.lconst 1, 1) := by decide +kernel
theorem dX5_fill_175 : decode cX5_fill 175 = .ok (.lastore, 1) := by decide +kernel
theorem dX5_fill_176 : decode cX5_fill 176 = .ok (.aload_n 0, 1) := by decide +kernel
theorem dX5_fill_177 : decode cX5_fill 177 = .ok (.getfield 26, 3) := by decide +kernel
theorem dX5_fill_180 : decode cX5_fill 180 = .ok (.invokestatic 68, 3) := by decide +kernel
theorem dX5_fill_183 : decode cX5_fill 183 = .ok (.aload_n 0, 1) := by decide +kernel
theorem dX5_fill_184 : decode cX5_fill 184 = .ok (.getfield 26, 3) := by decide +kernel
theorem dX5_fill_187 : decode cX5_fill 187 = .ok (.iload_n 3, 1) := by decide +kernel
theorem dX5_fill_188 : decode cX5_fill 188 = .ok (.lconst 1, 1) := by decide +kernel
theorem dX5_fill_189 : decode cX5_fill 189 = .ok (.lastore, 1) := by decide +kernel
theorem dX5_fill_190 : decode cX5_fill 190 = .ok (.aload_n 0, 1) := by decide +kernel
theorem dX5_fill_191 : decode cX5_fill 191 = .ok (.getfield 26, 3) := by decide +kernel
theorem dX5_fill_194 : decode cX5_fill 194 = .ok (.invokestatic 135, 3) := by decide +kernel
theorem dX5_fill_197 : decode cX5_fill 197 = .ok (.aload_n 0, 1) := by decide +kernel
theorem dX5_fill_198 : decode cX5_fill 198 = .ok (.aload_n 0, 1) := by decide +kernel
theorem dX5_fill_199 : decode cX5_fill 199 = .ok (.getfield 26, 3) := by decide +kernel
theorem dX5_fill_202 : decode cX5_fill 202 = .ok (.aload_n 0, 1) := by decide +kernel
theorem dX5_fill_203 : decode cX5_fill 203 = .ok (.getfield 32, 3) := by decide +kernel
theorem dX5_fill_206 : decode cX5_fill 206 = .ok (.invokevirtual 129, 3) := by decide +kernel
theorem dX5_fill_209 : decode cX5_fill 209 = .ok (.aload_n 0, 1) := by decide +kernel
theorem dX5_fill_210 : decode cX5_fill 210 = .ok (.getfield 26, 3) := by decide +kernel
theorem dX5_fill_213 : decode cX5_fill 213 = .ok (.aload_n 0, 1) := by decide +kernel
theorem dX5_fill_214 : decode cX5_fill 214 = .ok (.getfield 38, 3) := by decide +kernel
theorem dX5_fill_217 : decode cX5_fill 217 = .ok (.invokestatic 83, 3) := by decide +kernel
theorem dX5_fill_220 : decode cX5_fill 220 = .ok (.aload_n 0, 1) := by decide +kernel
theorem dX5_fill_221 : decode cX5_fill 221 = .ok (.aload_n 0, 1) := by decide +kernel
theorem dX5_fill_222 : decode cX5_fill 222 = .ok (.getfield 22, 3) := by decide +kernel
theorem dX5_fill_225 : decode cX5_fill 225 = .ok (.aload_n 0, 1) := by decide +kernel
theorem dX5_fill_226 : decode cX5_fill 226 = .ok (.getfield 59, 3) := by decide +kernel
theorem dX5_fill_229 : decode cX5_fill 229 = .ok (.invokevirtual 129, 3) := by decide +kernel
theorem dX5_fill_232 : decode cX5_fill 232 = .ok (.iconst 0, 1) := by decide +kernel
theorem dX5_fill_233 : decode cX5_fill 233 = .ok (.istore 4, 2) := by decide +kernel
theorem dX5_fill_235 : decode cX5_fill 235 = .ok (.iload 4, 2) := by decide +kernel
theorem dX5_fill_237 : decode cX5_fill 237 = .ok (.bipush 64, 2) := by decide +kernel
theorem dX5_fill_239 : decode cX5_fill 239 = .ok (.if_icmp .ge 44, 3) := by decide +kernel
theorem dX5_fill_242 : decode cX5_fill 242 = .ok (.aload_n 0, 1) := by decide +kernel
theorem dX5_fill_243 : decode cX5_fill 243 = .ok (.getfield 47, 3) := by decide +kernel
theorem dX5_fill_246 : decode cX5_fill 246 = .ok (.bipush 10, 2) := by decide +kernel
theorem dX5_fill_248 : decode cX5_fill 248 = .ok (.iload 4, 2) := by decide +kernel
theorem dX5_fill_250 : decode cX5_fill 250 = .ok (.imul, 1) := by decide +kernel
theorem dX5_fill_251 : decode cX5_fill 251 = .ok (.iload_n 3, 1) := by decide +kernel
theorem dX5_fill_252 : decode cX5_fill 252 = .ok (.iadd, 1) := by decide +kernel
theorem dX5_fill_253 : decode cX5_fill 253 = .ok (.aload_n 0, 1) := by decide +kernel
theorem dX5_fill_254 : decode cX5_fill 254 = .ok (.getfield 26, 3) := by decide +kernel
theorem dX5_fill_257 : decode cX5_fill 257 = .ok (.iload 4, 2) := by decide +kernel
theorem dX5_fill_259 : decode cX5_fill 259 = .ok (.laload, 1) := by decide +kernel
theorem dX5_fill_260 : decode cX5_fill 260 = .ok (.ldc2_w 66, 3) := by decide +kernel
theorem dX5_fill_263 : decode cX5_fill 263 = .ok (.ladd, 1) := by decide +kernel
theorem dX5_fill_264 : decode cX5_fill 264 = .ok (.aload_n 0, 1) := by decide +kernel
theorem dX5_fill_265 : decode cX5_fill 265 = .ok (.getfield 38, 3) := by decide +kernel
theorem dX5_fill_268 : decode cX5_fill 268 = .ok (.iload 4, 2) := by decide +kernel
theorem dX5_fill_270 : decode cX5_fill 270 = .ok (.laload, 1) := by decide +kernel
theorem dX5_fill_271 : decode cX5_fill 271 = .ok (.lsub, 1) := by decide +kernel
theorem dX5_fill_272 : decode cX5_fill 272 = .ok (.ldc2_w 66, 3) := by decide +kernel
theorem dX5_fill_275 : decode cX5_fill 275 = .ok (.lrem, 1) := by decide +kernel
theorem dX5_fill_276 : decode cX5_fill 276 = .ok (.lastore, 1) := by decide +kernel
theorem dX5_fill_277 : decode cX5_fill 277 = .ok (.iinc 4 1, 3) := by decide +kernel
theorem dX5_fill_280 : decode cX5_fill 280 = .ok (.goto (-45), 3) := by decide +kernel
theorem dX5_fill_283 : decode cX5_fill 283 = .ok (.iinc 3 1, 3) := by decide +kernel
theorem dX5_fill_286 : decode cX5_fill 286 = .ok (.goto (-130), 3) := by decide +kernel
theorem dX5_fill_289 : decode cX5_fill 289 = .ok (.aload_n 0, 1) := by decide +kernel
theorem dX5_fill_290 : decode cX5_fill 290 = .ok (.aload_n 0, 1) := by decide +kernel
theorem dX5_fill_291 : decode cX5_fill 291 = .ok (.getfield 29, 3) := by decide +kernel
theorem dX5_fill_294 : decode cX5_fill 294 = .ok (.iload_n 1, 1) := by decide +kernel
theorem dX5_fill_295 : decode cX5_fill 295 = .ok (.invokevirtual 122, 3) := by decide +kernel
theorem dX5_fill_298 : decode cX5_fill 298 = .ok (.aload_n 0, 1) := by decide +kernel
theorem dX5_fill_299 : decode cX5_fill 299 = .ok (.aload_n 0, 1) := by decide +kernel
theorem dX5_fill_300 : decode cX5_fill 300 = .ok (.getfield 29, 3) := by decide +kernel
theorem dX5_fill_303 : decode cX5_fill 303 = .ok (.aload_n 0, 1) := by decide +kernel
theorem dX5_fill_304 : decode cX5_fill 304 = .ok (.getfield 53, 3) := by decide +kernel
theorem dX5_fill_307 : decode cX5_fill 307 = .ok (.invokevirtual 129, 3) := by decide +kernel
theorem dX5_fill_310 : decode cX5_fill 310 = .ok (.aload_n 0, 1) := by decide +kernel
theorem dX5_fill_311 : decode cX5_fill 311 = .ok (.getfield 29, 3) := by decide +kernel
theorem dX5_fill_314 : decode cX5_fill 314 = .ok (.aload_n 0, 1) := by decide +kernel
theorem dX5_fill_315 : decode cX5_fill 315 = .ok (.getfield 38, 3) := by decide +kernel
theorem dX5_fill_318 : decode cX5_fill 318 = .ok (.invokestatic 83, 3) := by decide +kernel
theorem dX5_fill_321 : decode cX5_fill 321 = .ok (.aload_n 0, 1) := by decide +kernel
theorem dX5_fill_322 : decode cX5_fill 322 = .ok (.aload_n 0, 1) := by decide +kernel
theorem dX5_fill_323 : decode cX5_fill 323 = .ok (.getfield 35, 3) := by decide +kernel
theorem dX5_fill_326 : decode cX5_fill 326 = .ok (.aload_n 0, 1) := by decide +kernel
theorem dX5_fill_327 : decode cX5_fill 327 = .ok (.getfield 29, 3) := by decide +kernel
theorem dX5_fill_330 : decode cX5_fill 330 = .ok (.invokevirtual 129, 3) := by decide +kernel
theorem dX5_fill_333 : decode cX5_fill 333 = .ok (.iconst 0, 1) := by decide +kernel
theorem dX5_fill_334 : decode cX5_fill 334 = .ok (.istore_n 3, 1) := by decide +kernel
theorem dX5_fill_335 : decode cX5_fill 335 = .ok (.iload_n 3, 1) := by decide +kernel
theorem dX5_fill_336 : decode cX5_fill 336 = .ok (.bipush 64, 2) := by decide +kernel
theorem dX5_fill_338 : decode cX5_fill 338 = .ok (.if_icmp .ge 27, 3) := by decide +kernel
theorem dX5_fill_341 : decode cX5_fill 341 = .ok (.aload_n 0, 1) := by decide +kernel
theorem dX5_fill_342 : decode cX5_fill 342 = .ok (.getfield 47, 3) := by decide +kernel
theorem dX5_fill_345 : decode cX5_fill 345 = .ok (.bipush 10, 2) := by decide +kernel
theorem dX5_fill_347 : decode cX5_fill 347 = .ok (.iload_n 3, 1) := by decide +kernel
theorem dX5_fill_348 : decode cX5_fill 348 = .ok (.imul, 1) := by decide +kernel
theorem dX5_fill_349 : decode cX5_fill 349 = .ok (.bipush 9, 2) := by decide +kernel
theorem dX5_fill_351 : decode cX5_fill 351 = .ok (.iadd, 1) := by decide +kernel
theorem dX5_fill_352 : decode cX5_fill 352 = .ok (.aload_n 0, 1) := by decide +kernel
theorem dX5_fill_353 : decode cX5_fill 353 = .ok (.getfield 38, 3) := by decide +kernel
theorem dX5_fill_356 : decode cX5_fill 356 = .ok (.iload_n 3, 1) := by decide +kernel
theorem dX5_fill_357 : decode cX5_fill 357 = .ok (.laload, 1) := by decide +kernel
theorem dX5_fill_358 : decode cX5_fill 358 = .ok (.lastore, 1) := by decide +kernel
theorem dX5_fill_359 : decode cX5_fill 359 = .ok (.iinc 3 1, 3) := by decide +kernel
theorem dX5_fill_362 : decode cX5_fill 362 = .ok (.goto (-27), 3) := by decide +kernel
theorem dX5_fill_365 : decode cX5_fill 365 = .ok (.return_, 1) := by decide +kernel
set_option maxRecDepth 20000 in
theorem ggX5_clear_X5_inverse : GoodIn wsX5_clear wsX5_inverse := goodIn_r _ [8, 3] (by decide +kernel) (by decide +kernel)
set_option maxRecDepth 20000 in
theorem gX5_clear_X5_inverse : GoodIn wsX5_clear (va_wsS RX5 76 yX5_inverse wsX5_inverse) := goodIn_app (goodIn_of _ (by decide +kernel)) ggX5_clear_X5_inverse
set_option maxRecDepth 20000 in
theorem ggX5_clear_X5_modulo : GoodIn wsX5_clear wsX5_modulo := goodIn_r _ [11, 3] (by decide +kernel) (by decide +kernel)
set_option maxRecDepth 20000 in
theorem gX5_clear_X5_modulo : GoodIn wsX5_clear (va_wsS RX5 80 yX5_modulo wsX5_modulo) := goodIn_app (goodIn_of _ (by decide +kernel)) ggX5_clear_X5_modulo
theorem dX5_clear_0 : decode cX5_clear 0 = .ok (.iconst 0, 1) := by decide +kernel
theorem dX5_clear_1 : decode cX5_clear 1 = .ok (.istore_n 2, 1) := by decide +kernel
theorem dX5_clear_2 : decode cX5_clear 2 = .ok (.iconst 0, 1) := by decide +kernel
theorem dX5_clear_3 : decode cX5_clear 3 = .ok (.istore_n 3, 1) := by decide +kernel
theorem dX5_clear_4 : decode cX5_clear 4 = .ok (.iconst 0, 1) := by decide +kernel
theorem dX5_clear_5 : decode cX5_clear 5 = .ok (.istore 4, 2) := by decide +kernel
theorem dX5_clear_7 : decode cX5_clear 7 = .ok (.iload 4, 2) := by decide +kernel
theorem dX5_clear_9 : decode cX5_clear 9 = .ok (.iload_n 1, 1) := by decide +kernel
theorem dX5_clear_10 : decode cX5_clear 10 = .ok (.if_icmp .gt 318, 3) := by decide +kernel
theorem dX5_clear_13 : decode cX5_clear 13 = .ok (.iload_n 2, 1) := by decide +kernel
theorem dX5_clear_14 : decode cX5_clear 14 = .ok (.istore 5, 2) := by decide +kernel
theorem dX5_clear_16 : decode cX5_clear 16 = .ok (.iload 5, 2) := by decide +kernel
theorem dX5_clear_18 : decode cX5_clear 18 = .ok (.bipush 64, 2) := by decide +kernel
theorem dX5_clear_20 : decode cX5_clear 20 = .ok (.if_icmp .ge 27, 3) := by decide +kernel
theorem dX5_clear_23 : decode cX5_clear 23 = .ok (.aload_n 0, 1) := by decide +kernel
theorem dX5_clear_24 : decode cX5_clear 24 = .ok (.getfield 47, 3) := by decide +kernel
theorem dX5_clear_27 : decode cX5_clear 27 = .ok (.bipush 10, 2) := by decide +kernel
theorem dX5_clear_29 : decode cX5_clear 29 = .ok (.iload 5, 2) := by decide +kernel
theorem dX5_clear_31 : decode cX5_clear 31 = .ok (.imul, 1) := by decide +kernel
theorem dX5_clear_32 : decode cX5_clear 32 = .ok (.iload 4, 2) := by decide +kernel
theorem dX5_clear_34 : decode cX5_clear 34 = .ok (.iadd, 1) := by decide +kernel
theorem dX5_clear_35 : decode cX5_clear 35 = .ok (.laload, 1) := by decide +kernel
theorem dX5_clear_36 : decode cX5_clear 36 = .ok (.lconst 0, 1) := by decide +kernel
theorem dX5_clear_37 : decode cX5_clear 37 = .ok (.lcmp, 1) := by decide +kernel
theorem dX5_clear_38 : decode cX5_clear 38 = .ok (.ifCond .ne 9, 3) := by decide +kernel
theorem dX5_clear_41 : decode cX5_clear 41 = .ok (.iinc 5 1, 3) := by decide +kernel
theorem dX5_clear_44 : decode cX5_clear 44 = .ok (.goto (-28), 3) := by decide +kernel
theorem dX5_clear_47 : decode cX5_clear 47 = .ok (.aload_n 0, 1) := by decide +kernel
theorem dX5_clear_48 : decode cX5_clear 48 = .ok (.getfield 50, 3) := by decide +kernel
theorem dX5_clear_51 : decode cX5_clear 51 = .ok (.iload 4, 2) := by decide +kernel
theorem dX5_clear_53 : decode cX5_clear 53 = .ok (.iconst (-1), 1) := by decide +kernel
theorem dX5_clear_54 : decode cX5_clear 54 = .ok (.iastore, 1) := by decide +kernel
theorem dX5_clear_55 : decode cX5_clear 55 = .ok (.iload 5, 2) := by decide +kernel
theorem dX5_clear_57 : decode cX5_clear 57 = .ok (.bipush 64, 2) := by decide +kernel
theorem dX5_clear_59 : decode cX5_clear 59 = .ok (.if_icmp .ne 9, 3) := by decide +kernel
theorem dX5_clear_62 : decode cX5_clear 62 = .ok (.iinc 3 1, 3) := by decide +kernel
theorem dX5_clear_65 : decode cX5_clear 65 = .ok (.goto 257, 3) := by decide +kernel
theorem dX5_clear_68 : decode cX5_clear 68 = .ok (.iconst 0, 1) := by decide +kernel
theorem dX5_clear_69 : decode cX5_clear 69 = .ok (.istore 6, 2) := by decide +kernel
theorem dX5_clear_71 : decode cX5_clear 71 = .ok (.iload 6, 2) := by decide +kernel
theorem dX5_clear_73 : decode cX5_clear 73 = .ok (.bipush 10, 2) := by decide +kernel
theorem dX5_clear_75 : decode cX5_clear 75 = .ok (.if_icmp .ge 63, 3) := by decide +kernel
theorem dX5_clear_78 : decode cX5_clear 78 = .ok (.aload_n 0, 1) := by decide +kernel
theorem dX5_clear_79 : decode cX5_clear 79 = .ok (.getfield 47, 3) := by decide +kernel
theorem dX5_clear_82 : decode cX5_clear 82 = .ok (.bipush 10, 2) := by decide +kernel
theorem dX5_clear_84 : decode cX5_clear 84 = .ok (.iload 5, 2) := by decide +kernel
theorem dX5_clear_86 : decode cX5_clear 86 = .ok (.imul, 1) := by decide +kernel
theorem dX5_clear_87 : decode cX5_clear 87 = .ok (.iload 6, 2) := by decide +kernel
theorem dX5_clear_89 : decode cX5_clear 89 = .ok (.iadd, 1) := by decide +kernel
theorem dX5_clear_90 : decode cX5_clear 90 = .ok (.laload, 1) := by decide +kernel
theorem dX5_clear_91 : decode cX5_clear 91 = .ok (.lstore 7, 2) := by decide +kernel
theorem dX5_clear_93 : decode cX5_clear 93 = .ok (.aload_n 0, 1) := by decide +kernel
theorem dX5_clear_94 : decode cX5_clear 94 = .ok (.getfield 47, 3) := by decide +kernel
theorem dX5_clear_97 : decode cX5_clear 97 = .ok (.bipush 10, 2) := by decide +kernel
theorem dX5_clear_99 : decode cX5_clear 99 = .ok (.iload 5, 2) := by decide +kernel
theorem dX5_clear_101 : decode cX5_clear 101 = .ok (.imul, 1) := by decide +kernel
theorem dX5_clear_102 : decode cX5_clear 102 = .ok (.iload 6, 2) := by decide +kernel
theorem dX5_clear_104 : decode cX5_clear 104 = .ok (.iadd, 1) := by decide +kernel
theorem dX5_clear_105 : decode cX5_clear 105 = .ok (.aload_n 0, 1) := by decide +kernel
theorem dX5_clear_106 : decode cX5_clear 106 = .ok (.getfield 47, 3) := by decide +kernel
theorem dX5_clear_109 : decode cX5_clear 109 = .ok (.bipush 10, 2) := by decide +kernel
theorem dX5_clear_111 : decode cX5_clear 111 = .ok (.iload_n 2, 1) := by decide +kernel
theorem dX5_clear_112 : decode cX5_clear 112 = .ok (.imul, 1) := by decide +kernel
theorem dX5_clear_113 : decode cX5_clear 113 = .ok (.iload 6, 2) := by decide +kernel
theorem dX5_clear_115 : decode cX5_clear 115 = .ok (.iadd, 1) := by decide +kernel
theorem dX5_clear_116 : decode cX5_clear 116 = .ok (.laload, 1) := by decide +kernel
theorem dX5_clear_117 : decode cX5_clear 117 = .ok (.lastore, 1) := by decide +kernel
theorem dX5_clear_118 : decode cX5_clear 118 = .ok (.aload_n 0, 1) := by decide +kernel
theorem dX5_clear_119 : decode cX5_clear 119 = .ok (.getfield 47, 3) := by decide +kernel
theorem dX5_clear_122 : decode cX5_clear 122 = .ok (.bipush 10, 2) := by decide +kernel
theorem dX5_clear_124 : decode cX5_clear 124 = .ok (.iload_n 2, 1) := by decide +kernel
theorem dX5_clear_125 : decode cX5_clear 125 = .ok (.imul, 1) := by decide +kernel
theorem dX5_clear_126 : decode cX5_clear 126 = .ok (.iload 6, 2) := by decide +kernel
theorem dX5_clear_128 : decode cX5_clear 128 = .ok (.iadd, 1) := by decide +kernel
theorem dX5_clear_129 : decode cX5_clear 129 = .ok (.lload 7, 2) := by decide +kernel
theorem dX5_clear_131 : decode cX5_clear 131 = .ok (.lastore, 1) := by decide +kernel
theorem dX5_clear_132 : decode cX5_clear 132 = .ok (.iinc 6 1, 3) := by decide +kernel
theorem dX5_clear_135 : decode cX5_clear 135 = .ok (.goto (-64), 3) := by decide +kernel
theorem dX5_clear_138 : decode cX5_clear 138 = .ok (.aload_n 0, 1) := by decide +kernel
theorem dX5_clear_139 : decode cX5_clear 139 = .ok (.getfield 47, 3) := by decide +kernel
theorem dX5_clear_142 : decode cX5_clear 142 = .ok (.bipush 10, 2) := by decide +kernel
theorem dX5_clear_144 : decode cX5_clear 144 = .ok (.iload_n 2, 1) := by decide +kernel
theorem dX5_clear_145 : decode cX5_clear 145 = .ok (.imul, 1) := by decide +kernel
theorem dX5_clear_146 : decode cX5_clear 146 = .ok (.iload 4, 2) := by decide +kernel
theorem dX5_clear_148 : decode cX5_clear 148 = .ok (.iadd, 1) := by decide +kernel
theorem dX5_clear_149 : decode cX5_clear 149 = .ok (.laload, 1) := by decide +kernel
theorem dX5_clear_150 : decode cX5_clear 150 = .ok (.invokestatic 76, 3) := by decide +kernel
theorem dX5_clear_153 : decode cX5_clear 153 = .ok (.lstore 6, 2) := by decide +kernel
theorem dX5_clear_155 : decode cX5_clear 155 = .ok (.iconst 0, 1) := by decide +kernel
theorem dX5_clear_156 : decode cX5_clear 156 = .ok (.istore 8, 2) := by decide +kernel
theorem dX5_clear_158 : decode cX5_clear 158 = .ok (.iload 8, 2) := by decide +kernel
theorem dX5_clear_160 : decode cX5_clear 160 = .ok (.bipush 10, 2) := by decide +kernel
theorem dX5_clear_162 : decode cX5_clear 162 = .ok (.if_icmp .ge 40, 3) := by decide +kernel
theorem dX5_clear_165 : decode cX5_clear 165 = .ok (.aload_n 0, 1) := by decide +kernel
theorem dX5_clear_166 : decode cX5_clear 166 = .ok (.getfield 47, 3) := by decide +kernel
theorem dX5_clear_169 : decode cX5_clear 169 = .ok (.bipush 10, 2) := by decide +kernel
theorem dX5_clear_171 : decode cX5_clear 171 = .ok (.iload_n 2, 1) := by decide +kernel
theorem dX5_clear_172 : decode cX5_clear 172 = .ok (.imul, 1) := by decide +kernel
theorem dX5_clear_173 : decode cX5_clear 173 = .ok (.iload 8, 2) := by decide +kernel
theorem dX5_clear_175 : decode cX5_clear 175 = .ok (.iadd, 1) := by decide +kernel
theorem dX5_clear_176 : decode cX5_clear 176 = .ok (.aload_n 0, 1) := by decide +kernel
theorem dX5_clear_177 : decode cX5_clear 177 = .ok (.getfield 47, 3) := by decide +kernel
theorem dX5_clear_180 : decode cX5_clear 180 = .ok (.bipush 10, 2) := by decide +kernel
theorem dX5_clear_182 : decode cX5_clear 182 = .ok (.iload_n 2, 1) := by decide +kernel
theorem dX5_clear_183 : decode cX5_clear 183 = .ok (.imul, 1) := by decide +kernel
theorem dX5_clear_184 : decode cX5_clear 184 = .ok (.iload 8, 2) := by decide +kernel
theorem dX5_clear_186 : decode cX5_clear 186 = .ok (.iadd, 1) := by decide +kernel
theorem dX5_clear_187 : decode cX5_clear 187 = .ok (.laload, 1) := by decide +kernel
theorem dX5_clear_188 : decode cX5_clear 188 = .ok (.lload 6, 2) := by decide +kernel
theorem dX5_clear_190 : decode cX5_clear 190 = .ok (.lmul, 1) := by decide +kernel
theorem dX5_clear_191 : decode cX5_clear 191 = .ok (.ldc2_w 66, 3) := by decide +kernel
theorem dX5_clear_194 : decode cX5_clear 194 = .ok (.lrem, 1) := by decide +kernel
theorem dX5_clear_195 : decode cX5_clear 195 = .ok (.lastore, 1) := by decide +kernel
theorem dX5_clear_196 : decode cX5_clear 196 = .ok (.iinc 8 1, 3) := by decide +kernel
theorem dX5_clear_199 : decode cX5_clear 199 = .ok (.goto (-41), 3) := by decide +kernel
theorem dX5_clear_202 : decode cX5_clear 202 = .ok (.iconst 0, 1) := by decide +kernel
theorem dX5_clear_203 : decode cX5_clear 203 = .ok (.istore 8, 2) := by decide +kernel
theorem dX5_clear_205 : decode cX5_clear 205 = .ok (.iload 8, 2) := by decide +kernel
theorem dX5_clear_207 : decode cX5_clear 207 = .ok (.bipush 64, 2) := by decide +kernel
theorem dX5_clear_209 : decode cX5_clear 209 = .ok (.if_icmp .ge 102, 3) := by decide +kernel
theorem dX5_clear_212 : decode cX5_clear 212 = .ok (.iload 8, 2) := by decide +kernel
theorem dX5_clear_214 : decode cX5_clear 214 = .ok (.iload_n 2, 1) := by decide +kernel
theorem dX5_clear_215 : decode cX5_clear 215 = .ok (.if_icmp .ne 7, 3) := by decide +kernel
theorem dX5_clear_218 : decode cX5_clear 218 = .ok (.lconst 0, 1) := by decide +kernel
theorem dX5_clear_219 : decode cX5_clear 219 = .ok (.goto 16, 3) := by decide +kernel
theorem dX5_clear_222 : decode cX5_clear 222 = .ok (.aload_n 0, 1) := by decide +kernel
theorem dX5_clear_223 : decode cX5_clear 223 = .ok (.getfield 47, 3) := by decide +kernel
theorem dX5_clear_226 : decode cX5_clear 226 = .ok (.bipush 10, 2) := by decide +kernel
theorem dX5_clear_228 : decode cX5_clear 228 = .ok (.iload 8, 2) := by decide +kernel
theorem dX5_clear_230 : decode cX5_clear 230 = .ok (.imul, 1) := by decide +kernel
theorem dX5_clear_231 : decode cX5_clear 231 = .ok (.iload 4, 2) := by decide +kernel
theorem dX5_clear_233 : decode cX5_clear 233 = .ok (.iadd, 1) := by decide +kernel
theorem dX5_clear_234 : decode cX5_clear 234 = .ok (.laload, 1) := by decide +kernel
theorem dX5_clear_235 : decode cX5_clear 235 = .ok (.lstore 9, 2) := by decide +kernel
theorem dX5_clear_237 : decode cX5_clear 237 = .ok (.iconst 0, 1) := by decide +kernel
theorem dX5_clear_238 : decode cX5_clear 238 = .ok (.istore 11, 2) := by decide +kernel
theorem dX5_clear_240 : decode cX5_clear 240 = .ok (.iload 11, 2) := by decide +kernel
theorem dX5_clear_242 : decode cX5_clear 242 = .ok (.bipush 10, 2) := by decide +kernel
theorem dX5_clear_244 : decode cX5_clear 244 = .ok (.if_icmp .ge 61, 3) := by decide +kernel
theorem dX5_clear_247 : decode cX5_clear 247 = .ok (.lload 9, 2) := by decide +kernel
theorem dX5_clear_249 : decode cX5_clear 249 = .ok (.lconst 0, 1) := by decide +kernel
theorem dX5_clear_250 : decode cX5_clear 250 = .ok (.lcmp, 1) := by decide +kernel
theorem dX5_clear_251 : decode cX5_clear 251 = .ok (.ifCond .le 54, 3) := by decide +kernel
theorem dX5_clear_254 : decode cX5_clear 254 = .ok (.aload_n 0, 1) := by decide +kernel
theorem dX5_clear_255 : decode cX5_clear 255 = .ok (.getfield 47, 3) := by decide +kernel
theorem dX5_clear_258 : decode cX5_clear 258 = .ok (.bipush 10, 2) := by decide +kernel
theorem dX5_clear_260 : decode cX5_clear 260 = .ok (.iload 8, 2) := by decide +kernel
theorem dX5_clear_262 : decode cX5_clear 262 = .ok (.imul, 1) := by decide +kernel
theorem dX5_clear_263 : decode cX5_clear 263 = .ok (.iload 11, 2) := by decide +kernel
theorem dX5_clear_265 : decode cX5_clear 265 = .ok (.iadd, 1) := by decide +kernel
theorem dX5_clear_266 : decode cX5_clear 266 = .ok (.aload_n 0, 1) := by decide +kernel
theorem dX5_clear_267 : decode cX5_clear 267 = .ok (.getfield 47, 3) := by decide +kernel
theorem dX5_clear_270 : decode cX5_clear 270 = .ok (.bipush 10, 2) := by decide +kernel
theorem dX5_clear_272 : decode cX5_clear 272 = .ok (.iload 8, 2) := by decide +kernel
theorem dX5_clear_274 : decode cX5_clear 274 = .ok (.imul, 1) := by decide +kernel
theorem dX5_clear_275 : decode cX5_clear 275 = .ok (.iload 11, 2) := by decide +kernel
theorem dX5_clear_277 : decode cX5_clear 277 = .ok (.iadd, 1) := by decide +kernel
theorem dX5_clear_278 : decode cX5_clear 278 = .ok (.laload, 1) := by decide +kernel
theorem dX5_clear_279 : decode cX5_clear 279 = .ok (.lload 9, 2) := by decide +kernel
theorem dX5_clear_281 : decode cX5_clear 281 = .ok (.aload_n 0, 1) := by decide +kernel
theorem dX5_clear_282 : decode cX5_clear 282 = .ok (.getfield 47, 3) := by decide +kernel
theorem dX5_clear_285 : decode cX5_clear 285 = .ok (.bipush 10, 2) := by decide +kernel
theorem dX5_clear_287 : decode cX5_clear 287 = .ok (.iload_n 2, 1) := by decide +kernel
theorem dX5_clear_288 : decode cX5_clear 288 = .ok (.imul, 1) := by decide +kernel
theorem dX5_clear_289 : decode cX5_clear 289 = .ok (.iload 11, 2) := by decide +kernel
theorem dX5_clear_291 : decode cX5_clear 291 = .ok (.iadd, 1) := by decide +kernel
theorem dX5_clear_292 : decode cX5_clear 292 = .ok (.laload, 1) := by decide +kernel
theorem dX5_clear_293 : decode cX5_clear 293 = .ok (.lmul, 1) := by decide +kernel
theorem dX5_clear_294 : decode cX5_clear 294 = .ok (.lsub, 1) := by decide +kernel
theorem dX5_clear_295 : decode cX5_clear 295 = .ok (.invokestatic 80, 3) := by decide +kernel
theorem dX5_clear_298 : decode cX5_clear 298 = .ok (.lastore, 1) := by decide +kernel
theorem dX5_clear_299 : decode cX5_clear 299 = .ok (.iinc 11 1, 3) := by decide +kernel
theorem dX5_clear_302 : decode cX5_clear 302 = .ok (.goto (-62), 3) := by decide +kernel
theorem dX5_clear_305 : decode cX5_clear 305 = .ok (.iinc 8 1, 3) := by decide +kernel
theorem dX5_clear_308 : decode cX5_clear 308 = .ok (.goto (-103), 3) := by decide +kernel
theorem dX5_clear_311 : decode cX5_clear 311 = .ok (.aload_n 0, 1) := by decide +kernel
theorem dX5_clear_312 : decode cX5_clear 312 = .ok (.getfield 50, 3) := by decide +kernel
theorem dX5_clear_315 : decode cX5_clear 315 = .ok (.iload 4, 2) := by decide +kernel
theorem dX5_clear_317 : decode cX5_clear 317 = .ok (.iload_n 2, 1) := by decide +kernel
theorem dX5_clear_318 : decode cX5_clear 318 = .ok (.iastore, 1) := by decide +kernel
theorem dX5_clear_319 : decode cX5_clear 319 = .ok (.iinc 2 1, 3) := by decide +kernel
theorem dX5_clear_322 : decode cX5_clear 322 = .ok (.iinc 4 1, 3) := by decide +kernel
theorem dX5_clear_325 : decode cX5_clear 325 = .ok (.goto (-318), 3) := by decide +kernel
theorem dX5_clear_328 : decode cX5_clear 328 = .ok (.aload_n 0, 1) := by decide +kernel
theorem dX5_clear_329 : decode cX5_clear 329 = .ok (.iconst 1, 1) := by decide +kernel
theorem dX5_clear_330 : decode cX5_clear 330 = .ok (.putfield 145, 3) := by decide +kernel
theorem dX5_clear_333 : decode cX5_clear 333 = .ok (.iload_n 2, 1) := by decide +kernel
theorem dX5_clear_334 : decode cX5_clear 334 = .ok (.istore 4, 2) := by decide +kernel
theorem dX5_clear_336 : decode cX5_clear 336 = .ok (.iload 4, 2) := by decide +kernel
theorem dX5_clear_338 : decode cX5_clear 338 = .ok (.bipush 64, 2) := by decide +kernel
theorem dX5_clear_340 : decode cX5_clear 340 = .ok (.if_icmp .ge 43, 3) := by decide +kernel
theorem dX5_clear_343 : decode cX5_clear 343 = .ok (.aload_n 0, 1) := by decide +kernel
theorem dX5_clear_344 : decode cX5_clear 344 = .ok (.aload_n 0, 1) := by decide +kernel
theorem dX5_clear_345 : decode cX5_clear 345 = .ok (.getfield 145, 3) := by decide +kernel
theorem dX5_clear_348 : decode cX5_clear 348 = .ok (.ifCond .eq 25, 3) := by decide +kernel
theorem dX5_clear_351 : decode cX5_clear 351 = .ok (.aload_n 0, 1) := by decide +kernel
theorem dX5_clear_352 : decode cX5_clear 352 = .ok (.getfield 47, 3) := by decide +kernel
theorem dX5_clear_355 : decode cX5_clear 355 = .ok (.bipush 10, 2) := by decide +kernel
theorem dX5_clear_357 : decode cX5_clear 357 = .ok (.iload 4, 2) := by decide +kernel
theorem dX5_clear_359 : decode cX5_clear 359 = .ok (.imul, 1) := by decide +kernel
theorem dX5_clear_360 : decode cX5_clear 360 = .ok (.bipush 9, 2) := by decide +kernel
theorem dX5_clear_362 : decode cX5_clear 362 = .ok (.iadd, 1) := by decide +kernel
theorem dX5_clear_363 : decode cX5_clear 363 = .ok (.laload, 1) := by decide +kernel
theorem dX5_clear_364 : decode cX5_clear 364 = .ok (.lconst 0, 1) := by decide +kernel
theorem dX5_clear_365 : decode cX5_clear 365 = .ok (.lcmp, 1) := by decide +kernel
theorem dX5_clear_366 : decode cX5_clear 366 = .ok (.ifCond .ne 7, 3) := by decide +kernel
theorem dX5_clear_369 : decode cX5_clear 369 = .ok (.iconst 1, 1) := by decide +kernel
theorem dX5_clear_370 : decode cX5_clear 370 = .ok (.goto 4, 3) := by decide +kernel
theorem dX5_clear_373 : decode cX5_clear 373 = .ok (.iconst 0, 1) := by decide +kernel
theorem dX5_clear_374 : decode cX5_clear 374 = .ok (.putfield 145, 3) := by decide +kernel
theorem dX5_clear_377 : decode cX5_clear 377 = .ok (.iinc 4 1, 3) := by decide +kernel
theorem dX5_clear_380 : decode cX5_clear 380 = .ok (.goto (-44), 3) := by decide +kernel
theorem dX5_clear_383 : decode cX5_clear 383 = .ok (.iload_n 3, 1) := by decide +kernel
theorem dX5_clear_384 : decode cX5_clear 384 = .ok (.ireturn, 1) := by decide +kernel
set_option maxRecDepth 20000 in
theorem ggX5_mayBe_X5_are : GoodIn wsX5_mayBe wsX5_are := goodIn_r _ [7, 2, 8, 9, 10, 6, 11, 12, 13, 14, 15, 32, 33, 34, 35, 36, 37, 38, 39, 40, 41, 42, 43, 44, 45, 46, 47, 48, 49, 50, 51] (by decide +kernel) (by decide +kernel)
set_option maxRecDepth 20000 in
theorem gX5_mayBe_X5_are : GoodIn wsX5_mayBe (wsV RX5 114 RX5 yX5_are wsX5_are) := goodIn_app (goodIn_of _ (by decide +kernel)) ggX5_mayBe_X5_are
set_option maxRecDepth 20000 in
theorem ggX5_mayBe_X5_loadTop : GoodIn wsX5_mayBe wsX5_loadTop := goodIn_r _ [19, 20, 21, 22, 6, 23, 32, 33, 34, 35, 36, 37, 38, 39, 40, 41, 42, 43, 44, 45, 46, 47, 48, 49, 50, 51] (by decide +kernel) (by decide +kernel)
set_option maxRecDepth 20000 in
theorem gX5_mayBe_X5_loadTop : GoodIn wsX5_mayBe (wsV RX5 122 RX5 yX5_loadTop wsX5_loadTop) := goodIn_app (goodIn_of _ (by decide +kernel)) ggX5_mayBe_X5_loadTop
set_option maxRecDepth 20000 in
theorem ggX5_mayBe_X5_high : GoodIn wsX5_mayBe wsX5_high := goodIn_r _ [26] (by decide +kernel) (by decide +kernel)
set_option maxRecDepth 20000 in
theorem gX5_mayBe_X5_high : GoodIn wsX5_mayBe (va_wsS RX5 72 yX5_high wsX5_high) := goodIn_app (goodIn_of _ (by decide +kernel)) ggX5_mayBe_X5_high
set_option maxRecDepth 20000 in
theorem ggX5_mayBe_X5_isNoRatio : GoodIn wsX5_mayBe wsX5_isNoRatio := goodIn_r _ [30, 31, 32, 33, 34, 35, 36, 37, 38, 39, 40, 41, 42, 43, 44, 45, 46, 47, 48, 49, 50, 51] (by decide +kernel) (by decide +kernel)
set_option maxRecDepth 20000 in
theorem gX5_mayBe_X5_isNoRatio : GoodIn wsX5_mayBe (wsV RX5 138 RX5 yX5_isNoRatio wsX5_isNoRatio) := goodIn_app (goodIn_of _ (by decide +kernel)) ggX5_mayBe_X5_isNoRatio
theorem dX5_mayBe_0 : decode cX5_mayBe 0 = .ok (.aload_n 0, 1) := by decide +kernel
theorem dX5_mayBe_1 : decode cX5_mayBe 1 = .ok (.iload_n 1, 1) := by decide +kernel
theorem dX5_mayBe_2 : decode cX5_mayBe 2 = .ok (.iload_n 2, 1) := by decide +kernel
theorem dX5_mayBe_3 : decode cX5_mayBe 3 = .ok (.invokevirtual 114, 3) := by decide +kernel
theorem dX5_mayBe_6 : decode cX5_mayBe 6 = .ok (.ifCond .ne 5, 3) := by decide +kernel
theorem dX5_mayBe_9 : decode cX5_mayBe 9 = .ok (.iconst 0, 1) := by decide +kernel
theorem dX5_mayBe_10 : decode cX5_mayBe 10 = .ok (.ireturn, 1) := by decide +kernel
theorem dX5_mayBe_11 : decode cX5_mayBe 11 = .ok (.aload_n 0, 1) := by decide +kernel
theorem dX5_mayBe_12 : decode cX5_mayBe 12 = .ok (.aload_n 0, 1) := by decide +kernel
theorem dX5_mayBe_13 : decode cX5_mayBe 13 = .ok (.getfield 29, 3) := by decide +kernel
theorem dX5_mayBe_16 : decode cX5_mayBe 16 = .ok (.iload_n 2, 1) := by decide +kernel
theorem dX5_mayBe_17 : decode cX5_mayBe 17 = .ok (.invokevirtual 122, 3) := by decide +kernel
theorem dX5_mayBe_20 : decode cX5_mayBe 20 = .ok (.aload_n 0, 1) := by decide +kernel
theorem dX5_mayBe_21 : decode cX5_mayBe 21 = .ok (.aload_n 0, 1) := by decide +kernel
theorem dX5_mayBe_22 : decode cX5_mayBe 22 = .ok (.getfield 29, 3) := by decide +kernel
theorem dX5_mayBe_25 : decode cX5_mayBe 25 = .ok (.invokestatic 72, 3) := by decide +kernel
theorem dX5_mayBe_28 : decode cX5_mayBe 28 = .ok (.ifCond .lt 10, 3) := by decide +kernel
theorem dX5_mayBe_31 : decode cX5_mayBe 31 = .ok (.aload_n 0, 1) := by decide +kernel
theorem dX5_mayBe_32 : decode cX5_mayBe 32 = .ok (.invokevirtual 138, 3) := by decide +kernel
theorem dX5_mayBe_35 : decode cX5_mayBe 35 = .ok (.ifCond .eq 7, 3) := by decide +kernel
theorem dX5_mayBe_38 : decode cX5_mayBe 38 = .ok (.iconst 2, 1) := by decide +kernel
theorem dX5_mayBe_39 : decode cX5_mayBe 39 = .ok (.goto 4, 3) := by decide +kernel
theorem dX5_mayBe_42 : decode cX5_mayBe 42 = .ok (.iconst 0, 1) := by decide +kernel
theorem dX5_mayBe_43 : decode cX5_mayBe 43 = .ok (.putfield 62, 3) := by decide +kernel
theorem dX5_mayBe_46 : decode cX5_mayBe 46 = .ok (.aload_n 0, 1) := by decide +kernel
theorem dX5_mayBe_47 : decode cX5_mayBe 47 = .ok (.getfield 62, 3) := by decide +kernel
theorem dX5_mayBe_50 : decode cX5_mayBe 50 = .ok (.ifCond .ne 7, 3) := by decide +kernel
theorem dX5_mayBe_53 : decode cX5_mayBe 53 = .ok (.iconst 1, 1) := by decide +kernel
theorem dX5_mayBe_54 : decode cX5_mayBe 54 = .ok (.goto 4, 3) := by decide +kernel
theorem dX5_mayBe_57 : decode cX5_mayBe 57 = .ok (.iconst 0, 1) := by decide +kernel
theorem dX5_mayBe_58 : decode cX5_mayBe 58 = .ok (.ireturn, 1) := by decide +kernel
set_option maxRecDepth 20000 in
theorem ggX5_find_X5_mayBe : GoodIn wsX5_find wsX5_mayBe := goodIn_r _ [12, 13, 14, 15, 16, 17, 11, 18, 19, 20, 21, 22, 2, 23, 24, 25, 26, 27, 28, 29, 30, 31, 32, 33, 34, 35, 36, 37, 38, 39, 40, 41, 100, 101, 102, 103, 104, 105, 106, 107, 108, 109, 110, 111, 112, 113, 114, 115, 116, 117, 118, 119] (by decide +kernel) (by decide +kernel)
set_option maxRecDepth 20000 in
theorem gX5_find_X5_mayBe : GoodIn wsX5_find (wsV RX5 149 RX5 yX5_mayBe wsX5_mayBe) := goodIn_app (goodIn_of _ (by decide +kernel)) ggX5_find_X5_mayBe
set_option maxRecDepth 20000 in
theorem ggX5_find_X5_in : GoodIn wsX5_find wsX5_in := goodIn_r _ [25] (by decide +kernel) (by decide +kernel)
set_option maxRecDepth 20000 in
theorem gX5_find_X5_in : GoodIn wsX5_find (va_wsS RX5 93 yX5_in wsX5_in) := goodIn_app (goodIn_of _ (by decide +kernel)) ggX5_find_X5_in
set_option maxRecDepth 20000 in
theorem ggX5_find_X5_raise : GoodIn wsX5_find wsX5_raise := goodIn_r _ [45, 14, 100, 101, 102, 103, 104, 105, 106, 107, 108, 109, 110, 111, 112, 113, 114, 115, 116, 117, 118, 119] (by decide +kernel) (by decide +kernel)
set_option maxRecDepth 20000 in
theorem gX5_find_X5_raise : GoodIn wsX5_find (wsV RX5 97 RX5 yX5_raise wsX5_raise) := goodIn_app (goodIn_of _ (by decide +kernel)) ggX5_find_X5_raise
set_option maxRecDepth 20000 in
theorem ggX5_find_X5_fill : GoodIn wsX5_find wsX5_fill := goodIn_r _ [49, 50, 51, 13, 52, 53, 54, 41, 55, 56, 4, 7, 6, 57, 26, 27, 28, 11, 29, 30, 31, 32, 33, 58, 59, 60, 61, 62, 63, 64, 65, 66, 67, 68, 69, 70, 34, 35, 36, 71, 72, 73, 74, 75, 100, 101, 102, 103, 104, 105, 106, 107, 108, 109, 110, 111, 112, 113, 114, 115, 116, 117, 118, 119] (by decide +kernel) (by decide +kernel)
set_option maxRecDepth 20000 in
theorem gX5_find_X5_fill : GoodIn wsX5_find (wsV RX5 154 RX5 yX5_fill wsX5_fill) := goodIn_app (goodIn_of _ (by decide +kernel)) ggX5_find_X5_fill
set_option maxRecDepth 20000 in
theorem ggX5_find_X5_clear : GoodIn wsX5_find wsX5_clear := goodIn_r _ [79, 6, 5, 57, 3, 80, 81, 11, 82, 83, 84, 85, 100, 101, 102, 103, 104, 105, 106, 107, 108, 109, 110, 111, 112, 113, 114, 115, 116, 117, 118, 119] (by decide +kernel) (by decide +kernel)
set_option maxRecDepth 20000 in
theorem gX5_find_X5_clear : GoodIn wsX5_find (wsV RX5 157 RX5 yX5_clear wsX5_clear) := goodIn_app (goodIn_of _ (by decide +kernel)) ggX5_find_X5_clear
set_option maxRecDepth 20000 in
theorem ggX5_find_X5_empty : GoodIn wsX5_find wsX5_empty := goodIn_r _ [70] (by decide +kernel) (by decide +kernel)
set_option maxRecDepth 20000 in
theorem gX5_find_X5_empty : GoodIn wsX5_find (va_wsS RX5 68 yX5_empty wsX5_empty) := goodIn_app (goodIn_of _ (by decide +kernel)) ggX5_find_X5_empty
set_option maxRecDepth 20000 in
theorem ggX5_find_X5_loadTop : GoodIn wsX5_find wsX5_loadTop := goodIn_r _ [29, 30, 31, 32, 11, 33, 100, 101, 102, 103, 104, 105, 106, 107, 108, 109, 110, 111, 112, 113, 114, 115, 116, 117, 118, 119] (by decide +kernel) (by decide +kernel)
set_option maxRecDepth 20000 in
theorem gX5_find_X5_loadTop : GoodIn wsX5_find (wsV RX5 122 RX5 yX5_loadTop wsX5_loadTop) := goodIn_app (goodIn_of _ (by decide +kernel)) ggX5_find_X5_loadTop
set_option maxRecDepth 20000 in
theorem ggX5_find_X5_lowest : GoodIn wsX5_find wsX5_lowest := goodIn_r _ [89, 54, 4, 90, 7, 91, 57, 58, 59, 11, 60, 34, 35, 36, 92, 93, 94, 95, 80, 81, 82, 68, 69, 70, 83, 84, 85, 100, 101, 102, 103, 104, 105, 106, 107, 108, 109, 110, 111, 112, 113, 114, 115, 116, 117, 118, 119] (by decide +kernel) (by decide +kernel)
set_option maxRecDepth 20000 in
theorem gX5_find_X5_lowest : GoodIn wsX5_find (wsV RX5 132 RX5 yX5_lowest wsX5_lowest) := goodIn_app (goodIn_of _ (by decide +kernel)) ggX5_find_X5_lowest
set_option maxRecDepth 20000 in
theorem ggX5_find_X5_keep : GoodIn wsX5_find wsX5_keep := goodIn_r _ [99, 2, 4, 7, 14, 30, 75, 34, 35, 11, 36, 42, 43, 44, 45, 100, 101, 102, 103, 104, 105, 106, 107, 108, 109, 110, 111, 112, 113, 114, 115, 116, 117, 118, 119] (by decide +kernel) (by decide +kernel)
set_option maxRecDepth 20000 in
theorem gX5_find_X5_keep : GoodIn wsX5_find (wsV RX5 107 RX5 yX5_keep wsX5_keep) := goodIn_app (goodIn_of _ (by decide +kernel)) ggX5_find_X5_keep
theorem dX5_find_0 : decode cX5_find 0 = .ok (.aload_n 0, 1) := by decide +kernel
theorem dX5_find_1 : decode cX5_find 1 = .ok (.iload_n 1, 1) := by decide +kernel
theorem dX5_find_2 : decode cX5_find 2 = .ok (.iload_n 2, 1) := by decide +kernel
theorem dX5_find_3 : decode cX5_find 3 = .ok (.invokevirtual 149, 3) := by decide +kernel
theorem dX5_find_6 : decode cX5_find 6 = .ok (.ifCond .ne 5, 3) := by decide +kernel
theorem dX5_find_9 : decode cX5_find 9 = .ok (.iconst 0, 1) := by decide +kernel
theorem dX5_find_10 : decode cX5_find 10 = .ok (.ireturn, 1) := by decide +kernel
theorem dX5_find_11 : decode cX5_find 11 = .ok (.iload_n 3, 1) := by decide +kernel
theorem dX5_find_12 : decode cX5_find 12 = .ok (.i2l, 1) := by decide +kernel
theorem dX5_find_13 : decode cX5_find 13 = .ok (.lconst 0, 1) := by decide +kernel
theorem dX5_find_14 : decode cX5_find 14 = .ok (.ldc2_w 152, 3) := by decide +kernel
theorem dX5_find_17 : decode cX5_find 17 = .ok (.invokestatic 93, 3) := by decide +kernel
theorem dX5_find_20 : decode cX5_find 20 = .ok (.ifCond .ne 9, 3) := by decide +kernel
theorem dX5_find_23 : decode cX5_find 23 = .ok (.aload_n 0, 1) := by decide +kernel
theorem dX5_find_24 : decode cX5_find 24 = .ok (.iconst 3, 1) := by decide +kernel
theorem dX5_find_25 : decode cX5_find 25 = .ok (.invokevirtual 97, 3) := by decide +kernel
theorem dX5_find_28 : decode cX5_find 28 = .ok (.ireturn, 1) := by decide +kernel
theorem dX5_find_29 : decode cX5_find 29 = .ok (.aload_n 0, 1) := by decide +kernel
theorem dX5_find_30 : decode cX5_find 30 = .ok (.getfield 90, 3) := by decide +kernel
theorem dX5_find_33 : decode cX5_find 33 = .ok (.bipush 50, 2) := by decide +kernel
theorem dX5_find_35 : decode cX5_find 35 = .ok (.if_icmp .ne 9, 3) := by decide +kernel
theorem dX5_find_38 : decode cX5_find 38 = .ok (.aload_n 0, 1) := by decide +kernel
theorem dX5_find_39 : decode cX5_find 39 = .ok (.iconst 4, 1) := by decide +kernel
theorem dX5_find_40 : decode cX5_find 40 = .ok (.invokevirtual 97, 3) := by decide +kernel
theorem dX5_find_43 : decode cX5_find 43 = .ok (.ireturn, 1) := by decide +kernel
theorem dX5_find_44 : decode cX5_find 44 = .ok (.aload_n 0, 1) := by decide +kernel
theorem dX5_find_45 : decode cX5_find 45 = .ok (.iload_n 1, 1) := by decide +kernel
theorem dX5_find_46 : decode cX5_find 46 = .ok (.iload_n 2, 1) := by decide +kernel
theorem dX5_find_47 : decode cX5_find 47 = .ok (.invokevirtual 154, 3) := by decide +kernel
theorem dX5_find_50 : decode cX5_find 50 = .ok (.aload_n 0, 1) := by decide +kernel
theorem dX5_find_51 : decode cX5_find 51 = .ok (.iload_n 3, 1) := by decide +kernel
theorem dX5_find_52 : decode cX5_find 52 = .ok (.invokevirtual 157, 3) := by decide +kernel
theorem dX5_find_55 : decode cX5_find 55 = .ok (.pop, 1) := by decide +kernel
theorem dX5_find_56 : decode cX5_find 56 = .ok (.aload_n 0, 1) := by decide +kernel
theorem dX5_find_57 : decode cX5_find 57 = .ok (.getfield 145, 3) := by decide +kernel
theorem dX5_find_60 : decode cX5_find 60 = .ok (.ifCond .ne 5, 3) := by decide +kernel
theorem dX5_find_63 : decode cX5_find 63 = .ok (.iconst (-1), 1) := by decide +kernel
theorem dX5_find_64 : decode cX5_find 64 = .ok (.ireturn, 1) := by decide +kernel
theorem dX5_find_65 : decode cX5_find 65 = .ok (.aload_n 0, 1) := by decide +kernel
theorem dX5_find_66 : decode cX5_find 66 = .ok (.getfield 22, 3) := by decide +kernel
theorem dX5_find_69 : decode cX5_find 69 = .ok (.invokestatic 68, 3) := by decide +kernel
theorem dX5_find_72 : decode cX5_find 72 = .ok (.iconst 0, 1) := by decide +kernel
theorem dX5_find_73 : decode cX5_find 73 = .ok (.istore 4, 2) := by decide +kernel
theorem dX5_find_75 : decode cX5_find 75 = .ok (.iload 4, 2) := by decide +kernel
theorem dX5_find_77 : decode cX5_find 77 = .ok (.iload_n 3, 1) := by decide +kernel
theorem dX5_find_78 : decode cX5_find 78 = .ok (.if_icmp .gt 49, 3) := by decide +kernel
theorem dX5_find_81 : decode cX5_find 81 = .ok (.aload_n 0, 1) := by decide +kernel
theorem dX5_find_82 : decode cX5_find 82 = .ok (.getfield 22, 3) := by decide +kernel
theorem dX5_find_85 : decode cX5_find 85 = .ok (.iload 4, 2) := by decide +kernel
theorem dX5_find_87 : decode cX5_find 87 = .ok (.aload_n 0, 1) := by decide +kernel
theorem dX5_find_88 : decode cX5_find 88 = .ok (.getfield 50, 3) := by decide +kernel
theorem dX5_find_91 : decode cX5_find 91 = .ok (.iload 4, 2) := by decide +kernel
theorem dX5_find_93 : decode cX5_find 93 = .ok (.iaload, 1) := by decide +kernel
theorem dX5_find_94 : decode cX5_find 94 = .ok (.iconst (-1), 1) := by decide +kernel
theorem dX5_find_95 : decode cX5_find 95 = .ok (.if_icmp .ne 7, 3) := by decide +kernel
theorem dX5_find_98 : decode cX5_find 98 = .ok (.lconst 0, 1) := by decide +kernel
theorem dX5_find_99 : decode cX5_find 99 = .ok (.goto 21, 3) := by decide +kernel
theorem dX5_find_102 : decode cX5_find 102 = .ok (.aload_n 0, 1) := by decide +kernel
theorem dX5_find_103 : decode cX5_find 103 = .ok (.getfield 47, 3) := by decide +kernel
theorem dX5_find_106 : decode cX5_find 106 = .ok (.bipush 10, 2) := by decide +kernel
theorem dX5_find_108 : decode cX5_find 108 = .ok (.aload_n 0, 1) := by decide +kernel
theorem dX5_find_109 : decode cX5_find 109 = .ok (.getfield 50, 3) := by decide +kernel
theorem dX5_find_112 : decode cX5_find 112 = .ok (.iload 4, 2) := by decide +kernel
theorem dX5_find_114 : decode cX5_find 114 = .ok (.iaload, 1) := by decide +kernel
theorem dX5_find_115 : decode cX5_find 115 = .ok (.imul, 1) := by decide +kernel
theorem dX5_find_116 : decode cX5_find 116 = .ok (.bipush 9, 2) := by decide +kernel
theorem dX5_find_118 : decode cX5_find 118 = .ok (.iadd, 1) := by decide +kernel
theorem dX5_find_119 : decode cX5_find 119 = .ok (.laload, 1) := by decide +kernel
theorem dX5_find_120 : decode cX5_find 120 = .ok (.lastore, 1) := by decide +kernel
theorem dX5_find_121 : decode cX5_find 121 = .ok (.iinc 4 1, 3) := by decide +kernel
theorem dX5_find_124 : decode cX5_find 124 = .ok (.goto (-49), 3) := by decide +kernel
theorem dX5_find_127 : decode cX5_find 127 = .ok (.aload_n 0, 1) := by decide +kernel
theorem dX5_find_128 : decode cX5_find 128 = .ok (.aload_n 0, 1) := by decide +kernel
theorem dX5_find_129 : decode cX5_find 129 = .ok (.getfield 26, 3) := by decide +kernel
theorem dX5_find_132 : decode cX5_find 132 = .ok (.iload_n 2, 1) := by decide +kernel
theorem dX5_find_133 : decode cX5_find 133 = .ok (.invokevirtual 122, 3) := by decide +kernel
theorem dX5_find_136 : decode cX5_find 136 = .ok (.aload_n 0, 1) := by decide +kernel
theorem dX5_find_137 : decode cX5_find 137 = .ok (.invokevirtual 132, 3) := by decide +kernel
theorem dX5_find_140 : decode cX5_find 140 = .ok (.aload_n 0, 1) := by decide +kernel
theorem dX5_find_141 : decode cX5_find 141 = .ok (.iconst 4, 1) := by decide +kernel
theorem dX5_find_142 : decode cX5_find 142 = .ok (.invokevirtual 107, 3) := by decide +kernel
theorem dX5_find_145 : decode cX5_find 145 = .ok (.ireturn, 1) := by decide +kernel
set_option maxRecDepth 20000 in
theorem ggX5_least_X5_mayBe : GoodIn wsX5_least wsX5_mayBe := goodIn_r _ [6, 7, 8, 9, 10, 11, 5, 12, 13, 14, 15, 16, 17, 18, 19, 20, 21, 22, 23, 24, 25, 26, 27, 28, 29, 30, 31, 32, 33, 34, 35, 36, 81, 82, 83, 84, 85, 86, 87, 88, 89, 90, 91, 92, 93, 94, 95, 96, 97, 98, 99, 100] (by decide +kernel) (by decide +kernel)
set_option maxRecDepth 20000 in
theorem gX5_least_X5_mayBe : GoodIn wsX5_least (wsV RX5 149 RX5 yX5_mayBe wsX5_mayBe) := goodIn_app (goodIn_of _ (by decide +kernel)) ggX5_least_X5_mayBe
set_option maxRecDepth 20000 in
theorem ggX5_least_X5_fill : GoodIn wsX5_least wsX5_fill := goodIn_r _ [40, 41, 42, 7, 43, 44, 45, 36, 46, 47, 48, 49, 50, 51, 21, 22, 23, 5, 24, 25, 26, 27, 28, 52, 53, 54, 55, 56, 57, 58, 59, 60, 61, 62, 63, 64, 29, 30, 31, 65, 66, 67, 68, 69, 81, 82, 83, 84, 85, 86, 87, 88, 89, 90, 91, 92, 93, 94, 95, 96, 97, 98, 99, 100] (by decide +kernel) (by decide +kernel)
set_option maxRecDepth 20000 in
theorem gX5_least_X5_fill : GoodIn wsX5_least (wsV RX5 154 RX5 yX5_fill wsX5_fill) := goodIn_app (goodIn_of _ (by decide +kernel)) ggX5_least_X5_fill
set_option maxRecDepth 20000 in
theorem ggX5_least_X5_clear : GoodIn wsX5_least wsX5_clear := goodIn_r _ [73, 50, 74, 51, 1, 75, 76, 5, 77, 78, 79, 80, 81, 82, 83, 84, 85, 86, 87, 88, 89, 90, 91, 92, 93, 94, 95, 96, 97, 98, 99, 100] (by decide +kernel) (by decide +kernel)
set_option maxRecDepth 20000 in
theorem gX5_least_X5_clear : GoodIn wsX5_least (wsV RX5 157 RX5 yX5_clear wsX5_clear) := goodIn_app (goodIn_of _ (by decide +kernel)) ggX5_least_X5_clear
theorem dX5_least_0 : decode cX5_least 0 = .ok (.aload_n 0, 1) := by decide +kernel
theorem dX5_least_1 : decode cX5_least 1 = .ok (.iload_n 1, 1) := by decide +kernel
theorem dX5_least_2 : decode cX5_least 2 = .ok (.iload_n 2, 1) := by decide +kernel
theorem dX5_least_3 : decode cX5_least 3 = .ok (.invokevirtual 149, 3) := by decide +kernel
theorem dX5_least_6 : decode cX5_least 6 = .ok (.ifCond .ne 5, 3) := by decide +kernel
theorem dX5_least_9 : decode cX5_least 9 = .ok (.iconst 0, 1) := by decide +kernel
theorem dX5_least_10 : decode cX5_least 10 = .ok (.ireturn, 1) := by decide +kernel
theorem dX5_least_11 : decode cX5_least 11 = .ok (.iconst 0, 1) := by decide +kernel
theorem dX5_least_12 : decode cX5_least 12 = .ok (.istore_n 3, 1) := by decide +kernel
theorem dX5_least_13 : decode cX5_least 13 = .ok (.iload_n 3, 1) := by decide +kernel
theorem dX5_least_14 : decode cX5_least 14 = .ok (.bipush 9, 2) := by decide +kernel
theorem dX5_least_16 : decode cX5_least 16 = .ok (.if_icmp .ge 30, 3) := by decide +kernel
theorem dX5_least_19 : decode cX5_least 19 = .ok (.aload_n 0, 1) := by decide +kernel
theorem dX5_least_20 : decode cX5_least 20 = .ok (.iload_n 1, 1) := by decide +kernel
theorem dX5_least_21 : decode cX5_least 21 = .ok (.iload_n 2, 1) := by decide +kernel
theorem dX5_least_22 : decode cX5_least 22 = .ok (.invokevirtual 154, 3) := by decide +kernel
theorem dX5_least_25 : decode cX5_least 25 = .ok (.aload_n 0, 1) := by decide +kernel
theorem dX5_least_26 : decode cX5_least 26 = .ok (.iload_n 3, 1) := by decide +kernel
theorem dX5_least_27 : decode cX5_least 27 = .ok (.invokevirtual 157, 3) := by decide +kernel
theorem dX5_least_30 : decode cX5_least 30 = .ok (.pop, 1) := by decide +kernel
theorem dX5_least_31 : decode cX5_least 31 = .ok (.aload_n 0, 1) := by decide +kernel
theorem dX5_least_32 : decode cX5_least 32 = .ok (.getfield 145, 3) := by decide +kernel
theorem dX5_least_35 : decode cX5_least 35 = .ok (.ifCond .eq 5, 3) := by decide +kernel
theorem dX5_least_38 : decode cX5_least 38 = .ok (.iload_n 3, 1) := by decide +kernel
theorem dX5_least_39 : decode cX5_least 39 = .ok (.ireturn, 1) := by decide +kernel
theorem dX5_least_40 : decode cX5_least 40 = .ok (.iinc 3 1, 3) := by decide +kernel
theorem dX5_least_43 : decode cX5_least 43 = .ok (.goto (-30), 3) := by decide +kernel
theorem dX5_least_46 : decode cX5_least 46 = .ok (.iconst (-1), 1) := by decide +kernel
theorem dX5_least_47 : decode cX5_least 47 = .ok (.ireturn, 1) := by decide +kernel
set_option maxRecDepth 20000 in
theorem ggX5_free_X5_mayBe : GoodIn wsX5_free wsX5_mayBe := goodIn_r _ [6, 7, 8, 9, 10, 11, 5, 12, 13, 14, 15, 16, 17, 18, 19, 20, 21, 22, 23, 24, 25, 26, 27, 28, 29, 30, 31, 32, 33, 34, 35, 36, 86, 87, 88, 89, 90, 91, 92, 93, 94, 95, 96, 97, 98, 99, 100, 101, 102, 103, 104, 105] (by decide +kernel) (by decide +kernel)
set_option maxRecDepth 20000 in
theorem gX5_free_X5_mayBe : GoodIn wsX5_free (wsV RX5 149 RX5 yX5_mayBe wsX5_mayBe) := goodIn_app (goodIn_of _ (by decide +kernel)) ggX5_free_X5_mayBe
set_option maxRecDepth 20000 in
theorem ggX5_free_X5_in : GoodIn wsX5_free wsX5_in := goodIn_r _ [20] (by decide +kernel) (by decide +kernel)
set_option maxRecDepth 20000 in
theorem gX5_free_X5_in : GoodIn wsX5_free (va_wsS RX5 93 yX5_in wsX5_in) := goodIn_app (goodIn_of _ (by decide +kernel)) ggX5_free_X5_in
set_option maxRecDepth 20000 in
theorem ggX5_free_X5_raise : GoodIn wsX5_free wsX5_raise := goodIn_r _ [40, 8, 86, 87, 88, 89, 90, 91, 92, 93, 94, 95, 96, 97, 98, 99, 100, 101, 102, 103, 104, 105] (by decide +kernel) (by decide +kernel)
set_option maxRecDepth 20000 in
theorem gX5_free_X5_raise : GoodIn wsX5_free (wsV RX5 97 RX5 yX5_raise wsX5_raise) := goodIn_app (goodIn_of _ (by decide +kernel)) ggX5_free_X5_raise
set_option maxRecDepth 20000 in
theorem ggX5_free_X5_fill : GoodIn wsX5_free wsX5_fill := goodIn_r _ [44, 45, 46, 7, 47, 48, 49, 36, 50, 51, 52, 53, 54, 55, 21, 22, 23, 5, 24, 25, 26, 27, 28, 56, 57, 58, 59, 60, 61, 62, 63, 64, 65, 66, 67, 68, 29, 30, 31, 69, 70, 71, 72, 73, 86, 87, 88, 89, 90, 91, 92, 93, 94, 95, 96, 97, 98, 99, 100, 101, 102, 103, 104, 105] (by decide +kernel) (by decide +kernel)
set_option maxRecDepth 20000 in
theorem gX5_free_X5_fill : GoodIn wsX5_free (wsV RX5 154 RX5 yX5_fill wsX5_fill) := goodIn_app (goodIn_of _ (by decide +kernel)) ggX5_free_X5_fill
set_option maxRecDepth 20000 in
theorem ggX5_free_X5_clear : GoodIn wsX5_free wsX5_clear := goodIn_r _ [77, 54, 78, 55, 79, 80, 81, 5, 82, 83, 84, 85, 86, 87, 88, 89, 90, 91, 92, 93, 94, 95, 96, 97, 98, 99, 100, 101, 102, 103, 104, 105] (by decide +kernel) (by decide +kernel)
set_option maxRecDepth 20000 in
theorem gX5_free_X5_clear : GoodIn wsX5_free (wsV RX5 157 RX5 yX5_clear wsX5_clear) := goodIn_app (goodIn_of _ (by decide +kernel)) ggX5_free_X5_clear
theorem dX5_free_0 : decode cX5_free 0 = .ok (.aload_n 0, 1) := by decide +kernel
theorem dX5_free_1 : decode cX5_free 1 = .ok (.iload_n 1, 1) := by decide +kernel
theorem dX5_free_2 : decode cX5_free 2 = .ok (.iload_n 1, 1) := by decide +kernel
theorem dX5_free_3 : decode cX5_free 3 = .ok (.invokevirtual 149, 3) := by decide +kernel
theorem dX5_free_6 : decode cX5_free 6 = .ok (.ifCond .ne 5, 3) := by decide +kernel
theorem dX5_free_9 : decode cX5_free 9 = .ok (.iconst 0, 1) := by decide +kernel
theorem dX5_free_10 : decode cX5_free 10 = .ok (.ireturn, 1) := by decide +kernel
theorem dX5_free_11 : decode cX5_free 11 = .ok (.iload_n 2, 1) := by decide +kernel
theorem dX5_free_12 : decode cX5_free 12 = .ok (.i2l, 1) := by decide +kernel
theorem dX5_free_13 : decode cX5_free 13 = .ok (.lconst 0, 1) := by decide +kernel
theorem dX5_free_14 : decode cX5_free 14 = .ok (.ldc2_w 152, 3) := by decide +kernel
theorem dX5_free_17 : decode cX5_free 17 = .ok (.invokestatic 93, 3) := by decide +kernel
theorem dX5_free_20 : decode cX5_free 20 = .ok (.ifCond .ne 9, 3) := by decide +kernel
theorem dX5_free_23 : decode cX5_free 23 = .ok (.aload_n 0, 1) := by decide +kernel
theorem dX5_free_24 : decode cX5_free 24 = .ok (.iconst 3, 1) := by decide +kernel
theorem dX5_free_25 : decode cX5_free 25 = .ok (.invokevirtual 97, 3) := by decide +kernel
theorem dX5_free_28 : decode cX5_free 28 = .ok (.ireturn, 1) := by decide +kernel
theorem dX5_free_29 : decode cX5_free 29 = .ok (.aload_n 0, 1) := by decide +kernel
theorem dX5_free_30 : decode cX5_free 30 = .ok (.iload_n 1, 1) := by decide +kernel
theorem dX5_free_31 : decode cX5_free 31 = .ok (.iload_n 1, 1) := by decide +kernel
theorem dX5_free_32 : decode cX5_free 32 = .ok (.invokevirtual 154, 3) := by decide +kernel
theorem dX5_free_35 : decode cX5_free 35 = .ok (.aload_n 0, 1) := by decide +kernel
theorem dX5_free_36 : decode cX5_free 36 = .ok (.iload_n 2, 1) := by decide +kernel
theorem dX5_free_37 : decode cX5_free 37 = .ok (.invokevirtual 157, 3) := by decide +kernel
theorem dX5_free_40 : decode cX5_free 40 = .ok (.ireturn, 1) := by decide +kernel
set_option maxRecDepth 20000 in
theorem ggX5_loadPart_X5_loadTop : GoodIn wsX5_loadPart wsX5_loadTop := goodIn_r _ [6, 7, 8, 9, 5, 10, 16, 17, 18, 19, 20, 21, 22, 23, 24, 25, 26, 27, 28, 29, 30, 31, 32, 33, 34, 35] (by decide +kernel) (by decide +kernel)
set_option maxRecDepth 20000 in
theorem gX5_loadPart_X5_loadTop : GoodIn wsX5_loadPart (wsV RX5 122 RX5 yX5_loadTop wsX5_loadTop) := goodIn_app (goodIn_of _ (by decide +kernel)) ggX5_loadPart_X5_loadTop
set_option maxRecDepth 20000 in
theorem ggX5_loadPart_X5_loadBottom : GoodIn wsX5_loadPart wsX5_loadBottom := goodIn_r _ [14, 15, 8, 9, 5, 10, 16, 17, 18, 19, 20, 21, 22, 23, 24, 25, 26, 27, 28, 29, 30, 31, 32, 33, 34, 35] (by decide +kernel) (by decide +kernel)
set_option maxRecDepth 20000 in
theorem gX5_loadPart_X5_loadBottom : GoodIn wsX5_loadPart (wsV RX5 126 RX5 yX5_loadBottom wsX5_loadBottom) := goodIn_app (goodIn_of _ (by decide +kernel)) ggX5_loadPart_X5_loadBottom
theorem dX5_loadPart_0 : decode cX5_loadPart 0 = .ok (.iload_n 2, 1) := by decide +kernel
theorem dX5_loadPart_1 : decode cX5_loadPart 1 = .ok (.ifCond .eq 15, 3) := by decide +kernel
theorem dX5_loadPart_4 : decode cX5_loadPart 4 = .ok (.aload_n 0, 1) := by decide +kernel
theorem dX5_loadPart_5 : decode cX5_loadPart 5 = .ok (.aload_n 0, 1) := by decide +kernel
theorem dX5_loadPart_6 : decode cX5_loadPart 6 = .ok (.getfield 22, 3) := by decide +kernel
theorem dX5_loadPart_9 : decode cX5_loadPart 9 = .ok (.iload_n 1, 1) := by decide +kernel
theorem dX5_loadPart_10 : decode cX5_loadPart 10 = .ok (.invokevirtual 122, 3) := by decide +kernel
theorem dX5_loadPart_13 : decode cX5_loadPart 13 = .ok (.goto 12, 3) := by decide +kernel
theorem dX5_loadPart_16 : decode cX5_loadPart 16 = .ok (.aload_n 0, 1) := by decide +kernel
theorem dX5_loadPart_17 : decode cX5_loadPart 17 = .ok (.aload_n 0, 1) := by decide +kernel
theorem dX5_loadPart_18 : decode cX5_loadPart 18 = .ok (.getfield 22, 3) := by decide +kernel
theorem dX5_loadPart_21 : decode cX5_loadPart 21 = .ok (.iload_n 1, 1) := by decide +kernel
theorem dX5_loadPart_22 : decode cX5_loadPart 22 = .ok (.invokevirtual 126, 3) := by decide +kernel
theorem dX5_loadPart_25 : decode cX5_loadPart 25 = .ok (.return_, 1) := by decide +kernel
set_option maxRecDepth 20000 in
theorem ggX5_degree_X5_are : GoodIn wsX5_degree wsX5_are := goodIn_r _ [6, 7, 8, 9, 10, 5, 11, 12, 13, 14, 15, 36, 37, 38, 39, 40, 41, 42, 43, 44, 45, 46, 47, 48, 49, 50, 51, 52, 53, 54, 55] (by decide +kernel) (by decide +kernel)
set_option maxRecDepth 20000 in
theorem gX5_degree_X5_are : GoodIn wsX5_degree (wsV RX5 114 RX5 yX5_are wsX5_are) := goodIn_app (goodIn_of _ (by decide +kernel)) ggX5_degree_X5_are
set_option maxRecDepth 20000 in
theorem ggX5_degree_X5_loadPart : GoodIn wsX5_degree wsX5_loadPart := goodIn_r _ [19, 1, 20, 21, 22, 5, 23, 24, 25, 26, 27, 28, 29, 30, 31, 32, 36, 37, 38, 39, 40, 41, 42, 43, 44, 45, 46, 47, 48, 49, 50, 51, 52, 53, 54, 55] (by decide +kernel) (by decide +kernel)
set_option maxRecDepth 20000 in
theorem gX5_degree_X5_loadPart : GoodIn wsX5_degree (wsV RX5 160 RX5 yX5_loadPart wsX5_loadPart) := goodIn_app (goodIn_of _ (by decide +kernel)) ggX5_degree_X5_loadPart
set_option maxRecDepth 20000 in
theorem ggX5_degree_X5_high : GoodIn wsX5_degree wsX5_high := goodIn_r _ [35] (by decide +kernel) (by decide +kernel)
set_option maxRecDepth 20000 in
theorem gX5_degree_X5_high : GoodIn wsX5_degree (va_wsS RX5 72 yX5_high wsX5_high) := goodIn_app (goodIn_of _ (by decide +kernel)) ggX5_degree_X5_high
theorem dX5_degree_0 : decode cX5_degree 0 = .ok (.aload_n 0, 1) := by decide +kernel
theorem dX5_degree_1 : decode cX5_degree 1 = .ok (.iload_n 1, 1) := by decide +kernel
theorem dX5_degree_2 : decode cX5_degree 2 = .ok (.iload_n 1, 1) := by decide +kernel
theorem dX5_degree_3 : decode cX5_degree 3 = .ok (.invokevirtual 114, 3) := by decide +kernel
theorem dX5_degree_6 : decode cX5_degree 6 = .ok (.ifCond .ne 5, 3) := by decide +kernel
theorem dX5_degree_9 : decode cX5_degree 9 = .ok (.iconst 0, 1) := by decide +kernel
theorem dX5_degree_10 : decode cX5_degree 10 = .ok (.ireturn, 1) := by decide +kernel
theorem dX5_degree_11 : decode cX5_degree 11 = .ok (.aload_n 0, 1) := by decide +kernel
theorem dX5_degree_12 : decode cX5_degree 12 = .ok (.iload_n 1, 1) := by decide +kernel
theorem dX5_degree_13 : decode cX5_degree 13 = .ok (.iload_n 2, 1) := by decide +kernel
theorem dX5_degree_14 : decode cX5_degree 14 = .ok (.invokevirtual 160, 3) := by decide +kernel
theorem dX5_degree_17 : decode cX5_degree 17 = .ok (.aload_n 0, 1) := by decide +kernel
theorem dX5_degree_18 : decode cX5_degree 18 = .ok (.getfield 22, 3) := by decide +kernel
theorem dX5_degree_21 : decode cX5_degree 21 = .ok (.invokestatic 72, 3) := by decide +kernel
theorem dX5_degree_24 : decode cX5_degree 24 = .ok (.ireturn, 1) := by decide +kernel
set_option maxRecDepth 20000 in
theorem ggX5_at_X5_are : GoodIn wsX5_at wsX5_are := goodIn_r _ [7, 8, 9, 10, 11, 6, 12, 13, 14, 15, 16, 34, 35, 36, 37, 38, 39, 40, 41, 42, 43, 44, 45, 46, 47, 48, 49, 50, 51, 52, 53] (by decide +kernel) (by decide +kernel)
set_option maxRecDepth 20000 in
theorem gX5_at_X5_are : GoodIn wsX5_at (wsV RX5 114 RX5 yX5_are wsX5_are) := goodIn_app (goodIn_of _ (by decide +kernel)) ggX5_at_X5_are
set_option maxRecDepth 20000 in
theorem ggX5_at_X5_in : GoodIn wsX5_at wsX5_in := goodIn_r _ [16] (by decide +kernel) (by decide +kernel)
set_option maxRecDepth 20000 in
theorem gX5_at_X5_in : GoodIn wsX5_at (va_wsS RX5 93 yX5_in wsX5_in) := goodIn_app (goodIn_of _ (by decide +kernel)) ggX5_at_X5_in
set_option maxRecDepth 20000 in
theorem ggX5_at_X5_loadPart : GoodIn wsX5_at wsX5_loadPart := goodIn_r _ [20, 2, 21, 22, 23, 6, 24, 25, 26, 27, 28, 29, 30, 31, 32, 33, 34, 35, 36, 37, 38, 39, 40, 41, 42, 43, 44, 45, 46, 47, 48, 49, 50, 51, 52, 53] (by decide +kernel) (by decide +kernel)
set_option maxRecDepth 20000 in
theorem gX5_at_X5_loadPart : GoodIn wsX5_at (wsV RX5 160 RX5 yX5_loadPart wsX5_loadPart) := goodIn_app (goodIn_of _ (by decide +kernel)) ggX5_at_X5_loadPart
theorem dX5_at_0 : decode cX5_at 0 = .ok (.aload_n 0, 1) := by decide +kernel
theorem dX5_at_1 : decode cX5_at 1 = .ok (.iload_n 1, 1) := by decide +kernel
theorem dX5_at_2 : decode cX5_at 2 = .ok (.iload_n 1, 1) := by decide +kernel
theorem dX5_at_3 : decode cX5_at 3 = .ok (.invokevirtual 114, 3) := by decide +kernel
theorem dX5_at_6 : decode cX5_at 6 = .ok (.ifCond .eq 15, 3) := by decide +kernel
theorem dX5_at_9 : decode cX5_at 9 = .ok (.iload_n 3, 1) := by decide +kernel
theorem dX5_at_10 : decode cX5_at 10 = .ok (.i2l, 1) := by decide +kernel
theorem dX5_at_11 : decode cX5_at 11 = .ok (.lconst 0, 1) := by decide +kernel
theorem dX5_at_12 : decode cX5_at 12 = .ok (.ldc2_w 164, 3) := by decide +kernel
theorem dX5_at_15 : decode cX5_at 15 = .ok (.invokestatic 93, 3) := by decide +kernel
theorem dX5_at_18 : decode cX5_at 18 = .ok (.ifCond .ne 5, 3) := by decide +kernel
theorem dX5_at_21 : decode cX5_at 21 = .ok (.iconst 0, 1) := by decide +kernel
theorem dX5_at_22 : decode cX5_at 22 = .ok (.ireturn, 1) := by decide +kernel
theorem dX5_at_23 : decode cX5_at 23 = .ok (.aload_n 0, 1) := by decide +kernel
theorem dX5_at_24 : decode cX5_at 24 = .ok (.iload_n 1, 1) := by decide +kernel
theorem dX5_at_25 : decode cX5_at 25 = .ok (.iload_n 2, 1) := by decide +kernel
theorem dX5_at_26 : decode cX5_at 26 = .ok (.invokevirtual 160, 3) := by decide +kernel
theorem dX5_at_29 : decode cX5_at 29 = .ok (.aload_n 0, 1) := by decide +kernel
theorem dX5_at_30 : decode cX5_at 30 = .ok (.getfield 22, 3) := by decide +kernel
theorem dX5_at_33 : decode cX5_at 33 = .ok (.iload_n 3, 1) := by decide +kernel
theorem dX5_at_34 : decode cX5_at 34 = .ok (.laload, 1) := by decide +kernel
theorem dX5_at_35 : decode cX5_at 35 = .ok (.l2i, 1) := by decide +kernel
theorem dX5_at_36 : decode cX5_at 36 = .ok (.ireturn, 1) := by decide +kernel
theorem dX5_valueAt_0 : decode cX5_valueAt 0 = .ok (.lconst 0, 1) := by decide +kernel
theorem dX5_valueAt_1 : decode cX5_valueAt 1 = .ok (.lstore_n 3, 1) := by decide +kernel
theorem dX5_valueAt_2 : decode cX5_valueAt 2 = .ok (.bipush 63, 2) := by decide +kernel
theorem dX5_valueAt_4 : decode cX5_valueAt 4 = .ok (.istore 5, 2) := by decide +kernel
theorem dX5_valueAt_6 : decode cX5_valueAt 6 = .ok (.iload 5, 2) := by decide +kernel
theorem dX5_valueAt_8 : decode cX5_valueAt 8 = .ok (.ifCond .lt 22, 3) := by decide +kernel
theorem dX5_valueAt_11 : decode cX5_valueAt 11 = .ok (.lload_n 3, 1) := by decide +kernel
theorem dX5_valueAt_12 : decode cX5_valueAt 12 = .ok (.lload_n 1, 1) := by decide +kernel
theorem dX5_valueAt_13 : decode cX5_valueAt 13 = .ok (.lmul, 1) := by decide +kernel
theorem dX5_valueAt_14 : decode cX5_valueAt 14 = .ok (.aload_n 0, 1) := by decide +kernel
theorem dX5_valueAt_15 : decode cX5_valueAt 15 = .ok (.iload 5, 2) := by decide +kernel
theorem dX5_valueAt_17 : decode cX5_valueAt 17 = .ok (.laload, 1) := by decide +kernel
theorem dX5_valueAt_18 : decode cX5_valueAt 18 = .ok (.ladd, 1) := by decide +kernel
theorem dX5_valueAt_19 : decode cX5_valueAt 19 = .ok (.ldc2_w 66, 3) := by decide +kernel
theorem dX5_valueAt_22 : decode cX5_valueAt 22 = .ok (.lrem, 1) := by decide +kernel
theorem dX5_valueAt_23 : decode cX5_valueAt 23 = .ok (.lstore_n 3, 1) := by decide +kernel
theorem dX5_valueAt_24 : decode cX5_valueAt 24 = .ok (.iinc 5 (-1), 3) := by decide +kernel
theorem dX5_valueAt_27 : decode cX5_valueAt 27 = .ok (.goto (-21), 3) := by decide +kernel
theorem dX5_valueAt_30 : decode cX5_valueAt 30 = .ok (.lload_n 3, 1) := by decide +kernel
theorem dX5_valueAt_31 : decode cX5_valueAt 31 = .ok (.lreturn, 1) := by decide +kernel
set_option maxRecDepth 20000 in
theorem ggX5_value_X5_are : GoodIn wsX5_value wsX5_are := goodIn_r _ [7, 8, 9, 10, 11, 6, 12, 13, 14, 15, 16, 43, 44, 45, 46, 47, 48, 49, 50, 51, 52, 53, 54, 55, 56, 57, 58, 59, 60, 61, 62] (by decide +kernel) (by decide +kernel)
set_option maxRecDepth 20000 in
theorem gX5_value_X5_are : GoodIn wsX5_value (wsV RX5 114 RX5 yX5_are wsX5_are) := goodIn_app (goodIn_of _ (by decide +kernel)) ggX5_value_X5_are
set_option maxRecDepth 20000 in
theorem ggX5_value_X5_loadPart : GoodIn wsX5_value wsX5_loadPart := goodIn_r _ [20, 1, 21, 22, 23, 6, 24, 25, 26, 27, 28, 29, 30, 31, 32, 33, 43, 44, 45, 46, 47, 48, 49, 50, 51, 52, 53, 54, 55, 56, 57, 58, 59, 60, 61, 62] (by decide +kernel) (by decide +kernel)
set_option maxRecDepth 20000 in
theorem gX5_value_X5_loadPart : GoodIn wsX5_value (wsV RX5 160 RX5 yX5_loadPart wsX5_loadPart) := goodIn_app (goodIn_of _ (by decide +kernel)) ggX5_value_X5_loadPart
set_option maxRecDepth 20000 in
theorem ggX5_value_X5_modulo : GoodIn wsX5_value wsX5_modulo := goodIn_r _ [36, 2] (by decide +kernel) (by decide +kernel)
set_option maxRecDepth 20000 in
theorem gX5_value_X5_modulo : GoodIn wsX5_value (va_wsS RX5 80 yX5_modulo wsX5_modulo) := goodIn_app (goodIn_of _ (by decide +kernel)) ggX5_value_X5_modulo
set_option maxRecDepth 20000 in
theorem ggX5_value_X5_valueAt : GoodIn wsX5_value wsX5_valueAt := goodIn_r _ [39, 2] (by decide +kernel) (by decide +kernel)
set_option maxRecDepth 20000 in
theorem gX5_value_X5_valueAt : GoodIn wsX5_value (va_wsS RX5 166 yX5_valueAt wsX5_valueAt) := goodIn_app (goodIn_of _ (by decide +kernel)) ggX5_value_X5_valueAt
set_option maxRecDepth 20000 in
theorem ggX5_value_X5_inverse : GoodIn wsX5_value wsX5_inverse := goodIn_r _ [42, 2] (by decide +kernel) (by decide +kernel)
set_option maxRecDepth 20000 in
theorem gX5_value_X5_inverse : GoodIn wsX5_value (va_wsS RX5 76 yX5_inverse wsX5_inverse) := goodIn_app (goodIn_of _ (by decide +kernel)) ggX5_value_X5_inverse
theorem dX5_value_0 : decode cX5_value 0 = .ok (.aload_n 0, 1) := by decide +kernel
theorem dX5_value_1 : decode cX5_value 1 = .ok (.iload_n 1, 1) := by decide +kernel
theorem dX5_value_2 : decode cX5_value 2 = .ok (.iload_n 1, 1) := by decide +kernel
theorem dX5_value_3 : decode cX5_value 3 = .ok (.invokevirtual 114, 3) := by decide +kernel
theorem dX5_value_6 : decode cX5_value 6 = .ok (.ifCond .ne 5, 3) := by decide +kernel
theorem dX5_value_9 : decode cX5_value 9 = .ok (.iconst 0, 1) := by decide +kernel
theorem dX5_value_10 : decode cX5_value 10 = .ok (.ireturn, 1) := by decide +kernel
theorem dX5_value_11 : decode cX5_value 11 = .ok (.aload_n 0, 1) := by decide +kernel
theorem dX5_value_12 : decode cX5_value 12 = .ok (.iload_n 1, 1) := by decide +kernel
theorem dX5_value_13 : decode cX5_value 13 = .ok (.iconst 0, 1) := by decide +kernel
theorem dX5_value_14 : decode cX5_value 14 = .ok (.invokevirtual 160, 3) := by decide +kernel
theorem dX5_value_17 : decode cX5_value 17 = .ok (.aload_n 0, 1) := by decide +kernel
theorem dX5_value_18 : decode cX5_value 18 = .ok (.getfield 22, 3) := by decide +kernel
theorem dX5_value_21 : decode cX5_value 21 = .ok (.lload_n 2, 1) := by decide +kernel
theorem dX5_value_22 : decode cX5_value 22 = .ok (.invokestatic 80, 3) := by decide +kernel
theorem dX5_value_25 : decode cX5_value 25 = .ok (.invokestatic 166, 3) := by decide +kernel
theorem dX5_value_28 : decode cX5_value 28 = .ok (.lstore 4, 2) := by decide +kernel
theorem dX5_value_30 : decode cX5_value 30 = .ok (.lload 4, 2) := by decide +kernel
theorem dX5_value_32 : decode cX5_value 32 = .ok (.lconst 0, 1) := by decide +kernel
theorem dX5_value_33 : decode cX5_value 33 = .ok (.lcmp, 1) := by decide +kernel
theorem dX5_value_34 : decode cX5_value 34 = .ok (.ifCond .ne 5, 3) := by decide +kernel
theorem dX5_value_37 : decode cX5_value 37 = .ok (.iconst (-1), 1) := by decide +kernel
theorem dX5_value_38 : decode cX5_value 38 = .ok (.ireturn, 1) := by decide +kernel
theorem dX5_value_39 : decode cX5_value 39 = .ok (.aload_n 0, 1) := by decide +kernel
theorem dX5_value_40 : decode cX5_value 40 = .ok (.iload_n 1, 1) := by decide +kernel
theorem dX5_value_41 : decode cX5_value 41 = .ok (.iconst 1, 1) := by decide +kernel
theorem dX5_value_42 : decode cX5_value 42 = .ok (.invokevirtual 160, 3) := by decide +kernel
theorem dX5_value_45 : decode cX5_value 45 = .ok (.aload_n 0, 1) := by decide +kernel
theorem dX5_value_46 : decode cX5_value 46 = .ok (.getfield 22, 3) := by decide +kernel
theorem dX5_value_49 : decode cX5_value 49 = .ok (.lload_n 2, 1) := by decide +kernel
theorem dX5_value_50 : decode cX5_value 50 = .ok (.invokestatic 80, 3) := by decide +kernel
theorem dX5_value_53 : decode cX5_value 53 = .ok (.invokestatic 166, 3) := by decide +kernel
theorem dX5_value_56 : decode cX5_value 56 = .ok (.lload 4, 2) := by decide +kernel
theorem dX5_value_58 : decode cX5_value 58 = .ok (.invokestatic 76, 3) := by decide +kernel
theorem dX5_value_61 : decode cX5_value 61 = .ok (.lmul, 1) := by decide +kernel
theorem dX5_value_62 : decode cX5_value 62 = .ok (.ldc2_w 66, 3) := by decide +kernel
theorem dX5_value_65 : decode cX5_value 65 = .ok (.lrem, 1) := by decide +kernel
theorem dX5_value_66 : decode cX5_value 66 = .ok (.l2i, 1) := by decide +kernel
theorem dX5_value_67 : decode cX5_value 67 = .ok (.ireturn, 1) := by decide +kernel
set_option maxRecDepth 20000 in
theorem ggX5_same_X5_are : GoodIn wsX5_same wsX5_are := goodIn_r _ [7, 8, 9, 10, 11, 6, 12, 13, 14, 15, 16, 17, 18, 19, 20, 21, 22, 23, 24, 25, 26, 27, 28, 29, 30, 31, 32, 33, 34, 35, 36] (by decide +kernel) (by decide +kernel)
set_option maxRecDepth 20000 in
theorem gX5_same_X5_are : GoodIn wsX5_same (wsV RX5 114 RX5 yX5_are wsX5_are) := goodIn_app (goodIn_of _ (by decide +kernel)) ggX5_same_X5_are
theorem dX5_same_0 : decode cX5_same 0 = .ok (.aload_n 0, 1) := by decide +kernel
theorem dX5_same_1 : decode cX5_same 1 = .ok (.iload_n 1, 1) := by decide +kernel
theorem dX5_same_2 : decode cX5_same 2 = .ok (.iload_n 2, 1) := by decide +kernel
theorem dX5_same_3 : decode cX5_same 3 = .ok (.invokevirtual 114, 3) := by decide +kernel
theorem dX5_same_6 : decode cX5_same 6 = .ok (.ifCond .ne 5, 3) := by decide +kernel
theorem dX5_same_9 : decode cX5_same 9 = .ok (.iconst 0, 1) := by decide +kernel
theorem dX5_same_10 : decode cX5_same 10 = .ok (.ireturn, 1) := by decide +kernel
theorem dX5_same_11 : decode cX5_same 11 = .ok (.iconst 0, 1) := by decide +kernel
theorem dX5_same_12 : decode cX5_same 12 = .ok (.istore_n 3, 1) := by decide +kernel
theorem dX5_same_13 : decode cX5_same 13 = .ok (.iload_n 3, 1) := by decide +kernel
theorem dX5_same_14 : decode cX5_same 14 = .ok (.bipush 21, 2) := by decide +kernel
theorem dX5_same_16 : decode cX5_same 16 = .ok (.if_icmp .ge 61, 3) := by decide +kernel
theorem dX5_same_19 : decode cX5_same 19 = .ok (.aload_n 0, 1) := by decide +kernel
theorem dX5_same_20 : decode cX5_same 20 = .ok (.getfield 7, 3) := by decide +kernel
theorem dX5_same_23 : decode cX5_same 23 = .ok (.bipush 21, 2) := by decide +kernel
theorem dX5_same_25 : decode cX5_same 25 = .ok (.iload_n 1, 1) := by decide +kernel
theorem dX5_same_26 : decode cX5_same 26 = .ok (.imul, 1) := by decide +kernel
theorem dX5_same_27 : decode cX5_same 27 = .ok (.iload_n 3, 1) := by decide +kernel
theorem dX5_same_28 : decode cX5_same 28 = .ok (.iadd, 1) := by decide +kernel
theorem dX5_same_29 : decode cX5_same 29 = .ok (.iaload, 1) := by decide +kernel
theorem dX5_same_30 : decode cX5_same 30 = .ok (.aload_n 0, 1) := by decide +kernel
theorem dX5_same_31 : decode cX5_same 31 = .ok (.getfield 7, 3) := by decide +kernel
theorem dX5_same_34 : decode cX5_same 34 = .ok (.bipush 21, 2) := by decide +kernel
theorem dX5_same_36 : decode cX5_same 36 = .ok (.iload_n 2, 1) := by decide +kernel
theorem dX5_same_37 : decode cX5_same 37 = .ok (.imul, 1) := by decide +kernel
theorem dX5_same_38 : decode cX5_same 38 = .ok (.iload_n 3, 1) := by decide +kernel
theorem dX5_same_39 : decode cX5_same 39 = .ok (.iadd, 1) := by decide +kernel
theorem dX5_same_40 : decode cX5_same 40 = .ok (.iaload, 1) := by decide +kernel
theorem dX5_same_41 : decode cX5_same 41 = .ok (.if_icmp .ne 28, 3) := by decide +kernel
theorem dX5_same_44 : decode cX5_same 44 = .ok (.aload_n 0, 1) := by decide +kernel
theorem dX5_same_45 : decode cX5_same 45 = .ok (.getfield 13, 3) := by decide +kernel
theorem dX5_same_48 : decode cX5_same 48 = .ok (.bipush 21, 2) := by decide +kernel
theorem dX5_same_50 : decode cX5_same 50 = .ok (.iload_n 1, 1) := by decide +kernel
theorem dX5_same_51 : decode cX5_same 51 = .ok (.imul, 1) := by decide +kernel
theorem dX5_same_52 : decode cX5_same 52 = .ok (.iload_n 3, 1) := by decide +kernel
theorem dX5_same_53 : decode cX5_same 53 = .ok (.iadd, 1) := by decide +kernel
theorem dX5_same_54 : decode cX5_same 54 = .ok (.iaload, 1) := by decide +kernel
theorem dX5_same_55 : decode cX5_same 55 = .ok (.aload_n 0, 1) := by decide +kernel
theorem dX5_same_56 : decode cX5_same 56 = .ok (.getfield 13, 3) := by decide +kernel
theorem dX5_same_59 : decode cX5_same 59 = .ok (.bipush 21, 2) := by decide +kernel
theorem dX5_same_61 : decode cX5_same 61 = .ok (.iload_n 2, 1) := by decide +kernel
theorem dX5_same_62 : decode cX5_same 62 = .ok (.imul, 1) := by decide +kernel
theorem dX5_same_63 : decode cX5_same 63 = .ok (.iload_n 3, 1) := by decide +kernel
theorem dX5_same_64 : decode cX5_same 64 = .ok (.iadd, 1) := by decide +kernel
theorem dX5_same_65 : decode cX5_same 65 = .ok (.iaload, 1) := by decide +kernel
theorem dX5_same_66 : decode cX5_same 66 = .ok (.if_icmp .eq 5, 3) := by decide +kernel
theorem dX5_same_69 : decode cX5_same 69 = .ok (.iconst 0, 1) := by decide +kernel
theorem dX5_same_70 : decode cX5_same 70 = .ok (.ireturn, 1) := by decide +kernel
theorem dX5_same_71 : decode cX5_same 71 = .ok (.iinc 3 1, 3) := by decide +kernel
theorem dX5_same_74 : decode cX5_same 74 = .ok (.goto (-61), 3) := by decide +kernel
theorem dX5_same_77 : decode cX5_same 77 = .ok (.iconst 1, 1) := by decide +kernel
theorem dX5_same_78 : decode cX5_same 78 = .ok (.ireturn, 1) := by decide +kernel
theorem dX5_count_0 : decode cX5_count 0 = .ok (.aload_n 0, 1) := by decide +kernel
theorem dX5_count_1 : decode cX5_count 1 = .ok (.iconst 0, 1) := by decide +kernel
theorem dX5_count_2 : decode cX5_count 2 = .ok (.putfield 62, 3) := by decide +kernel
theorem dX5_count_5 : decode cX5_count 5 = .ok (.aload_n 0, 1) := by decide +kernel
theorem dX5_count_6 : decode cX5_count 6 = .ok (.getfield 90, 3) := by decide +kernel
theorem dX5_count_9 : decode cX5_count 9 = .ok (.ireturn, 1) := by decide +kernel
end
section
/-! ===== THE WORLDS OF THIS PROOF: a map from addresses to cells; every contract speaks of the whole map, so that no frame rule is wanted ===== -/
/-- the classes' numbers and slots, and the array classes: 0 int, 1 long, 2 boolean, 3 Polynomial, 4 Fraction -/
abbrev xG : Type := va_G × (Nat → ClassId)
abbrev xTys (G : xG) : List (ClassId × FieldType) := [(G.2 0, .int), (G.2 1, .long), (G.2 2, .boolean), (G.2 3, .object RX3), (G.2 4, .object RX1)]
def xK (G : xG) (U : State) : Prop := va_K G.1 vwCl (xTys G) U
theorem xK.moved {G : xG} {u U : State} (hvm : u.vm.Alike U.vm) (h : xK G u) : xK G U := va_K.moved hvm h
abbrev xM : Type := Nat → Option va_E
def xW (G : xG) (B : Nat) (w : xM) (H : Heap) : Prop := ∀ (a : Nat) (e : va_E), w a = some e → B ≤ a ∧ va_at G.1 vwCl (a, e) H
def xu (w : xM) (a : Nat) (e : va_E) : xM := fun q => if q = a then some e else w q
theorem xu_s (w : xM) (a : Nat) (e : va_E) : xu w a e a = some e := by simp [xu]
theorem xu_n (w : xM) {a b : Nat} (e : va_E) (h : b ≠ a) : xu w a e b = w b := by simp [xu, h]
theorem xu_u (w : xM) (a : Nat) (e f : va_E) : xu (xu w a e) a f = xu w a f := by
  funext q; by_cases h : q = a <;> simp [xu, h]
theorem xu_c (w : xM) {a b : Nat} (e f : va_E) (h : a ≠ b) : xu (xu w a e) b f = xu (xu w b f) a e := by
  funext q
  by_cases h1 : q = a
  · subst h1; simp [xu, h]
  · by_cases h2 : q = b
    · subst h2; simp [xu, h1]
    · simp [xu, h1, h2]
theorem xu_id (w : xM) {a : Nat} {e : va_E} (h : w a = some e) : xu w a e = w := by
  funext q; by_cases h1 : q = a
  · subst h1; simp [xu, h]
  · simp [xu, h1]
theorem xW.one {G : xG} {B : Nat} {w : xM} {H : Heap} {a : Nat} {e : va_E} (h : xW G B w H) (he : w a = some e) : va_P G.1 vwCl [(a, e)] H := fun k q hk => by
  match k, hk with
  | 0, hk => cases hk; exact (h a e he).2
  | k + 1, hk => simp at hk
theorem xW.set {G : xG} {B : Nat} {w : xM} {H H1 : Heap} {a : Nat} {e0 e : va_E} (h : xW G B w H) (ha : w a = some e0) (he : va_at G.1 vwCl (a, e) H1) (oq : ∀ q : Nat, q ≠ a → H1[q]? = H[q]?) : xW G B (xu w a e) H1 := by
  intro q f hq
  by_cases hqa : q = a
  · subst hqa; rw [xu_s] at hq; cases hq; exact ⟨(h q e0 ha).1, he⟩
  · rw [xu_n _ _ hqa] at hq
    exact ⟨(h q f hq).1, (h q f hq).2.kept (oq q hqa)⟩
theorem xW.push {G : xG} {B : Nat} {w : xM} {H H1 : Heap} {e : va_E} (h : xW G B w H) (hB : B ≤ H.size) (he : va_at G.1 vwCl (H.size, e) H1) (oq : ∀ q : Nat, q < H.size → H1[q]? = H[q]?) : w H.size = none ∧ xW G B (xu w H.size e) H1 := by
  have hn : w H.size = none := by
    cases hw : w H.size with
    | none => rfl
    | some f => exact absurd (h _ f hw).2.lt (Nat.lt_irrefl _)
  refine ⟨hn, fun q f hq => ?_⟩
  by_cases hqa : q = H.size
  · subst hqa; rw [xu_s] at hq; cases hq; exact ⟨hB, he⟩
  · rw [xu_n _ _ hqa] at hq
    exact ⟨(h q f hq).1, (h q f hq).2.kept (oq q (h q f hq).2.lt)⟩
theorem x_ne {w : xM} {a b : Nat} {e f : va_E} (ha : w a = some e) (hb : w b = some f) (h : e ≠ f) : a ≠ b := fun q => by
  subst q; rw [ha] at hb; exact h (Option.some.inj hb)
abbrev xA (B : Nat) : Nat → Prop := fun q => B ≤ q
abbrev xB (G : xG) (B : Nat) (w : xM) (U : State) : Prop := B ≤ U.heap.size ∧ xW G B w U.heap ∧ xK G U
abbrev xE (G : xG) (B : Nat) (u : xM) (t : State) : Prop := xW G B u t.heap ∧ xK G t
theorem x_blind {As : List Value} {G : xG} {B : Nat} {w : xM} : FrameBlind (va_Pc As (xB G B w)) := fun a U g mk q => by
  obtain ⟨q0, q1, q2, q3⟩ := q
  exact ⟨q0, q1, q2, xK.moved (u := U) (U := U.calling g mk a) (Vm.Alike.refl U.vm) q3⟩
/-- what a body knows of its call: the machine, its code, its words, the tables -/
def xC (p : Program) (s : State) (m : MethodId) (args : Array Value) (meth : Method) (c : Code) (cc : ByteArray) (nL : Nat) (rt : Option FieldType) (Ts : List Cond) (own mn : String) (G : xG) (B : Nat) : Prop :=
  p.tables.exec = Jvm.exec ∧ c.code = cc ∧ meth.sig.returnType = rt ∧ c.maxLocals = nL ∧ s.vm.findClass own = some m.cls ∧ (∀ w ∈ Ts, w.before args s = true) ∧ xK G s ∧ B ≤ s.heap.size ∧ meth.locks = false ∧ meth.name = mn
section XW
variable {p : Program} {l : Launch} {e : Env} {R : Room} {s : State} {m : MethodId} {args : Array Value} {below : List Frame} {meth : Method} {c : Code} {H : Heap} {locs : List Loc} {cells slots : Nat} {Q : State → Prop}
variable {cc : ByteArray} {nL pc : Nat} {rt : Option FieldType} {Ts : List Cond} {own mn : String} {G : xG} {B : Nat} {w u : xM} {ls : Array Slot} {rest st0 : List Value} {a : Nat} {mc ms : Nat}
theorem xw_start {y : MethodName} {ws' : List Cond} {rm : Room} {As : List Value} {Qc : Array Value → State → Outcome → State → Prop} (hy : plainName y.cls = true) (hcls : y.cls = own) (hnm : y.name = mn) (hw : Ts = Cond.code y cc nL rt :: ws') (hn : (lg_sl As).length ≤ nL)
    (body : ∀ (p : Program) (e : Env) (s : State) (m : MethodId) (below : List Frame) (meth : Method) (c : Code) (ls : Array Slot), xC p s m As.toArray meth c cc nL rt Ts own mn G B → lv_has ls nL (lv_args 0 As) → xW G B w s.heap → va_S (xA B) s.heap s.heap [] →
      W p l e rm s m As.toArray below meth c s.heap [] 0 0 (MQ below Qc As.toArray s mc ms (xA B)) (F0 m 0 ls [])) : Met l y Ts rm (va_Pc As (xB G B w)) Qc mc ms (xA B) := by
  refine Met.ofW (cc := cc) (maxL := nL) (ret := rt) hy hw ?_
  intro p e s m args below meth c s₁ Bd hml hv
  obtain ⟨rfl, hB, hW, hK⟩ := hv
  have hl := lv_entry As (n := nL) hn
  rw [lg_entry_eq]
  subst hcls
  subst hnm
  exact body p e s m below meth c _ ⟨Bd.exec, Bd.bytes, Bd.returns, hml, findClass_of_methodNamed Bd.named, atoms_spec (ws := Ts) Bd.pre, hK, hB, Bd.notSynchronized, (name_of_methodNamed Bd.named Bd.method).1⟩ hl hW va_S.rf
theorem xw_get (C : xC p s m args meth c cc nL rt Ts own mn G B) (hw : xW G B w H) {ci : Nat} {fs : List Value} (he : w a = some (.inr (ci, fs))) {Cn : String} {T : u_T} {N index : Nat} (hc : vwCl[ci]? = some (Cn, T, N)) (hin : ∀ w ∈ u_ws Cn T N, w ∈ Ts) (k : Nat) (hk : k < N) (hlink : Cond.fieldLink own index (T k).1 (T k).2.1 (T k).2.2.1 ∈ Ts) {v : Value} (hv : fs[k]? = some v) (hdg : decode cc pc = .ok (.getfield index, 3))
    (kk : W p l e R s m args below meth c H locs cells slots Q (F0 m (pc + 3) ls (v :: rest))) : W p l e R s m args below meth c H locs cells slots Q (F0 m pc ls (.ref a :: rest)) := by
  obtain ⟨hx, hb, hr, hml, hown, hts, hK, hB, hlk, hmn⟩ := C
  exact va_get (D := G.1) (ci := ci) (ref := (T k).1) hx hb hts hin hown hK (hw.one he) 0 rfl hc k hk (hts _ hlink) (fun _ h => h) hv hdg kk
theorem xw_put (C : xC p s m args meth c cc nL rt Ts own mn G B) (hw : xW G B w H) (hS0 : va_S (xA B) s.heap H locs) {ci : Nat} {fs : List Value} (he : w a = some (.inr (ci, fs))) {Cn : String} {T : u_T} {N index : Nat} (hc : vwCl[ci]? = some (Cn, T, N)) (hin : ∀ w ∈ u_ws Cn T N, w ∈ Ts) (ty0 : Nat → FieldType) (hty : ∀ k, k < N → parseFieldDescriptor (T k).2.2.1 = some (ty0 k)) (hnm : ∀ a, a < N → ∀ b, b < N → a ≠ b → (T a).2.1 ≠ (T b).2.1) (k : Nat) (hk : k < N) (hlink : Cond.fieldLink own index (T k).1 (T k).2.1 (T k).2.2.1 ∈ Ts) (hfin : (T k).2.2.2 = false) {ty : FieldType} {v : Value} (hd : parseFieldDescriptor (T k).2.2.1 = some ty) (hn : narrow ty v = v) (hfit : fits ty v = true) (hl : k < fs.length)
    (hdg : decode cc pc = .ok (.putfield index, 3)) (kk : ∀ (H1 : Heap) (locs1 : List Loc), xW G B (xu w a (.inr (ci, fs.set k v))) H1 → va_S (xA B) s.heap H1 locs1 → W p l e R s m args below meth c H1 locs1 cells slots Q (F0 m (pc + 3) ls rest)) : W p l e R s m args below meth c H locs cells slots Q (F0 m pc ls (v :: .ref a :: rest)) := by
  obtain ⟨hx, hb, hr, hml, hown, hts, hK, hB, hlk, hmn⟩ := C
  have hap := va_apart (own := own) hts hin ty0 hty hnm hK hc
  obtain ⟨r, h1, cell, q1, q2, q3, q4⟩ := (hw a _ he).2
  have hr : r = (Cn, T, N) := Option.some.inj (h1.symm.trans hc)
  subst hr
  obtain ⟨hS, hfc, kC, hkC, hkind⟩ := hK.1 ci _ hc
  obtain ⟨cf, kf, fi, f, hi, hsl⟩ := hS k hk
  have hlay := hts _ (hin _ (u_in_lay hk))
  unfold u_lay at hlay
  rw [if_neg (by rw [hfin]; decide)] at hlay
  have hst := (u_facts hfc hkC (u_lays hts hin hk) hi).1
  have h6 := u_store hfc hkC hkind hlay hi hd hn hfit
  refine W.putK hx hb (f := f) ⟨hown, hts _ hlink, ⟨_, _, _, hi⟩, hst⟩ (by rw [q2]; exact h6) q1 q3 (by rw [hsl]; exact k2_hasslot (q4 k hk)) rfl rfl hdg fun H' e1 e2 e3 => ?_
  rw [hsl] at e1 ⊢
  exact kk H' _ (hw.set he ⟨_, hc, t_OB.to (V := updV (vp_V fs) k v) ⟨_, e1, q2, q3, t_set q4 hap hk v⟩ (fun j _ => vp_updV_set hl v j)⟩ e3) (hS0.put e2 e3 (hw a _ he).1)
theorem xw_putF (C : xC p s m args meth c cc nL rt Ts own mn G B) (hw : xW G B w H) (hS0 : va_S (xA B) s.heap H locs) {ci : Nat} {fs : List Value} (he : w a = some (.inr (ci, fs))) {Cn : String} {T : u_T} {N index : Nat} (hc : vwCl[ci]? = some (Cn, T, N)) (hin : ∀ w ∈ u_ws Cn T N, w ∈ Ts) (ty0 : Nat → FieldType) (hty : ∀ k, k < N → parseFieldDescriptor (T k).2.2.1 = some (ty0 k)) (hnm : ∀ a, a < N → ∀ b, b < N → a ≠ b → (T a).2.1 ≠ (T b).2.1) (k : Nat) (hk : k < N) (hlink : Cond.fieldLink own index (T k).1 (T k).2.1 (T k).2.2.1 ∈ Ts) (hfin : (T k).2.2.2 = true) (hmn : mn = "<init>") (hdecl : (T k).1 = own) {ty : FieldType} {v : Value} (hd : parseFieldDescriptor (T k).2.2.1 = some ty) (hn : narrow ty v = v) (hfit : fits ty v = true) (hl : k < fs.length)
    (hdg : decode cc pc = .ok (.putfield index, 3)) (kk : ∀ (H1 : Heap) (locs1 : List Loc), xW G B (xu w a (.inr (ci, fs.set k v))) H1 → va_S (xA B) s.heap H1 locs1 → W p l e R s m args below meth c H1 locs1 cells slots Q (F0 m (pc + 3) ls rest)) : W p l e R s m args below meth c H locs cells slots Q (F0 m pc ls (v :: .ref a :: rest)) := by
  obtain ⟨hx, hb, hr, hml, hown, hts, hK, hB, hlk, hmn'⟩ := C
  have hap := va_apart (own := own) hts hin ty0 hty hnm hK hc
  obtain ⟨r, h1, cell, q1, q2, q3, q4⟩ := (hw a _ he).2
  have hr : r = (Cn, T, N) := Option.some.inj (h1.symm.trans hc)
  subst hr
  obtain ⟨hS, hfc, kC, hkC, hkind⟩ := hK.1 ci _ hc
  obtain ⟨cf, kf, fi, f, hi, hsl⟩ := hS k hk
  have hlay := hts _ (hin _ (u_in_lay hk))
  unfold u_lay at hlay
  rw [if_pos hfin] at hlay
  have hst := (u_facts hfc hkC (u_lays hts hin hk) hi).1
  have hcf : m.cls = cf := by
    obtain ⟨_, _, c', _, _, _, -, -, hf', -, -, -, hown2, -⟩ := Cond.laysFinal_spec hlay
    have e1 : c' = cf := by have := hi.symm.trans hf'; simp at this; exact this.1.symm
    rw [hdecl] at hown2
    rw [← e1]; exact Option.some.inj (hown.symm.trans hown2)
  have h6 := u_fits hfc hkC hkind (Or.inr hlay) hi hd hn hfit
  refine W.putFinK hx hb hown (hts _ hlink) hi hst hcf (hmn'.trans hmn) (by rw [q2]; exact h6) q1 q3 (by rw [hsl]; exact k2_hasslot (q4 k hk)) rfl rfl hdg fun H' e1 e2 e3 => ?_
  rw [hsl] at e1 ⊢
  exact kk H' _ (hw.set he ⟨_, hc, t_OB.to (V := updV (vp_V fs) k v) ⟨_, e1, q2, q3, t_set q4 hap hk v⟩ (fun j _ => vp_updV_set hl v j)⟩ e3) (hS0.put e2 e3 (hw a _ he).1)
theorem xw_iald (C : xC p s m args meth c cc nL rt Ts own mn G B) (hw : xW G B w H) {n : Nat} {f : Nat → Int32} (he : w a = some (.inl (G.2 0, n, .inl f))) {i : Int32} (hin : vp_in i n) (hdg : decode cc pc = .ok (.iaload, 1))
    (kk : W p l e R s m args below meth c H locs cells slots Q (F0 m (pc + 1) ls (.int (f i.toNatClampNeg) :: rest))) : W p l e R s m args below meth c H locs cells slots Q (F0 m pc ls (.int i :: .ref a :: rest)) := by
  obtain ⟨hx, hb, hr, hml, hown, hts, hK, hB, hlk, hmn⟩ := C
  exact va_iald (tys := xTys G) hx hb hK (hw.one he) 0 0 rfl rfl hin hdg kk
theorem xw_lald (C : xC p s m args meth c cc nL rt Ts own mn G B) (hw : xW G B w H) {n : Nat} {f : Nat → Int64} (he : w a = some (.inl (G.2 1, n, .inr (.inl f)))) {i : Int32} (hin : vp_in i n) (hdg : decode cc pc = .ok (.laload, 1))
    (kk : W p l e R s m args below meth c H locs cells slots Q (F0 m (pc + 1) ls (.long (f i.toNatClampNeg) :: rest))) : W p l e R s m args below meth c H locs cells slots Q (F0 m pc ls (.int i :: .ref a :: rest)) := by
  obtain ⟨hx, hb, hr, hml, hown, hts, hK, hB, hlk, hmn⟩ := C
  exact va_lald (tys := xTys G) hx hb hK (hw.one he) 0 1 rfl rfl hin hdg kk
theorem xw_zald (C : xC p s m args meth c cc nL rt Ts own mn G B) (hw : xW G B w H) {n : Nat} {f : Nat → Int32} (he : w a = some (.inl (G.2 2, n, .inl f))) {i : Int32} (hin : vp_in i n) (hdg : decode cc pc = .ok (.baload, 1))
    (kk : W p l e R s m args below meth c H locs cells slots Q (F0 m (pc + 1) ls (.int (f i.toNatClampNeg) :: rest))) : W p l e R s m args below meth c H locs cells slots Q (F0 m pc ls (.int i :: .ref a :: rest)) := by
  obtain ⟨hx, hb, hr, hml, hown, hts, hK, hB, hlk, hmn⟩ := C
  exact va_zald (tys := xTys G) hx hb hK (hw.one he) 0 2 rfl rfl hin hdg kk
theorem xw_aald (C : xC p s m args meth c cc nL rt Ts own mn G B) (hw : xW G B w H) (t0 : Nat) {cA : ClassId} {Cn : String} {n : Nat} {f : Nat → Option Nat} (ht : (xTys G)[t0]? = some (cA, .object Cn)) (he : w a = some (.inl (cA, n, .inr (.inr (.inr (.inr f)))))) {i : Int32} (hin : vp_in i n) (hdg : decode cc pc = .ok (.aaload, 1))
    (kk : W p l e R s m args below meth c H locs cells slots Q (F0 m (pc + 1) ls (va_rf (f i.toNatClampNeg) :: rest))) : W p l e R s m args below meth c H locs cells slots Q (F0 m pc ls (.int i :: .ref a :: rest)) := by
  obtain ⟨hx, hb, hr, hml, hown, hts, hK, hB, hlk, hmn⟩ := C
  exact va_aldq (tys := xTys G) hx hb hK (hw.one he) 0 t0 rfl ht hin hdg kk
theorem xw_alen (C : xC p s m args meth c cc nL rt Ts own mn G B) (hw : xW G B w H) (t0 : Nat) {cA : ClassId} {x : vp_A} {ty : FieldType} (ht : (xTys G)[t0]? = some (cA, ty)) (he : w a = some (.inl (cA, x))) {N : Nat} (hN : x.1 = N) (hdg : decode cc pc = .ok (.arraylength, 1))
    (kk : W p l e R s m args below meth c H locs cells slots Q (F0 m (pc + 1) ls (.int (nI N) :: rest))) : W p l e R s m args below meth c H locs cells slots Q (F0 m pc ls (.ref a :: rest)) := by
  obtain ⟨hx, hb, hr, hml, hown, hts, hK, hB, hlk, hmn⟩ := C
  subst hN
  exact va_alen (tys := xTys G) hx hb hK (hw.one he) 0 t0 rfl ht (v := nI x.1) rfl hdg kk
theorem xw_iast (C : xC p s m args meth c cc nL rt Ts own mn G B) (hw : xW G B w H) (hS : va_S (xA B) s.heap H locs) {n : Nat} {f : Nat → Int32} (he : w a = some (.inl (G.2 0, n, .inl f))) {i x : Int32} (hin : vp_in i n) (hdg : decode cc pc = .ok (.iastore, 1))
    (kk : ∀ (H1 : Heap) (locs1 : List Loc), xW G B (xu w a (.inl (G.2 0, n, .inl (upd f i.toNatClampNeg x)))) H1 → va_S (xA B) s.heap H1 locs1 → W p l e R s m args below meth c H1 locs1 cells slots Q (F0 m (pc + 1) ls rest)) : W p l e R s m args below meth c H locs cells slots Q (F0 m pc ls (.int x :: .int i :: .ref a :: rest)) := by
  obtain ⟨hx, hb, hr, hml, hown, hts, hK, hB, hlk, hmn⟩ := C
  refine W.iast hx hb (hw a _ he).2 ((hK.2 0 _ rfl).1 n (fun j => .int (f j))) (fun q => by cases q) (by show ¬ (i < 0 ∨ (arrV _ _ _).slots.size ≤ _); rw [arrV_size]; exact hin) rfl rfl hdg fun H1 e z oq => ?_
  refine kk H1 _ (hw.set he ?_ oq) (hS.put z oq (hw a _ he).1)
  show H1[a]? = some (vp_cell _ _)
  rw [e]
  show some ((vp_cell _ _).setSlot _ _) = _
  rw [vp_cell_i, vp_cell_i, arrV_store]
  congr 2
  funext q
  by_cases hq : q = i.toNatClampNeg
  · subst hq
    simp [updV, upd]
  · simp [updV, upd, hq]
theorem xw_last (C : xC p s m args meth c cc nL rt Ts own mn G B) (hw : xW G B w H) (hS : va_S (xA B) s.heap H locs) {n : Nat} {f : Nat → Int64} (he : w a = some (.inl (G.2 1, n, .inr (.inl f)))) {i : Int32} {x : Int64} (hin : vp_in i n) (hdg : decode cc pc = .ok (.lastore, 1))
    (kk : ∀ (H1 : Heap) (locs1 : List Loc), xW G B (xu w a (.inl (G.2 1, n, .inr (.inl (vp_updL f i.toNatClampNeg x))))) H1 → va_S (xA B) s.heap H1 locs1 → W p l e R s m args below meth c H1 locs1 cells slots Q (F0 m (pc + 1) ls rest)) : W p l e R s m args below meth c H locs cells slots Q (F0 m pc ls (.long x :: .int i :: .ref a :: rest)) := by
  obtain ⟨hx, hb, hr, hml, hown, hts, hK, hB, hlk, hmn⟩ := C
  refine W.last hx hb (hw a _ he).2 ((hK.2 1 _ rfl).1 n (fun j => .long (f j))) (fun q => by cases q) (by show ¬ (i < 0 ∨ (arrV _ _ _).slots.size ≤ _); rw [arrV_size]; exact hin) rfl rfl hdg fun H1 e z oq => ?_
  refine kk H1 _ (hw.set he ?_ oq) (hS.put z oq (hw a _ he).1)
  show H1[a]? = some (vp_cell _ _)
  rw [e]
  show some ((vp_cell _ _).setSlot _ _) = _
  rw [vp_cell_l, vp_cell_l, arrV_store]
  congr 2
  funext q
  by_cases hq : q = i.toNatClampNeg
  · subst hq
    simp [updV, vp_updL]
  · simp [updV, vp_updL, hq]
theorem xw_zast (C : xC p s m args meth c cc nL rt Ts own mn G B) (hw : xW G B w H) (hS : va_S (xA B) s.heap H locs) {n : Nat} {f : Nat → Int32} (he : w a = some (.inl (G.2 2, n, .inl f))) {i x : Int32} (hin : vp_in i n) (hdg : decode cc pc = .ok (.bastore, 1))
    (kk : ∀ (H1 : Heap) (locs1 : List Loc), xW G B (xu w a (.inl (G.2 2, n, .inl (upd f i.toNatClampNeg (vp_nar .boolean x))))) H1 → va_S (xA B) s.heap H1 locs1 → W p l e R s m args below meth c H1 locs1 cells slots Q (F0 m (pc + 1) ls rest)) : W p l e R s m args below meth c H locs cells slots Q (F0 m pc ls (.int x :: .int i :: .ref a :: rest)) := by
  obtain ⟨hx, hb, hr, hml, hown, hts, hK, hB, hlk, hmn⟩ := C
  refine W.zast hx hb (hw a _ he).2 ((hK.2 2 _ rfl).1 n (fun j => .int (f j))) (fun q => by cases q) (by show ¬ (i < 0 ∨ (arrV _ _ _).slots.size ≤ _); rw [arrV_size]; exact hin) rfl rfl hdg fun H1 e z oq => ?_
  refine kk H1 _ (hw.set he ?_ oq) (hS.put z oq (hw a _ he).1)
  show H1[a]? = some (vp_cell _ _)
  rw [e]
  show some ((vp_cell _ _).setSlot _ _) = _
  rw [vp_cell_i, vp_cell_i, arrV_store]
  congr 2
  funext q
  by_cases hq : q = i.toNatClampNeg
  · subst hq
    simp [updV, upd, vp_nar]
    try rfl
  · simp [updV, upd, hq]
theorem xw_aast (C : xC p s m args meth c cc nL rt Ts own mn G B) (hw : xW G B w H) (hS : va_S (xA B) s.heap H locs) (t0 ci : Nat) {cA : ClassId} {r : vw_C} {n v : Nat} {vs : List Value} {f : Nat → Option Nat} (ht : (xTys G)[t0]? = some (cA, .object r.1)) (he : w a = some (.inl (cA, n, .inr (.inr (.inr (.inr f)))))) (hv : w v = some (.inr (ci, vs))) (hc : vwCl[ci]? = some r) {i : Int32} (hin : vp_in i n) (hdg : decode cc pc = .ok (.aastore, 1))
    (kk : ∀ (H1 : Heap) (locs1 : List Loc), xW G B (xu w a (.inl (cA, n, .inr (.inr (.inr (.inr (va_up f i.toNatClampNeg (some v)))))))) H1 → va_S (xA B) s.heap H1 locs1 → W p l e R s m args below meth c H1 locs1 cells slots Q (F0 m (pc + 1) ls rest)) : W p l e R s m args below meth c H locs cells slots Q (F0 m pc ls (.ref v :: .int i :: .ref a :: rest)) := by
  obtain ⟨hx, hb, hr, hml, hown, hts, hK, hB, hlk, hmn⟩ := C
  have hlt : i.toNatClampNeg < n := Nat.not_le.mp fun q => hin (Or.inr q)
  have h0 : ¬ i < 0 := fun q => hin (Or.inl q)
  obtain ⟨r', hr', cellV, g1, g2, g3, -⟩ := (hw v _ hv).2
  have hcls := (hK.1 ci r hc).2
  obtain ⟨kA, comp, k1, k2, k3, -⟩ := (hK.2 t0 _ ht).2
  have hcomp : comp = G.1.1 ci := Option.some.inj (k3.symm.trans hcls.1)
  subst hcomp
  obtain ⟨kC, hkC, hkk⟩ := hcls.2
  refine W.aast hx hb (hw a _ he).2 (fun q h => by cases h) (fun h => by cases h) k1 k2 rfl hkC ⟨h0, by show _ < (arrV _ _ _).slots.size; rw [arrV_size]; exact hlt⟩ g1 (fun q h => by rw [g3] at h; cases h) (by rw [g2]; exact hkC) (by rw [g2]; exact va_assign hcls) rfl rfl hdg fun H1 e z oq => ?_
  refine kk H1 _ (hw.set he ?_ oq) (hS.put z oq (hw a _ he).1)
  show H1[a]? = some (vp_cell _ _)
  rw [e]
  show some ((vp_cell _ _).setSlot _ _) = _
  rw [vp_cell_q, vp_cell_q, arrV_store]
  congr 2
  funext q
  by_cases hq : q = i.toNatClampNeg
  · subst hq
    simp [updV, va_up, va_rf]
  · simp [updV, va_up, hq]
theorem xw_new (C : xC p s m args meth c cc nL rt Ts own mn G B) (hw : xW G B w H) (hS : va_S (xA B) s.heap H locs) {ci : Nat} {Cn : String} {T : u_T} {N index : Nat} (hc : vwCl[ci]? = some (Cn, T, N)) (hin : ∀ w ∈ u_ws Cn T N, w ∈ Ts) (ty : Nat → FieldType) (hty : ∀ k, k < N → parseFieldDescriptor (T k).2.2.1 = some (ty k)) (hcl : Cond.classLink own index Cn ∈ Ts) (hinst : Cond.instantiable Cn N ∈ Ts) (hini : Cond.initialized Cn ∈ Ts)
    {fs : List Value} (hfs : ∀ j, j < N → defaultValue (ty j) = vp_V fs j) (hcells : cells + 1 ≤ R.cells) (hslots : slots + N ≤ R.slots) (hdg : decode cc pc = .ok (.new index, 3))
    (kk : ∀ (q : Nat) (H1 : Heap), w q = none → xW G B (xu w q (.inr (ci, fs))) H1 → va_S (xA B) s.heap H1 locs → W p l e R s m args below meth c H1 locs (cells + 1) (slots + N) Q (F0 m (pc + 3) ls (.ref q :: rest))) : W p l e R s m args below meth c H locs cells slots Q (F0 m pc ls rest) := by
  obtain ⟨hx, hb, hr, hml, hown, hts, hK, hB, hlk, hmn⟩ := C
  have hKn := hK.1 ci _ hc
  refine W.newcK hx hb hown (hts _ hcl) (hts _ hinst) (hts _ hini) rfl hdg hcells hslots hKn.2.1 rfl fun H1 kC hkC e1 z1 o1 => ?_
  obtain ⟨h1, h2⟩ := hw.push (H1 := H1) (e := .inr (ci, fs)) (Nat.le_trans hB hS.1) ⟨_, hc, (u_born ty hts hin hKn hkC e1 hty).to hfs⟩ o1
  exact kk H.size H1 h1 h2 ⟨Nat.le_trans hS.1 (by omega), fun x h1 h2 => (o1 x (Nat.lt_of_lt_of_le h1 hS.1)).trans (hS.2.1 x h1 h2), hS.2.2⟩
theorem xw_newa (C : xC p s m args meth c cc nL rt Ts own mn G B) (hw : xW G B w H) (hS : va_S (xA B) s.heap H locs) (t0 : Nat) {atype : ArrayType} {cT : ClassId} (harr : Cond.arrayClass (newarray.typeOf atype) ∈ Ts) (ht : (xTys G)[t0]? = some (cT, newarray.typeOf atype))
    {n : Int32} {N' : Nat} {a0 : vp_A} (ha : ∀ cA : ClassId, vp_cell cA a0 = arrV cA N' (fun _ => defaultValue (newarray.typeOf atype))) (hn : ¬ n < 0) (hN : n.toNatClampNeg = N') (hbytes : N' * componentBytes (newarray.typeOf atype) ≤ 536870912) (hcells : cells + 1 ≤ R.cells) (hslots : slots + N' ≤ R.slots) (hdg : decode cc pc = .ok (.newarray atype, 2))
    (kk : ∀ (q : Nat) (H1 : Heap), w q = none → xW G B (xu w q (.inl (cT, a0))) H1 → va_S (xA B) s.heap H1 locs → W p l e R s m args below meth c H1 locs (cells + 1) (slots + N') Q (F0 m (pc + 2) ls (.ref q :: rest))) : W p l e R s m args below meth c H locs cells slots Q (F0 m pc ls (.int n :: rest)) := by
  obtain ⟨hx, hb, hr, hml, hown, hts, hK, hB, hlk, hmn⟩ := C
  refine va_newaK hx hb (hts _ harr) rfl hdg rfl hn hN hbytes hcells hslots rfl fun H1 cA e1 z1 o1 hAr hNm => ?_
  have hR := (hK.2 t0 _ ht).2
  have hR2 : s.vm.findClass ("[" ++ (newarray.typeOf atype).toString) = some cT := by cases atype <;> exact hR
  have hcA : cA = cT := Option.some.inj (hNm.symm.trans hR2)
  subst hcA
  obtain ⟨h1, h2⟩ := hw.push (H1 := H1) (e := .inl (cA, a0)) (Nat.le_trans hB hS.1) (by show H1[H.size]? = some (vp_cell _ _); rw [ha]; exact e1) o1
  exact kk H.size H1 h1 h2 ⟨Nat.le_trans hS.1 (by omega), fun x h1 h2 => (o1 x (Nat.lt_of_lt_of_le h1 hS.1)).trans (hS.2.1 x h1 h2), hS.2.2⟩
theorem xw_newq (C : xC p s m args meth c cc nL rt Ts own mn G B) (hw : xW G B w H) (hS : va_S (xA B) s.heap H locs) (t0 : Nat) {cT : ClassId} {Cn : String} {index : Nat} (hclink : Cond.classLink own index Cn ∈ Ts) (hover : Cond.arrayOver (.object Cn) ∈ Ts) (ht : (xTys G)[t0]? = some (cT, .object Cn))
    {n : Int32} {N' : Nat} (hn : ¬ n < 0) (hN : n.toNatClampNeg = N') (hbytes : N' * 4 ≤ 536870912) (hcells : cells + 1 ≤ R.cells) (hslots : slots + N' ≤ R.slots) (hdg : decode cc pc = .ok (.anewarray index, 3))
    (kk : ∀ (q : Nat) (H1 : Heap), w q = none → xW G B (xu w q (.inl (cT, N', .inr (.inr (.inr (.inr (fun _ => none))))))) H1 → va_S (xA B) s.heap H1 locs → W p l e R s m args below meth c H1 locs (cells + 1) (slots + N') Q (F0 m (pc + 3) ls (.ref q :: rest))) : W p l e R s m args below meth c H locs cells slots Q (F0 m pc ls (.int n :: rest)) := by
  obtain ⟨hx, hb, hr, hml, hown, hts, hK, hB, hlk, hmn⟩ := C
  subst hN
  refine W.anew hx hb hown (hts _ hclink) (hts _ hover) rfl hdg rfl hn hbytes hcells hslots fun cA kA comp f1 f2 f3 f4 => ?_
  generalize hH1 : H.push ({ cls := cA, slots := Array.replicate n.toNatClampNeg .null, vm := .none } : Cell) = H1
  have z1 : H1.size = H.size + 1 := by rw [← hH1, Array.size_push]
  have e1 : H1[H.size]? = some (arrV cA n.toNatClampNeg (fun _ => .null)) := by rw [← hH1, Array.getElem?_push_size, ← arrV_new]
  have o1 : ∀ q : Nat, q < H.size → H1[q]? = H[q]? := fun q hq => by rw [← hH1, Array.getElem?_push, if_neg (Nat.ne_of_lt hq)]
  obtain ⟨kT, cpT, j1, j2, j3, j4⟩ := (hK.2 t0 _ ht).2
  have hcA : cA = cT := Option.some.inj (f1.symm.trans j4)
  subst hcA
  obtain ⟨h1, h2⟩ := hw.push (H1 := H1) (e := .inl (cA, n.toNatClampNeg, .inr (.inr (.inr (.inr (fun _ => none)))))) (Nat.le_trans hB hS.1) (by show H1[H.size]? = some (vp_cell _ _); rw [vp_cell_q]; exact e1) o1
  exact kk H.size H1 h1 h2 ⟨Nat.le_trans hS.1 (by omega), fun x h1 h2 => (o1 x (Nat.lt_of_lt_of_le h1 hS.1)).trans (hS.2.1 x h1 h2), hS.2.2⟩
/-! returns -/
theorem xw_iret {v : Int32} {post : Int32 → xM → Prop} (C : xC p s m args meth c cc nL (some .int) Ts own mn G B) (hw : xW G B u H) (hS : va_S (xA B) s.heap H locs) (hc : cells ≤ mc) (hs : slots ≤ ms) (hp : post v u) (hdg : decode cc pc = .ok (.ireturn, 1)) :
    W p l e R s m args below meth c H locs cells slots (MQ below (va_Qi post (xE G B) (xA B)) args s mc ms (xA B)) (F0 m pc ls [.int v]) := by
  obtain ⟨hx, hb, hr, hml, hown, hts, hK, hB, hlk, hmn⟩ := C
  refine W.widen hc hs ?_
  exact W.iret hx hb hr (fun t ht hW => ⟨⟨v, u, rfl, hp, by rw [ht]; exact hw, xK.moved hW.alike hK⟩, hS.F ht⟩) hS.2.2 hdg hlk
theorem xw_zret {v : Int32} {post : Int32 → xM → Prop} (C : xC p s m args meth c cc nL (some .boolean) Ts own mn G B) (hw : xW G B u H) (hS : va_S (xA B) s.heap H locs) (hc : cells ≤ mc) (hs : slots ≤ ms) (hv : v = 0 ∨ v = 1) (hp : post v u) (hdg : decode cc pc = .ok (.ireturn, 1)) :
    W p l e R s m args below meth c H locs cells slots (MQ below (va_Qi post (xE G B) (xA B)) args s mc ms (xA B)) (F0 m pc ls [.int v]) := by
  obtain ⟨hx, hb, hr, hml, hown, hts, hK, hB, hlk, hmn⟩ := C
  refine W.widen hc hs ?_
  exact W.zret hx hb hr (by rcases hv with rfl | rfl <;> rfl) (fun t ht hW => ⟨⟨v, u, rfl, hp, by rw [ht]; exact hw, xK.moved hW.alike hK⟩, hS.F ht⟩) hS.2.2 hdg hlk
theorem xw_lret {v : Int64} {post : Int64 → xM → Prop} (C : xC p s m args meth c cc nL (some .long) Ts own mn G B) (hw : xW G B u H) (hS : va_S (xA B) s.heap H locs) (hc : cells ≤ mc) (hs : slots ≤ ms) (hp : post v u) (hdg : decode cc pc = .ok (.lreturn, 1)) :
    W p l e R s m args below meth c H locs cells slots (MQ below (va_Ql post (xE G B) (xA B)) args s mc ms (xA B)) (F0 m pc ls [.long v]) := by
  obtain ⟨hx, hb, hr, hml, hown, hts, hK, hB, hlk, hmn⟩ := C
  refine W.widen hc hs ?_
  exact W.lret hx hb hr (fun t ht hW => ⟨⟨v, u, rfl, hp, by rw [ht]; exact hw, xK.moved hW.alike hK⟩, hS.F ht⟩) hS.2.2 hdg hlk
theorem xw_vret {post : xM → Prop} (C : xC p s m args meth c cc nL none Ts own mn G B) (hw : xW G B u H) (hS : va_S (xA B) s.heap H locs) (hc : cells ≤ mc) (hs : slots ≤ ms) (hp : post u) (hdg : decode cc pc = .ok (.return_, 1)) :
    W p l e R s m args below meth c H locs cells slots (MQ below (va_Qv post (xE G B) (xA B)) args s mc ms (xA B)) (F0 m pc ls []) := by
  obtain ⟨hx, hb, hr, hml, hown, hts, hK, hB, hlk, hmn⟩ := C
  refine W.widen hc hs ?_
  exact W.vret hx hb hr (fun t ht hW => ⟨⟨u, rfl, hp, by rw [ht]; exact hw, xK.moved hW.alike hK⟩, hS.F ht⟩) hS.2.2 hdg hlk
/-- an answer that is a cell's address -/
abbrev xQr (G : xG) (B : Nat) (post : Nat → xM → Prop) : Array Value → State → Outcome → State → Prop := va_Qr (S := xM × Nat) (fun z => post z.2 z.1) (fun z a t => z.2 = a ∧ xE G B z.1 t) (xA B)
theorem xw_aret {v : Nat} {post : Nat → xM → Prop} {Cn : String} (C : xC p s m args meth c cc nL (some (.object Cn)) Ts own mn G B) (hw : xW G B u H) (hS : va_S (xA B) s.heap H locs) (hc : cells ≤ mc) (hs : slots ≤ ms) (hp : post v u) (hdg : decode cc pc = .ok (.areturn, 1)) :
    W p l e R s m args below meth c H locs cells slots (MQ below (xQr G B post) args s mc ms (xA B)) (F0 m pc ls [.ref v]) := by
  obtain ⟨hx, hb, hr, hml, hown, hts, hK, hB, hlk, hmn⟩ := C
  refine W.widen hc hs ?_
  exact W.aret hx hb hr (Or.inl ⟨_, rfl⟩) (Or.inr ⟨_, rfl⟩) (fun t ht hW => ⟨⟨(u, v), v, rfl, hp, rfl, by rw [ht]; exact hw, xK.moved hW.alike hK⟩, hS.F ht⟩) hS.2.2 hdg hlk
/-! calls -/
theorem xw_V {y : MethodName} {bytes : ByteArray} {maxL n index : Nat} {ret : Option FieldType} {ws ws' : List Cond} {rm : Room} {Cn : String} {b : Nat} {As : List Value} {Qc : Array Value → State → Outcome → State → Prop} (C : xC p s m args meth c cc nL rt Ts own mn G B) (hw : xW G B w H)
    (hM : Met l y ws rm (va_Pc (.ref b :: As) (xB G B w)) Qc mc ms (xA B)) (hG : GoodIn Ts (wsV own index Cn y ws)) (hws : ws = Cond.code y bytes maxL ret :: ws') (hrc : rm.cells = mc) (hrs : rm.slots = ms)
    (hd : y.cls = Cn ∧ y.cls ≠ "java/lang/invoke/MethodHandle" ∧ y.cls ≠ "java/lang/invoke/VarHandle" ∧ (parseMethodDescriptor y.desc).map (fun d => d.parameters.length) = some n) (hR : rm.frames + 1 ≤ R.frames ∧ 8 + (maxL + 11) + rm.locals ≤ R.locals)
    {ci : Nat} {fs : List Value} (he : w b = some (.inr (ci, fs))) {T : u_T} {N : Nat} (hc : vwCl[ci]? = some (Cn, T, N)) (hn : As.length = n) (hl : ls.size = nL) (hst : st0 = As.reverse ++ .ref b :: rest) (hrm : (rest.map fun v => v.category).sum ≤ 8) (hdg : decode cc pc = .ok (.invokevirtual index, 3)) (hf : cells + mc ≤ R.cells ∧ slots + ms ≤ R.slots) (hS : va_S (xA B) s.heap H locs) :
    va_Run p l e R s m args below meth c H locs cells slots mc ms (F0 m pc ls st0) rest (Qc (Value.ref b :: As).toArray) (xA B) := by
  obtain ⟨hx, hb, hr, hml, hown, hts, hK, hB, hlk, hmn⟩ := C
  exact va_runV ⟨hx, hb, hml, hown, hts⟩ hM (cwV n hts hG hws hrc hrs hd hR) ⟨x_blind, va_recv hK (hw.one he) hc (q0 := 0) rfl, fun U hU hW => ⟨rfl, by rw [hU]; exact Nat.le_trans hB hS.1, by rw [hU]; exact hw, xK.moved hW.alike hK⟩⟩ rfl hn hl hst (lv_room hrm) hdg hf
theorem xw_S {y : MethodName} {bytes : ByteArray} {maxL n index : Nat} {ret : Option FieldType} {ws ws' : List Cond} {rm : Room} {As : List Value} {Qc : Array Value → State → Outcome → State → Prop} (C : xC p s m args meth c cc nL rt Ts own mn G B) (hw : xW G B w H)
    (hM : Met l y ws rm (va_Pc As (xB G B w)) Qc mc ms (xA B)) (hG : GoodIn Ts (va_wsS own index y ws)) (hws : ws = Cond.code y bytes maxL ret :: ws') (hrc : rm.cells = mc) (hrs : rm.slots = ms)
    (hd : y.cls ≠ "java/lang/invoke/MethodHandle" ∧ y.cls ≠ "java/lang/invoke/VarHandle" ∧ (parseMethodDescriptor y.desc).map (fun d => d.parameters.length) = some n) (hR : rm.frames + 1 ≤ R.frames ∧ 8 + (maxL + 11) + rm.locals ≤ R.locals)
    (hn : As.length = n) (hl : ls.size = nL) (hst : st0 = As.reverse ++ rest) (hrm : (rest.map fun v => v.category).sum ≤ 8) (hdg : decode cc pc = .ok (.invokestatic index, 3)) (hf : cells + mc ≤ R.cells ∧ slots + ms ≤ R.slots) (hS : va_S (xA B) s.heap H locs) :
    va_Run p l e R s m args below meth c H locs cells slots mc ms (F0 m pc ls st0) rest (Qc As.toArray) (xA B) := by
  obtain ⟨hx, hb, hr, hml, hown, hts, hK, hB, hlk, hmn⟩ := C
  exact va_runS ⟨hx, hb, hml, hown, hts⟩ hM (va_cwS n hts hG hws hrc hrs hd hR) ⟨x_blind, fun U hU hW => ⟨rfl, by rw [hU]; exact Nat.le_trans hB hS.1, by rw [hU]; exact hw, xK.moved hW.alike hK⟩⟩ rfl hn hl hst (lv_room hrm) hdg hf
theorem xw_I {y : MethodName} {bytes : ByteArray} {maxL n index : Nat} {ws ws' : List Cond} {rm : Room} {b : Nat} {As : List Value} {Qc : Array Value → State → Outcome → State → Prop} (C : xC p s m args meth c cc nL rt Ts own mn G B) (hw : xW G B w H)
    (hM : Met l y ws rm (va_Pc (.ref b :: As) (xB G B w)) Qc mc ms (xA B)) (hG : GoodIn Ts ws) (hws : ws = Cond.code y bytes maxL none :: ws') (hrc : rm.cells = mc) (hrs : rm.slots = ms) (hini : Cond.initialized y.cls ∈ Ts) (hlk : Cond.methodLink own index y ∈ Ts) (hinm : Cond.instanceMethod y ∈ Ts) (hnm : y.name = "<init>")
    (hd : y.cls ≠ "java/lang/invoke/MethodHandle" ∧ y.cls ≠ "java/lang/invoke/VarHandle" ∧ (parseMethodDescriptor y.desc).map (fun d => d.parameters.length) = some n) (hR : rm.frames + 1 ≤ R.frames ∧ 8 + (maxL + 11) + rm.locals ≤ R.locals)
    (hn : As.length = n) (hl : ls.size = nL) (hst : st0 = As.reverse ++ .ref b :: rest) (hrm : (rest.map fun v => v.category).sum ≤ 8) (hdg : decode cc pc = .ok (.invokespecial index, 3)) (hf : cells + mc ≤ R.cells ∧ slots + ms ≤ R.slots) (hS : va_S (xA B) s.heap H locs) :
    va_Run p l e R s m args below meth c H locs cells slots mc ms (F0 m pc ls st0) rest (Qc (Value.ref b :: As).toArray) (xA B) := by
  obtain ⟨hx, hb, hr, hml, hown, hts, hK, hB, hlk2, hmn⟩ := C
  exact va_runI ⟨hx, hb, hml, hown, hts⟩ hM (cwI n hts hG hws hrc hrs (hts _ hini) (hts _ hlk) (hts _ hinm) hnm hd hR) ⟨x_blind, fun U hU hW => ⟨rfl, by rw [hU]; exact Nat.le_trans hB hS.1, by rw [hU]; exact hw, xK.moved hW.alike hK⟩⟩ rfl hn hl hst (lv_room hrm) hdg hf
theorem xw_ci {aa : Array Value} {post : Int32 → xM → Prop} (hr : va_Run p l e R s m args below meth c H locs cells slots mc ms (F0 m pc ls st0) rest (va_Qi post (xE G B) (xA B) aa) (xA B)) (hS : va_S (xA B) s.heap H locs)
    (kk : ∀ (r : Int32) (u : xM) (H1 : Heap) (locs1 : List Loc), post r u → xW G B u H1 → va_S (xA B) s.heap H1 locs1 → W p l e R s m args below meth c H1 locs1 (cells + mc) (slots + ms) Q (F0 m (pc + 3) ls (.int r :: rest))) : W p l e R s m args below meth c H locs cells slots Q (F0 m pc ls st0) :=
  va_calli hr hS (fun _ _ h => h) (fun _ h => h) (fun r u t H1 locs1 ht _ hp hB _ _ hS1 => kk r u H1 locs1 hp (by rw [← ht]; exact hB.1) hS1)
theorem xw_cl {aa : Array Value} {post : Int64 → xM → Prop} (hr : va_Run p l e R s m args below meth c H locs cells slots mc ms (F0 m pc ls st0) rest (va_Ql post (xE G B) (xA B) aa) (xA B)) (hS : va_S (xA B) s.heap H locs)
    (kk : ∀ (r : Int64) (u : xM) (H1 : Heap) (locs1 : List Loc), post r u → xW G B u H1 → va_S (xA B) s.heap H1 locs1 → W p l e R s m args below meth c H1 locs1 (cells + mc) (slots + ms) Q (F0 m (pc + 3) ls (.long r :: rest))) : W p l e R s m args below meth c H locs cells slots Q (F0 m pc ls st0) :=
  va_calll hr hS (fun _ _ h => h) (fun _ h => h) (fun r u t H1 locs1 ht _ hp hB _ _ hS1 => kk r u H1 locs1 hp (by rw [← ht]; exact hB.1) hS1)
theorem xw_cv {aa : Array Value} {post : xM → Prop} (hr : va_Run p l e R s m args below meth c H locs cells slots mc ms (F0 m pc ls st0) rest (va_Qv post (xE G B) (xA B) aa) (xA B)) (hS : va_S (xA B) s.heap H locs)
    (kk : ∀ (u : xM) (H1 : Heap) (locs1 : List Loc), post u → xW G B u H1 → va_S (xA B) s.heap H1 locs1 → W p l e R s m args below meth c H1 locs1 (cells + mc) (slots + ms) Q (F0 m (pc + 3) ls rest)) : W p l e R s m args below meth c H locs cells slots Q (F0 m pc ls st0) :=
  va_callv hr hS (fun _ _ h => h) (fun _ h => h) (fun u t H1 locs1 ht _ hp hB _ _ hS1 => kk u H1 locs1 hp (by rw [← ht]; exact hB.1) hS1)
theorem xw_cr {aa : Array Value} {post : Nat → xM → Prop} (hr : va_Run p l e R s m args below meth c H locs cells slots mc ms (F0 m pc ls st0) rest (xQr G B post aa) (xA B)) (hS : va_S (xA B) s.heap H locs)
    (kk : ∀ (r : Nat) (u : xM) (H1 : Heap) (locs1 : List Loc), post r u → xW G B u H1 → va_S (xA B) s.heap H1 locs1 → W p l e R s m args below meth c H1 locs1 (cells + mc) (slots + ms) Q (F0 m (pc + 3) ls (.ref r :: rest))) : W p l e R s m args below meth c H locs cells slots Q (F0 m pc ls st0) :=
  va_callr hr hS (fun _ _ h => h) (fun _ h => h) (fun z ra t H1 locs1 ht _ hp hB _ _ hS1 => by
    obtain ⟨u, r⟩ := z
    obtain ⟨h1, h2, h3⟩ := hB
    dsimp only at h1 h2 hp
    subst h1
    exact kk r u H1 locs1 hp (by rw [← ht]; exact h2) hS1)
end XW
end
section
/-! ===== more rows over the worlds: places that are Nats, compares of Nats, constants, Math ===== -/
section XR
variable {p : Program} {l : Launch} {e : Env} {R : Room} {s : State} {m : MethodId} {args : Array Value} {below : List Frame} {meth : Method} {c : Code} {H : Heap} {locs : List Loc} {cells slots : Nat} {Q : State → Prop}
variable {cc : ByteArray} {nL pc : Nat} {rt : Option FieldType} {Ts : List Cond} {own mn : String} {G : xG} {B : Nat} {w u : xM} {ls : Array Slot} {rest st0 : List Value} {a : Nat} {mc ms : Nat}
theorem xw_ti {x y : Int32} (h : x = y) (k : W p l e R s m args below meth c H locs cells slots Q (F0 m pc ls (.int y :: rest))) : W p l e R s m args below meth c H locs cells slots Q (F0 m pc ls (.int x :: rest)) := h ▸ k
theorem xw_tl {x y : Int64} (h : x = y) (k : W p l e R s m args below meth c H locs cells slots Q (F0 m pc ls (.long y :: rest))) : W p l e R s m args below meth c H locs cells slots Q (F0 m pc ls (.long x :: rest)) := h ▸ k
theorem xw_tv {x y : Value} (h : x = y) (k : W p l e R s m args below meth c H locs cells slots Q (F0 m pc ls (y :: rest))) : W p l e R s m args below meth c H locs cells slots Q (F0 m pc ls (x :: rest)) := h ▸ k
theorem xw_ialdN (C : xC p s m args meth c cc nL rt Ts own mn G B) (hw : xW G B w H) {n : Nat} {f : Nat → Int32} (he : w a = some (.inl (G.2 0, n, .inl f))) {k : Nat} (hk : k < n) (hn : n < 2 ^ 31) (hdg : decode cc pc = .ok (.iaload, 1))
    (kk : W p l e R s m args below meth c H locs cells slots Q (F0 m (pc + 1) ls (.int (f k) :: rest))) : W p l e R s m args below meth c H locs cells slots Q (F0 m pc ls (.int (nI k) :: .ref a :: rest)) :=
  xw_iald C hw he (vp_in_nI hk hn) hdg (by rw [nI_clamp (by omega)]; exact kk)
theorem xw_laldN (C : xC p s m args meth c cc nL rt Ts own mn G B) (hw : xW G B w H) {n : Nat} {f : Nat → Int64} (he : w a = some (.inl (G.2 1, n, .inr (.inl f)))) {k : Nat} (hk : k < n) (hn : n < 2 ^ 31) (hdg : decode cc pc = .ok (.laload, 1))
    (kk : W p l e R s m args below meth c H locs cells slots Q (F0 m (pc + 1) ls (.long (f k) :: rest))) : W p l e R s m args below meth c H locs cells slots Q (F0 m pc ls (.int (nI k) :: .ref a :: rest)) :=
  xw_lald C hw he (vp_in_nI hk hn) hdg (by rw [nI_clamp (by omega)]; exact kk)
theorem xw_zaldN (C : xC p s m args meth c cc nL rt Ts own mn G B) (hw : xW G B w H) {n : Nat} {f : Nat → Int32} (he : w a = some (.inl (G.2 2, n, .inl f))) {k : Nat} (hk : k < n) (hn : n < 2 ^ 31) (hdg : decode cc pc = .ok (.baload, 1))
    (kk : W p l e R s m args below meth c H locs cells slots Q (F0 m (pc + 1) ls (.int (f k) :: rest))) : W p l e R s m args below meth c H locs cells slots Q (F0 m pc ls (.int (nI k) :: .ref a :: rest)) :=
  xw_zald C hw he (vp_in_nI hk hn) hdg (by rw [nI_clamp (by omega)]; exact kk)
theorem xw_aaldN (C : xC p s m args meth c cc nL rt Ts own mn G B) (hw : xW G B w H) (t0 : Nat) {cA : ClassId} {Cn : String} {n : Nat} {f : Nat → Option Nat} (ht : (xTys G)[t0]? = some (cA, .object Cn)) (he : w a = some (.inl (cA, n, .inr (.inr (.inr (.inr f)))))) {k : Nat} (hk : k < n) (hn : n < 2 ^ 31) {v : Value} (hv : va_rf (f k) = v) (hdg : decode cc pc = .ok (.aaload, 1))
    (kk : W p l e R s m args below meth c H locs cells slots Q (F0 m (pc + 1) ls (v :: rest))) : W p l e R s m args below meth c H locs cells slots Q (F0 m pc ls (.int (nI k) :: .ref a :: rest)) :=
  xw_aald C hw t0 ht he (vp_in_nI hk hn) hdg (by rw [nI_clamp (by omega), hv]; exact kk)
theorem xw_iastN (C : xC p s m args meth c cc nL rt Ts own mn G B) (hw : xW G B w H) (hS : va_S (xA B) s.heap H locs) {n : Nat} {f : Nat → Int32} (he : w a = some (.inl (G.2 0, n, .inl f))) {k : Nat} {x : Int32} (hk : k < n) (hn : n < 2 ^ 31) (hdg : decode cc pc = .ok (.iastore, 1))
    (kk : ∀ (H1 : Heap) (locs1 : List Loc), xW G B (xu w a (.inl (G.2 0, n, .inl (upd f k x)))) H1 → va_S (xA B) s.heap H1 locs1 → W p l e R s m args below meth c H1 locs1 cells slots Q (F0 m (pc + 1) ls rest)) : W p l e R s m args below meth c H locs cells slots Q (F0 m pc ls (.int x :: .int (nI k) :: .ref a :: rest)) :=
  xw_iast C hw hS he (vp_in_nI hk hn) hdg (by rw [nI_clamp (by omega)]; exact kk)
theorem xw_lastN (C : xC p s m args meth c cc nL rt Ts own mn G B) (hw : xW G B w H) (hS : va_S (xA B) s.heap H locs) {n : Nat} {f : Nat → Int64} (he : w a = some (.inl (G.2 1, n, .inr (.inl f)))) {k : Nat} {x : Int64} (hk : k < n) (hn : n < 2 ^ 31) (hdg : decode cc pc = .ok (.lastore, 1))
    (kk : ∀ (H1 : Heap) (locs1 : List Loc), xW G B (xu w a (.inl (G.2 1, n, .inr (.inl (vp_updL f k x))))) H1 → va_S (xA B) s.heap H1 locs1 → W p l e R s m args below meth c H1 locs1 cells slots Q (F0 m (pc + 1) ls rest)) : W p l e R s m args below meth c H locs cells slots Q (F0 m pc ls (.long x :: .int (nI k) :: .ref a :: rest)) :=
  xw_last C hw hS he (vp_in_nI hk hn) hdg (by rw [nI_clamp (by omega)]; exact kk)
theorem xw_zastN (C : xC p s m args meth c cc nL rt Ts own mn G B) (hw : xW G B w H) (hS : va_S (xA B) s.heap H locs) {n : Nat} {f : Nat → Int32} (he : w a = some (.inl (G.2 2, n, .inl f))) {k : Nat} {x : Int32} (hx : vp_nar .boolean x = x) (hk : k < n) (hn : n < 2 ^ 31) (hdg : decode cc pc = .ok (.bastore, 1))
    (kk : ∀ (H1 : Heap) (locs1 : List Loc), xW G B (xu w a (.inl (G.2 2, n, .inl (upd f k x)))) H1 → va_S (xA B) s.heap H1 locs1 → W p l e R s m args below meth c H1 locs1 cells slots Q (F0 m (pc + 1) ls rest)) : W p l e R s m args below meth c H locs cells slots Q (F0 m pc ls (.int x :: .int (nI k) :: .ref a :: rest)) :=
  xw_zast C hw hS he (vp_in_nI hk hn) hdg (by rw [nI_clamp (by omega), hx]; exact kk)
theorem xw_aastN (C : xC p s m args meth c cc nL rt Ts own mn G B) (hw : xW G B w H) (hS : va_S (xA B) s.heap H locs) (t0 ci : Nat) {cA : ClassId} {r : vw_C} {n v : Nat} {vs : List Value} {f : Nat → Option Nat} (ht : (xTys G)[t0]? = some (cA, .object r.1)) (he : w a = some (.inl (cA, n, .inr (.inr (.inr (.inr f)))))) (hv : w v = some (.inr (ci, vs))) (hc : vwCl[ci]? = some r) {k : Nat} (hk : k < n) (hn : n < 2 ^ 31) (hdg : decode cc pc = .ok (.aastore, 1))
    (kk : ∀ (H1 : Heap) (locs1 : List Loc), xW G B (xu w a (.inl (cA, n, .inr (.inr (.inr (.inr (va_up f k (some v)))))))) H1 → va_S (xA B) s.heap H1 locs1 → W p l e R s m args below meth c H1 locs1 cells slots Q (F0 m (pc + 1) ls rest)) : W p l e R s m args below meth c H locs cells slots Q (F0 m pc ls (.ref v :: .int (nI k) :: .ref a :: rest)) :=
  xw_aast C hw hS t0 ci ht he hv hc (vp_in_nI hk hn) hdg (by rw [nI_clamp (by omega)]; exact kk)
theorem xw_clt (hexec : p.tables.exec = Jvm.exec) (hb : c.code = cc) {x y : Nat} {off : Int} {tgt : Nat} (hdg : decode cc pc = .ok (.if_icmp .lt off, 3)) (ht : (pc : Int) + off = (tgt : Int)) (h1 : x < 2 ^ 31) (h2 : y < 2 ^ 31) (kt : x < y → W p l e R s m args below meth c H locs cells slots Q (F0 m tgt ls rest)) (kf : y ≤ x → W p l e R s m args below meth c H locs cells slots Q (F0 m (pc + 3) ls rest)) : W p l e R s m args below meth c H locs cells slots Q (F0 m pc ls (.int (nI y) :: .int (nI x) :: rest)) :=
  lv_icmp_lt hexec hb hdg ht (fun h => kt ((nI_ltI h1 h2).mp h)) (fun h => kf (Nat.not_lt.mp fun q => h ((nI_ltI h1 h2).mpr q)))
theorem xw_cge (hexec : p.tables.exec = Jvm.exec) (hb : c.code = cc) {x y : Nat} {off : Int} {tgt : Nat} (hdg : decode cc pc = .ok (.if_icmp .ge off, 3)) (ht : (pc : Int) + off = (tgt : Int)) (h1 : x < 2 ^ 31) (h2 : y < 2 ^ 31) (kt : y ≤ x → W p l e R s m args below meth c H locs cells slots Q (F0 m tgt ls rest)) (kf : x < y → W p l e R s m args below meth c H locs cells slots Q (F0 m (pc + 3) ls rest)) : W p l e R s m args below meth c H locs cells slots Q (F0 m pc ls (.int (nI y) :: .int (nI x) :: rest)) :=
  lv_icmp_ge hexec hb hdg ht (fun h => kt ((nI_leI h2 h1).mp h)) (fun h => kf (Nat.not_le.mp fun q => h ((nI_leI h2 h1).mpr q)))
theorem xw_cgt (hexec : p.tables.exec = Jvm.exec) (hb : c.code = cc) {x y : Nat} {off : Int} {tgt : Nat} (hdg : decode cc pc = .ok (.if_icmp .gt off, 3)) (ht : (pc : Int) + off = (tgt : Int)) (h1 : x < 2 ^ 31) (h2 : y < 2 ^ 31) (kt : y < x → W p l e R s m args below meth c H locs cells slots Q (F0 m tgt ls rest)) (kf : x ≤ y → W p l e R s m args below meth c H locs cells slots Q (F0 m (pc + 3) ls rest)) : W p l e R s m args below meth c H locs cells slots Q (F0 m pc ls (.int (nI y) :: .int (nI x) :: rest)) :=
  lv_icmp_gt hexec hb hdg ht (fun h => kt ((nI_ltI h2 h1).mp h)) (fun h => kf (Nat.not_lt.mp fun q => h ((nI_ltI h2 h1).mpr q)))
theorem xw_cle (hexec : p.tables.exec = Jvm.exec) (hb : c.code = cc) {x y : Nat} {off : Int} {tgt : Nat} (hdg : decode cc pc = .ok (.if_icmp .le off, 3)) (ht : (pc : Int) + off = (tgt : Int)) (h1 : x < 2 ^ 31) (h2 : y < 2 ^ 31) (kt : x ≤ y → W p l e R s m args below meth c H locs cells slots Q (F0 m tgt ls rest)) (kf : y < x → W p l e R s m args below meth c H locs cells slots Q (F0 m (pc + 3) ls rest)) : W p l e R s m args below meth c H locs cells slots Q (F0 m pc ls (.int (nI y) :: .int (nI x) :: rest)) :=
  lv_icmp_le hexec hb hdg ht (fun h => kt ((nI_leI h1 h2).mp h)) (fun h => kf (Nat.not_le.mp fun q => h ((nI_leI h1 h2).mpr q)))
theorem xw_ldc2 (C : xC p s m args meth c cc nL rt Ts own mn G B) {index : Nat} {v : Int64} (hconst : Cond.constantLong own index v ∈ Ts) (hdg : decode cc pc = .ok (.ldc2_w index, 3)) (kk : W p l e R s m args below meth c H locs cells slots Q (F0 m (pc + 3) ls (.long v :: rest))) : W p l e R s m args below meth c H locs cells slots Q (F0 m pc ls rest) := by
  obtain ⟨hx, hb, hr, hml, hown, hts, hK, hB, hlk, hmn⟩ := C
  exact W.ldc2 (v := v) hx hb hown (hts _ hconst) rfl hdg kk
theorem xw_max (C : xC p s m args meth c cc nL rt Ts own mn G B) (hl : ls.size = nL) {index : Nat} (hlink : Cond.methodLink own index Lib.Math.max.name ∈ Ts) (hstat : Cond.static Lib.Math.max.name ∈ Ts) (hini : Cond.initialized "java/lang/Math" ∈ Ts) (hcode : Cond.code Lib.Math.max.name Lib.Math.max.code 2 (some .int) ∈ Ts)
    (hframes : 1 ≤ R.frames) (hlocals : (rest.map fun v => v.category).sum + 13 ≤ R.locals) (hc : cells ≤ R.cells) (hs : slots ≤ R.slots) {x y z : Int32} (hz : (if x < y then y else x) = z) (hdg : decode cc pc = .ok (.invokestatic index, 3))
    (kk : W p l e R s m args below meth c H locs cells slots Q (F0 m (pc + 3) ls (.int z :: rest))) : W p l e R s m args below meth c H locs cells slots Q (F0 m pc ls (.int y :: .int x :: rest)) := by
  obtain ⟨hx, hb, hr, hml, hown, hts, hK, hB, hlk, hmn⟩ := C
  subst hz
  exact va_mmax hx hb (hml.trans hl.symm) hown (hts _ hlink) (hts _ hstat) (hts _ hini) (hts _ hcode) hframes hlocals hc hs hdg kk
theorem xw_min (C : xC p s m args meth c cc nL rt Ts own mn G B) (hl : ls.size = nL) {index : Nat} (hlink : Cond.methodLink own index Lib.Math.min.name ∈ Ts) (hstat : Cond.static Lib.Math.min.name ∈ Ts) (hini : Cond.initialized "java/lang/Math" ∈ Ts) (hcode : Cond.code Lib.Math.min.name Lib.Math.min.code 2 (some .int) ∈ Ts)
    (hframes : 1 ≤ R.frames) (hlocals : (rest.map fun v => v.category).sum + 13 ≤ R.locals) (hc : cells ≤ R.cells) (hs : slots ≤ R.slots) {x y z : Int32} (hz : (if y < x then y else x) = z) (hdg : decode cc pc = .ok (.invokestatic index, 3))
    (kk : W p l e R s m args below meth c H locs cells slots Q (F0 m (pc + 3) ls (.int z :: rest))) : W p l e R s m args below meth c H locs cells slots Q (F0 m pc ls (.int y :: .int x :: rest)) := by
  obtain ⟨hx, hb, hr, hml, hown, hts, hK, hB, hlk, hmn⟩ := C
  subst hz
  exact va_mmin hx hb (hml.trans hl.symm) hown (hts _ hlink) (hts _ hstat) (hts _ hini) (hts _ hcode) hframes hlocals hc hs hdg kk
theorem xw_obj (C : xC p s m args meth c cc nL rt Ts own mn G B) (hl : ls.size = nL) {index : Nat} (hlink : Cond.methodLink own index objectInit ∈ Ts) (hinst : Cond.instanceMethod objectInit ∈ Ts) (hcode : Cond.code objectInit ⟨#[0xb1]⟩ 1 none ∈ Ts) (hframes : 1 ≤ R.frames) (hlocals : (rest.map fun v => v.category).sum + 12 ≤ R.locals) (hdg : decode cc pc = .ok (.invokespecial index, 3))
    (kk : W p l e R s m args below meth c H locs cells slots Q (F0 m (pc + 3) ls rest)) : W p l e R s m args below meth c H locs cells slots Q (F0 m pc ls (.ref a :: rest)) := by
  obtain ⟨hx, hb, hr, hml, hown, hts, hK, hB, hlk, hmn⟩ := C
  exact W.objInit hx hb hown (hts _ hlink) (hts _ hinst) (hts _ hcode) rfl (by rw [hml]; exact hl) rfl hdg hframes (by
    have h9 : 2 * (F0 m pc ls (.ref a :: rest)).monitorRoom = 0 := rfl
    omega) kk
end XR
end
section
/-! ===== numbers modulo 32003, and rows of them: pure rows ===== -/
abbrev xF : Type := Fin 32003
abbrev xP : Type := Nat → xF
/-- a number as Java's int -/
def xI (x : xF) : Int32 := nI x.val
/-- a number as Java's long -/
def xJ (x : xF) : Int64 := lN x.val
theorem xF_lt (x : xF) : x.val < 32003 := x.isLt
theorem xI_0 : xI 0 = 0 := by decide +kernel
theorem xJ_0 : xJ 0 = 0 := by decide +kernel
theorem xI_1 : xI 1 = 1 := by decide +kernel
theorem xJ_1 : xJ 1 = 1 := by decide +kernel
theorem xI_inj {x y : xF} (h : xI x = xI y) : x = y := by
  have := (nI_eq (by have := x.isLt; omega) (by have := y.isLt; omega)).mp h
  exact Fin.ext this
theorem xI_iff {x y : xF} : xI x = xI y ↔ x = y := ⟨xI_inj, fun h => by rw [h]⟩
theorem xI_z {x : xF} : xI x = 0 ↔ x = 0 := by rw [← xI_0]; exact xI_iff
theorem xJ_inj {x y : xF} (h : xJ x = xJ y) : x = y := by
  have := (lN_eq (by have := x.isLt; omega) (by have := y.isLt; omega)).mp h
  exact Fin.ext this
theorem xJ_iff {x y : xF} : xJ x = xJ y ↔ x = y := ⟨xJ_inj, fun h => by rw [h]⟩
theorem xJ_z {x : xF} : xJ x = 0 ↔ x = 0 := by rw [← xJ_0]; exact xJ_iff
theorem xI_l (x : xF) : (xI x).toInt64 = xJ x := nI_l (by have := x.isLt; omega)
theorem xJ_i (x : xF) : (xJ x).toInt32 = xI x := lN_i _
theorem xI_nn (x : xF) : ¬ xI x < 0 := nI_pos (by have := x.isLt; omega)
theorem xJ_nn (x : xF) : ¬ xJ x < 0 := by
  intro h
  have := (pk_lLT (a := x.val) (b := 0) (by have := x.isLt; omega) (by decide)).mp (by simpa [xJ, lN] using h)
  omega
/-- a Nat as a number -/
def xO (n : Nat) : xF := Fin.ofNat 32003 n
theorem xO_val (n : Nat) : (xO n).val = n % 32003 := rfl
theorem xO_self (x : xF) : xO x.val = x := Fin.ext (Nat.mod_eq_of_lt x.isLt)
theorem xO_add (a b : Nat) : xO (a + b) = xO a + xO b := Fin.ext (by simp [xO, Fin.add_def, Nat.add_mod])
theorem xO_mul (a b : Nat) : xO (a * b) = xO a * xO b := Fin.ext (by simp [xO, Fin.mul_def, Nat.mul_mod])
theorem xO_P : xO 32003 = 0 := by decide +kernel
/-- what Java's 'v % 32003', and 32003 more if that is below 0, answers -/
def xR (v : Int64) : xF := xO (v.toInt % 32003).toNat
theorem xR_lN {n : Nat} (h : n < 2 ^ 63) : xR (lN n) = xO n := by
  unfold xR
  rw [pk_lT h]
  apply Fin.ext
  rw [xO_val, xO_val]
  have : ((n : Int) % 32003).toNat = n % 32003 := by omega
  rw [this]; omega
/-- the sum of the first n -/
def xS (n : Nat) (f : Nat → xF) : xF := match n with
  | 0 => 0
  | n + 1 => xS n f + f n
theorem xS_0 (f : Nat → xF) : xS 0 f = 0 := rfl
theorem xS_s (n : Nat) (f : Nat → xF) : xS (n + 1) f = xS n f + f n := rfl
theorem xS_congr {n : Nat} {f g : Nat → xF} (h : ∀ i, i < n → f i = g i) : xS n f = xS n g := by
  induction n with
  | zero => rfl
  | succ n ih => rw [xS_s, xS_s, ih (fun i hi => h i (by omega)), h n (by omega)]
theorem xS_zero {n : Nat} {f : Nat → xF} (h : ∀ i, i < n → f i = 0) : xS n f = 0 := by
  induction n with
  | zero => rfl
  | succ n ih => rw [xS_s, ih (fun i hi => h i (by omega)), h n (by omega)]; grind
theorem xS_add (n : Nat) (f g : Nat → xF) : xS n (fun i => f i + g i) = xS n f + xS n g := by
  induction n with
  | zero => rw [xS_0, xS_0, xS_0]; grind
  | succ n ih => rw [xS_s, xS_s, xS_s, ih]; grind
theorem xS_mul (n : Nat) (a : xF) (f : Nat → xF) : xS n (fun i => a * f i) = a * xS n f := by
  induction n with
  | zero => rw [xS_0, xS_0]; grind
  | succ n ih => rw [xS_s, xS_s, ih]; grind
theorem xS_head (n : Nat) (f : Nat → xF) : xS (n + 1) f = f 0 + xS n (fun i => f (i + 1)) := by
  induction n with
  | zero => rw [xS_s, xS_0, xS_0]; grind
  | succ n ih => rw [xS_s, ih, xS_s]; grind
theorem xS_rev (n : Nat) (f : Nat → xF) : xS n f = xS n (fun i => f (n - 1 - i)) := by
  induction n generalizing f with
  | zero => rfl
  | succ n ih =>
    rw [xS_head, xS_s, ih]
    have h1 : f (n + 1 - 1 - n) = f 0 := by congr 1; omega
    rw [h1]
    have h2 : xS n (fun i => f (n - 1 - i + 1)) = xS n (fun i => f (n + 1 - 1 - i)) := xS_congr (fun i hi => by congr 1; omega)
    rw [h2]; grind
theorem xS_ext {n m : Nat} {f : Nat → xF} (hnm : n ≤ m) (h : ∀ i, n ≤ i → i < m → f i = 0) : xS m f = xS n f := by
  induction m with
  | zero => have : n = 0 := by omega
            subst this; rfl
  | succ m ih =>
    by_cases hh : n = m + 1
    · subst hh; rfl
    · rw [xS_s, ih (by omega) (fun i h1 h2 => h i h1 (by omega)), h m (by omega) (by omega)]; grind
theorem xS_split (n m : Nat) (f : Nat → xF) : xS (n + m) f = xS n f + xS m (fun i => f (n + i)) := by
  induction m with
  | zero => rw [xS_0]; simp; 
  | succ m ih => rw [Nat.add_succ, xS_s, ih, xS_s]; grind
theorem xS_swap (n m : Nat) (f : Nat → Nat → xF) : xS n (fun i => xS m (fun j => f i j)) = xS m (fun j => xS n (fun i => f i j)) := by
  induction n with
  | zero => rw [xS_0]; exact (xS_zero (fun i _ => rfl)).symm
  | succ n ih => rw [xS_s, ih, ← xS_add]; rfl
theorem xS_one {n k : Nat} {f : Nat → xF} (hk : k < n) (h : ∀ i, i < n → i ≠ k → f i = 0) : xS n f = f k := by
  induction n with
  | zero => omega
  | succ n ih =>
    rw [xS_s]
    by_cases hh : k = n
    · subst hh
      rw [xS_zero (fun i hi => h i (by omega) (by omega))]; grind
    · rw [ih (by omega) (fun i hi hne => h i (by omega) hne), h n (by omega) (fun q => hh q.symm)]; grind
/-- triangle -/
theorem xS_tri (n : Nat) (F : Nat → Nat → xF) : xS n (fun i => xS (i + 1) (fun j => F i j)) = xS n (fun j => xS (n - j) (fun t => F (j + t) j)) := by
  induction n with
  | zero => rfl
  | succ n ih =>
    rw [xS_s, ih]
    rw [xS_s n (fun j => xS (n + 1 - j) (fun t => F (j + t) j))]
    have h1 : xS n (fun j => xS (n + 1 - j) (fun t => F (j + t) j)) = xS n (fun j => xS (n - j) (fun t => F (j + t) j)) + xS n (fun j => F n j) := by
      rw [← xS_add]
      refine xS_congr (fun j hj => ?_)
      rw [show n + 1 - j = (n - j) + 1 by omega, xS_s]
      rw [show j + (n - j) = n by omega]
    rw [h1, xS_s n (fun j => F n j)]
    rw [show n + 1 - n = 1 by omega, xS_s, xS_0]
    simp only [Nat.add_zero]
    grind
theorem x_rem (v : Int64) : (v - v / 32003 * 32003).toInt = v.toInt.tmod 32003 := by
  have h1 : (v / 32003).toInt = v.toInt.tdiv 32003 := by
    rw [Int64.toInt_div_of_ne_right _ _ (by decide)]; rfl
  have h2 : (32003 : Int64).toInt = 32003 := by decide
  rw [Int64.toInt_sub, Int64.toInt_mul, h1, h2, Int.sub_bmod_bmod]
  have h3 : v.toInt - v.toInt.tdiv 32003 * 32003 = v.toInt.tmod 32003 := by
    rw [Int.tmod_def, Int.mul_comm]
  rw [h3]
  have h4 := Int.tmod_lt_of_pos v.toInt (b := 32003) (by decide)
  have h5 := Int.lt_tmod_of_pos v.toInt (b := 32003) (by decide)
  exact Int.bmod_eq_of_le (by omega) (by omega)
theorem x_rem32 (v : Int64) : ((v - v / 32003 * 32003).toInt32).toInt = v.toInt.tmod 32003 := by
  rw [Int64.toInt_toInt32, x_rem]
  have h4 := Int.tmod_lt_of_pos v.toInt (b := 32003) (by decide)
  have h5 := Int.lt_tmod_of_pos v.toInt (b := 32003) (by decide)
  exact Int.bmod_eq_of_le (by omega) (by omega)
theorem x_tm (z : Int) : z % 32003 = (if 0 ≤ z.tmod 32003 then z.tmod 32003 else z.tmod 32003 + 32003) := by
  have h := Int.tmod_eq_emod (a := z) (b := 32003)
  have h4 := Int.emod_lt_of_pos z (b := 32003) (by decide)
  have h5 := Int.emod_nonneg z (b := 32003) (by decide)
  split at h
  · have h : z.tmod 32003 = z % 32003 := by simpa using h
    rw [h, if_pos h5]
  · rename_i hh
    have h6 : z % 32003 ≠ 0 := fun q => hh (Or.inr (Int.dvd_of_emod_eq_zero q))
    rw [h, if_neg (by simp; omega)]
    simp
/-- the class's 'reduced': the int, as it is or 32003 more -/
theorem x_red_p {v : Int64} (h : 0 ≤ (v - v / 32003 * 32003).toInt32) : (v - v / 32003 * 32003).toInt32 = xI (xR v) := by
  apply Int32.toInt_inj.mp
  have h0 : (0 : Int) ≤ (v - v / 32003 * 32003).toInt32.toInt := Int32.le_iff_toInt_le.mp h
  rw [x_rem32] at h0 ⊢
  have h1 := x_tm v.toInt
  rw [if_pos h0] at h1
  have h2 := Int.emod_lt_of_pos v.toInt (b := 32003) (by decide)
  unfold xI xR
  rw [nI_toInt (by rw [xO_val]; omega), xO_val]
  omega
theorem x_red_n {v : Int64} (h : ¬ 0 ≤ (v - v / 32003 * 32003).toInt32) : (v - v / 32003 * 32003).toInt32 + 32003 = xI (xR v) := by
  apply Int32.toInt_inj.mp
  have h0 : ¬ (0 : Int) ≤ (v - v / 32003 * 32003).toInt32.toInt := fun q => h (Int32.le_iff_toInt_le.mpr q)
  rw [Int32.toInt_add]
  rw [x_rem32] at h0 ⊢
  have h1 := x_tm v.toInt
  rw [if_neg h0] at h1
  have h2 := Int.emod_lt_of_pos v.toInt (b := 32003) (by decide)
  have h3 := Int.emod_nonneg v.toInt (b := 32003) (by decide)
  have h5 : (32003 : Int32).toInt = 32003 := by decide
  unfold xI xR
  rw [nI_toInt (by rw [xO_val]; omega), xO_val, h5, ← h1]
  rw [Int.bmod_eq_of_le (by omega) (by omega)]
  omega
/-- the model's 'modulo' -/
theorem x_mod_p {v : Int64} (h : ¬ (v - v / 32003 * 32003) < 0) : (v - v / 32003 * 32003) = xJ (xR v) := by
  apply Int64.toInt_inj.mp
  have h0 : 0 ≤ (v - v / 32003 * 32003).toInt := Int.not_lt.mp fun q => h (Int64.lt_iff_toInt_lt.mpr q)
  rw [x_rem] at h0 ⊢
  have h1 := x_tm v.toInt
  rw [if_pos h0] at h1
  have h2 := Int.emod_lt_of_pos v.toInt (b := 32003) (by decide)
  unfold xJ xR
  rw [lN_toInt (by rw [xO_val]; omega), xO_val]
  omega
theorem x_mod_n {v : Int64} (h : (v - v / 32003 * 32003) < 0) : (v - v / 32003 * 32003) + 32003 = xJ (xR v) := by
  apply Int64.toInt_inj.mp
  have h0 : ¬ 0 ≤ (v - v / 32003 * 32003).toInt := Int.not_le.mpr (Int64.lt_iff_toInt_lt.mp h)
  rw [Int64.toInt_add]
  rw [x_rem] at h0 ⊢
  have h1 := x_tm v.toInt
  rw [if_neg h0] at h1
  have h2 := Int.emod_lt_of_pos v.toInt (b := 32003) (by decide)
  have h3 := Int.emod_nonneg v.toInt (b := 32003) (by decide)
  have h5 : (32003 : Int64).toInt = 32003 := by decide
  unfold xJ xR
  rw [lN_toInt (by rw [xO_val]; omega), xO_val, h5, ← h1]
  rw [Int.bmod_eq_of_le (by omega) (by omega)]
  omega
theorem xJ_mul (x y : xF) : xJ x * xJ y = lN (x.val * y.val) := lN_mul _ _
theorem x_val_mul (x y : xF) : xO (x.val * y.val) = x * y := by rw [xO_mul, xO_self, xO_self]
theorem x_val_mul_lt (x y : xF) : x.val * y.val < 1024192009 := by
  have h1 := x.isLt
  have h2 := y.isLt
  have := Nat.mul_le_mul (show x.val ≤ 32002 by omega) (show y.val ≤ 32002 by omega)
  omega
theorem xR_mul (x y : xF) : xR (xJ x * xJ y) = x * y := by
  rw [xJ_mul, xR_lN (by have := x_val_mul_lt x y; omega), x_val_mul]
/-- a power by its bits -/
def xpw : Nat → Nat → xF → xF → xF
  | 0, _, r, _ => r
  | f + 1, n, r, s => if n = 0 then r else xpw f (n / 2) (if n % 2 = 1 then r * s else r) (s * s)
def xinv (a : xF) : xF := xpw 15 32001 1 a
theorem xpw_0 (f : Nat) (r s : xF) : xpw f 0 r s = r := by cases f <;> simp [xpw]
theorem xpw_s {f n : Nat} (r s : xF) (h : n ≠ 0) : xpw (f + 1) n r s = xpw f (n / 2) (if n % 2 = 1 then r * s else r) (s * s) := by simp [xpw, h]
end
section
/-! ===== Numbers (laid by wip/whole/m_numbers.py) ===== -/
abbrev rmX2_reduced : Room := { frames := 0, cells := 0, slots := 0, locals := 0 }
set_option maxHeartbeats 4000000 in
set_option maxRecDepth 100000 in
/-- Numbers.reduced: the number modulo 32003 -/
theorem kX2_reduced (l : Launch) (G : xG) (B : Nat) (w : xM) (v : Int64) : Met l yX2_reduced wsX2_reduced rmX2_reduced (va_Pc [.long v] (xB G B w)) (va_Qi (fun r u => r = xI (xR v) ∧ u = w) (xE G B) (xA B)) 0 0 (xA B) := by
  refine xw_start (own := RX2) (mn := "reduced") (cc := cX2_reduced) (nL := 3) (rt := (some .int)) (by decide) rfl rfl rfl (Nat.le_of_ble_eq_true rfl) ?_
  intro p ev s m below meth cd ls C hl hw hS
  obtain ⟨hx, hb, -, -, -, hts, -, -, -, -⟩ := id C
  have hl : lv_has ls 3 [(0, .long v)] := hl
  refine lv_lload_n hx hb dX2_reduced_0 rfl (lv_at hl 0 rfl) ?_
  refine xw_ldc2 C (v := 32003) (by decide +kernel) dX2_reduced_1 ?_
  refine lv_lrem hx hb dX2_reduced_4 (by decide) ?_
  refine lv_l2i (v := ((v - v / 32003 * 32003)).toInt32) hx hb dX2_reduced_5 rfl ?_
  refine lv_istore_n (lv' := [(2, .int (((v - v / 32003 * 32003)).toInt32)), (0, .long v)]) hx hb dX2_reduced_6 rfl hl (by decide) rfl (fun ls hl => ?_)
  refine lv_iload_n hx hb dX2_reduced_7 rfl (lv_at hl 0 rfl) ?_
  refine lv_if_ge (tgt := 19) hx hb dX2_reduced_8 (by decide) (fun hc => ?_) (fun hc => ?_)
  · skip
    refine lv_iload_n hx hb dX2_reduced_19 rfl (lv_at hl 0 rfl) ?_
    exact xw_iret C hw hS (Nat.le_of_ble_eq_true rfl) (Nat.le_of_ble_eq_true rfl) (⟨x_red_p hc, rfl⟩) dX2_reduced_20
  · skip
    refine lv_iload_n hx hb dX2_reduced_11 rfl (lv_at hl 0 rfl) ?_
    refine lv_sipush (v := 32003) hx hb dX2_reduced_12 (by decide) ?_
    refine lv_iadd hx hb dX2_reduced_15 ?_
    refine lv_goto (tgt := 20) hx hb dX2_reduced_16 (by decide) ?_
    exact xw_iret C hw hS (Nat.le_of_ble_eq_true rfl) (Nat.le_of_ble_eq_true rfl) (⟨x_red_n hc, rfl⟩) dX2_reduced_20

abbrev rmX2_product : Room := { frames := 1, cells := 0, slots := 0, locals := 22 }
set_option maxHeartbeats 4000000 in
set_option maxRecDepth 100000 in
theorem kX2_product (l : Launch) (G : xG) (B : Nat) (w : xM) (x y : xF) : Met l yX2_product wsX2_product rmX2_product (va_Pc [.int (xI x), .int (xI y)] (xB G B w)) (va_Qi (fun r u => r = xI (x * y) ∧ u = w) (xE G B) (xA B)) 0 0 (xA B) := by
  refine xw_start (own := RX2) (mn := "product") (cc := cX2_product) (nL := 2) (rt := (some .int)) (by decide) rfl rfl rfl (Nat.le_of_ble_eq_true rfl) ?_
  intro p ev s m below meth cd ls C hl hw hS
  obtain ⟨hx, hb, -, -, -, hts, -, -, -, -⟩ := id C
  have hl : lv_has ls 2 [(0, .int (xI x)), (1, .int (xI y))] := hl
  refine lv_iload_n hx hb dX2_product_0 rfl (lv_at hl 0 rfl) ?_
  refine lv_i2l (v := ((xI x)).toInt64) hx hb dX2_product_1 rfl ?_
  refine lv_iload_n hx hb dX2_product_2 rfl (lv_at hl 1 rfl) ?_
  refine lv_i2l (v := ((xI y)).toInt64) hx hb dX2_product_3 rfl ?_
  refine lv_lmul hx hb dX2_product_4 ?_
  refine xw_tl (y := (xJ x * xJ y)) (by rw [xI_l, xI_l]) ?_
  refine xw_ci (xw_S (n := 1) (rest := []) C hw (kX2_reduced l G B w (xJ x * xJ y)) gX2_product_X2_reduced rfl rfl rfl (by decide +kernel) ⟨Nat.le_of_ble_eq_true rfl, Nat.le_of_ble_eq_true rfl⟩ rfl hl.1 rfl (Nat.le_of_ble_eq_true rfl) dX2_product_5 ⟨Nat.le_of_ble_eq_true rfl, Nat.le_of_ble_eq_true rfl⟩ hS) hS (fun ru u H locs hp hw hS => ?_)
  obtain ⟨hr, hu⟩ := hp
  rw [hu] at hw
  refine xw_ti (y := (xI (x * y))) (hr.trans (by rw [xR_mul])) ?_
  exact xw_iret C hw hS (Nat.le_of_ble_eq_true rfl) (Nat.le_of_ble_eq_true rfl) (⟨rfl, rfl⟩) dX2_product_8

abbrev rmX2_inverse : Room := { frames := 1, cells := 0, slots := 0, locals := 22 }
set_option maxHeartbeats 4000000 in
set_option maxRecDepth 100000 in
theorem kX2_inverse (l : Launch) (G : xG) (B : Nat) (w : xM) (x : xF) : Met l yX2_inverse wsX2_inverse rmX2_inverse (va_Pc [.int (xI x)] (xB G B w)) (va_Qi (fun r u => r = xI (xinv x) ∧ u = w) (xE G B) (xA B)) 0 0 (xA B) := by
  refine xw_start (own := RX2) (mn := "inverse") (cc := cX2_inverse) (nL := 4) (rt := (some .int)) (by decide) rfl rfl rfl (Nat.le_of_ble_eq_true rfl) ?_
  intro p ev s m below meth cd ls C hl hw hS
  obtain ⟨hx, hb, -, -, -, hts, -, -, -, -⟩ := id C
  have hl : lv_has ls 4 [(0, .int (xI x))] := hl
  refine lv_iconst (v := 1) hx hb dX2_inverse_0 (by decide) ?_
  refine lv_istore_n (lv' := [(1, .int 1), (0, .int (xI x))]) hx hb dX2_inverse_1 rfl hl (by decide) rfl (fun ls hl => ?_)
  refine lv_iload_n hx hb dX2_inverse_2 rfl (lv_at hl 1 rfl) ?_
  refine lv_istore_n (lv' := [(2, .int (xI x)), (1, .int 1), (0, .int (xI x))]) hx hb dX2_inverse_3 rfl hl (by decide) rfl (fun ls hl => ?_)
  refine lv_sipush (v := 32001) hx hb dX2_inverse_4 (by decide) ?_
  refine lv_istore_n (lv' := [(3, .int 32001), (2, .int (xI x)), (1, .int 1), (0, .int (xI x))]) hx hb dX2_inverse_7 rfl hl (by decide) rfl (fun ls hl => ?_)
  have loop : ∀ (f n : Nat) (r t : xF) (ls : Array Slot) (H : Heap) (locs : List Loc), n < 2 ^ f → n < 40000 → xW G B w H → va_S (xA B) s.heap H locs → lv_has ls 4 [(3, .int (nI n)), (2, .int (xI t)), (1, .int (xI r)), (0, .int (xI x))] → xpw f n r t = xinv x → W p l ev rmX2_inverse s m [.int (xI x)].toArray below meth cd H locs 0 0 (MQ below (va_Qi (fun r u => r = xI (xinv x) ∧ u = w) (xE G B) (xA B)) [.int (xI x)].toArray s 0 0 (xA B)) (F0 m 8 ls []) := by
    intro f
    induction f with
    | zero =>
      intro n r t ls H locs hn hn2 hw hS hl hv
      have hn0 : n = 0 := by simpa using hn
      subst hn0
      refine lv_iload_n hx hb dX2_inverse_8 rfl (lv_at hl 0 rfl) ?_
      refine lv_if_le (tgt := 44) hx hb dX2_inverse_9 (by decide) (fun _ => ?_) (fun hc => absurd (by decide) hc)
      refine lv_iload_n hx hb dX2_inverse_44 rfl (lv_at hl 2 rfl) ?_
      exact xw_iret C hw hS (Nat.le_of_ble_eq_true rfl) (Nat.le_of_ble_eq_true rfl) (⟨by rw [← hv, xpw_0], rfl⟩) dX2_inverse_45
    | succ f ih =>
      intro n r t ls H locs hn hn2 hw hS hl hv
      by_cases hz : n = 0
      · subst hz
        refine lv_iload_n hx hb dX2_inverse_8 rfl (lv_at hl 0 rfl) ?_
        refine lv_if_le (tgt := 44) hx hb dX2_inverse_9 (by decide) (fun _ => ?_) (fun hc => absurd (by decide) hc)
        refine lv_iload_n hx hb dX2_inverse_44 rfl (lv_at hl 2 rfl) ?_
        exact xw_iret C hw hS (Nat.le_of_ble_eq_true rfl) (Nat.le_of_ble_eq_true rfl) (⟨by rw [← hv, xpw_0], rfl⟩) dX2_inverse_45
      · rw [xpw_s _ _ hz] at hv
        refine lv_iload_n hx hb dX2_inverse_8 rfl (lv_at hl 0 rfl) ?_
        refine lv_if_le (tgt := 44) hx hb dX2_inverse_9 (by decide) (fun hc => absurd hc (nI_nle (Nat.pos_of_ne_zero hz) (by omega))) (fun _ => ?_)
        refine lv_iload_n hx hb dX2_inverse_12 rfl (lv_at hl 0 rfl) ?_
        refine lv_iconst (v := 1) hx hb dX2_inverse_13 (by decide) ?_
        refine lv_iand hx hb dX2_inverse_14 ?_
        refine xw_ti (y := (nI (n % 2))) (pk_andN (m := 1) (by omega) 1 (by decide)) ?_
        refine lv_iconst (v := 1) hx hb dX2_inverse_15 (by decide) ?_
        refine xw_ti (y := (nI 1)) (by decide) ?_
        refine lv_icmp_ne (tgt := 28) hx hb dX2_inverse_16 (by decide) (fun hc => ?_) (fun hc => ?_)
        · skip
          have hm : ¬ n % 2 = 1 := fun q => hc (by rw [q])
          refine lv_iload_n hx hb dX2_inverse_28 rfl (lv_at hl 1 rfl) ?_
          refine lv_i2l (v := ((xI t)).toInt64) hx hb dX2_inverse_29 rfl ?_
          refine lv_iload_n hx hb dX2_inverse_30 rfl (lv_at hl 1 rfl) ?_
          refine lv_i2l (v := ((xI t)).toInt64) hx hb dX2_inverse_31 rfl ?_
          refine lv_lmul hx hb dX2_inverse_32 ?_
          refine xw_tl (y := (xJ t * xJ t)) (by rw [xI_l]) ?_
          refine xw_ci (xw_S (n := 1) (rest := []) C hw (kX2_reduced l G B w (xJ t * xJ t)) gX2_inverse_X2_reduced rfl rfl rfl (by decide +kernel) ⟨Nat.le_of_ble_eq_true rfl, Nat.le_of_ble_eq_true rfl⟩ rfl hl.1 rfl (Nat.le_of_ble_eq_true rfl) dX2_inverse_33 ⟨Nat.le_of_ble_eq_true rfl, Nat.le_of_ble_eq_true rfl⟩ hS) hS (fun ru u H locs hp hw hS => ?_)
          obtain ⟨hr, hu⟩ := hp
          rw [hu] at hw
          refine xw_ti (y := (xI (t * t))) (hr.trans (by rw [xR_mul])) ?_
          refine lv_istore_n (lv' := [(2, .int (xI (t * t))), (3, .int (nI n)), (1, .int (xI r)), (0, .int (xI x))]) hx hb dX2_inverse_36 rfl hl (by decide) rfl (fun ls hl => ?_)
          refine lv_iload_n hx hb dX2_inverse_37 rfl (lv_at hl 1 rfl) ?_
          refine lv_iconst (v := 1) hx hb dX2_inverse_38 (by decide) ?_
          refine lv_ishr hx hb dX2_inverse_39 ?_
          refine xw_ti (y := (nI (n / 2))) (pk_shrN (by omega) _ 1 (by decide)) ?_
          refine lv_istore_n (lv' := [(3, .int (nI (n / 2))), (2, .int (xI (t * t))), (1, .int (xI r)), (0, .int (xI x))]) hx hb dX2_inverse_40 rfl hl (by decide) rfl (fun ls hl => ?_)
          refine lv_goto (tgt := 8) hx hb dX2_inverse_41 (by decide) ?_
          exact ih (n / 2) r (t * t) _ _ _ (by rw [Nat.pow_succ] at hn; omega) (by omega) hw hS (lv_sub hl [0, 1, 2, 3] rfl) (by rw [if_neg hm] at hv; exact hv)
        · skip
          have hm : n % 2 = 1 := (nI_eq (by omega) (by omega)).mp hc
          refine lv_iload_n hx hb dX2_inverse_19 rfl (lv_at hl 2 rfl) ?_
          refine lv_i2l (v := ((xI r)).toInt64) hx hb dX2_inverse_20 rfl ?_
          refine lv_iload_n hx hb dX2_inverse_21 rfl (lv_at hl 1 rfl) ?_
          refine lv_i2l (v := ((xI t)).toInt64) hx hb dX2_inverse_22 rfl ?_
          refine lv_lmul hx hb dX2_inverse_23 ?_
          refine xw_tl (y := (xJ r * xJ t)) (by rw [xI_l, xI_l]) ?_
          refine xw_ci (xw_S (n := 1) (rest := []) C hw (kX2_reduced l G B w (xJ r * xJ t)) gX2_inverse_X2_reduced rfl rfl rfl (by decide +kernel) ⟨Nat.le_of_ble_eq_true rfl, Nat.le_of_ble_eq_true rfl⟩ rfl hl.1 rfl (Nat.le_of_ble_eq_true rfl) dX2_inverse_24 ⟨Nat.le_of_ble_eq_true rfl, Nat.le_of_ble_eq_true rfl⟩ hS) hS (fun ru u H locs hp hw hS => ?_)
          obtain ⟨hr, hu⟩ := hp
          rw [hu] at hw
          refine xw_ti (y := (xI (r * t))) (hr.trans (by rw [xR_mul])) ?_
          refine lv_istore_n (lv' := [(1, .int (xI (r * t))), (3, .int (nI n)), (2, .int (xI t)), (0, .int (xI x))]) hx hb dX2_inverse_27 rfl hl (by decide) rfl (fun ls hl => ?_)
          refine lv_iload_n hx hb dX2_inverse_28 rfl (lv_at hl 2 rfl) ?_
          refine lv_i2l (v := ((xI t)).toInt64) hx hb dX2_inverse_29 rfl ?_
          refine lv_iload_n hx hb dX2_inverse_30 rfl (lv_at hl 2 rfl) ?_
          refine lv_i2l (v := ((xI t)).toInt64) hx hb dX2_inverse_31 rfl ?_
          refine lv_lmul hx hb dX2_inverse_32 ?_
          refine xw_tl (y := (xJ t * xJ t)) (by rw [xI_l]) ?_
          refine xw_ci (xw_S (n := 1) (rest := []) C hw (kX2_reduced l G B w (xJ t * xJ t)) gX2_inverse_X2_reduced rfl rfl rfl (by decide +kernel) ⟨Nat.le_of_ble_eq_true rfl, Nat.le_of_ble_eq_true rfl⟩ rfl hl.1 rfl (Nat.le_of_ble_eq_true rfl) dX2_inverse_33 ⟨Nat.le_of_ble_eq_true rfl, Nat.le_of_ble_eq_true rfl⟩ hS) hS (fun ru u H locs hp hw hS => ?_)
          obtain ⟨hr, hu⟩ := hp
          rw [hu] at hw
          refine xw_ti (y := (xI (t * t))) (hr.trans (by rw [xR_mul])) ?_
          refine lv_istore_n (lv' := [(2, .int (xI (t * t))), (1, .int (xI (r * t))), (3, .int (nI n)), (0, .int (xI x))]) hx hb dX2_inverse_36 rfl hl (by decide) rfl (fun ls hl => ?_)
          refine lv_iload_n hx hb dX2_inverse_37 rfl (lv_at hl 2 rfl) ?_
          refine lv_iconst (v := 1) hx hb dX2_inverse_38 (by decide) ?_
          refine lv_ishr hx hb dX2_inverse_39 ?_
          refine xw_ti (y := (nI (n / 2))) (pk_shrN (by omega) _ 1 (by decide)) ?_
          refine lv_istore_n (lv' := [(3, .int (nI (n / 2))), (2, .int (xI (t * t))), (1, .int (xI (r * t))), (0, .int (xI x))]) hx hb dX2_inverse_40 rfl hl (by decide) rfl (fun ls hl => ?_)
          refine lv_goto (tgt := 8) hx hb dX2_inverse_41 (by decide) ?_
          exact ih (n / 2) (r * t) (t * t) _ _ _ (by rw [Nat.pow_succ] at hn; omega) (by omega) hw hS (lv_sub hl [0, 1, 2, 3] rfl) (by rw [if_pos hm] at hv; exact hv)
  exact loop 15 32001 1 x _ _ _ (by decide) (by decide) hw hS hl rfl
end
section
/-! ===== polynomials in rows: what a Polynomial's cells hold ===== -/
def xrow (f : xP) : Nat → Int32 := fun k => xI (f k)
/-- one more than the highest place below n that isn't 0; 0 if there is none -/
def xlen (f : xP) : Nat → Nat
  | 0 => 0
  | n + 1 => if f n = 0 then xlen f n else n + 1
def xhi (f : xP) (n : Nat) : Int32 := nI (xlen f n) - 1
def xsup (f : xP) (n : Nat) : Prop := ∀ k, n ≤ k → f k = 0
theorem xlen_le (f : xP) (n : Nat) : xlen f n ≤ n := by
  induction n with
  | zero => exact Nat.le_refl _
  | succ n ih => unfold xlen; split <;> omega
theorem xlen_above {f : xP} {n k : Nat} (h : xlen f n ≤ k) (hk : k < n) : f k = 0 := by
  induction n with
  | zero => omega
  | succ n ih =>
    unfold xlen at h
    split at h
    · rename_i h0
      by_cases hh : k = n
      · subst hh; exact h0
      · exact ih h (by omega)
    · omega
theorem xlen_top {f : xP} {n j : Nat} (h : xlen f n = j + 1) : f j ≠ 0 := by
  induction n with
  | zero => simp [xlen] at h
  | succ n ih =>
    unfold xlen at h
    split at h
    · exact ih h
    · have : n = j := by omega
      subst this; assumption
theorem xlen_eq {f : xP} {n j : Nat} (hj : j ≤ n) (h : ∀ k, j ≤ k → k < n → f k = 0) (ht : j = 0 ∨ ∃ i, j = i + 1 ∧ f i ≠ 0) : xlen f n = j := by
  rcases Nat.lt_trichotomy (xlen f n) j with q | q | q
  · rcases ht with rfl | ⟨i, rfl, hi⟩
    · omega
    · exact absurd (xlen_above (f := f) (n := n) (k := i) (by omega) (by omega)) hi
  · exact q
  · obtain ⟨i, hi⟩ : ∃ i, xlen f n = i + 1 := ⟨xlen f n - 1, by omega⟩
    have := xlen_le f n
    exact absurd (h i (by omega) (by omega)) (xlen_top hi)
theorem xlen_n {f : xP} {n m : Nat} (h : xsup f n) (hnm : n ≤ m) : xlen f m = xlen f n := by
  refine xlen_eq (Nat.le_trans (xlen_le f n) hnm) (fun k h1 h2 => ?_) ?_
  · by_cases hk : k < n
    · exact xlen_above h1 hk
    · exact h k (by omega)
  · cases hh : xlen f n with
    | zero => exact Or.inl rfl
    | succ i => exact Or.inr ⟨i, rfl, xlen_top hh⟩
theorem xlen_sup {f : xP} {n : Nat} (h : xsup f n) : xsup f (xlen f n) := fun k hk => by
  by_cases hh : k < n
  · exact xlen_above hk hh
  · exact h k (by omega)
theorem xlen_0 {f : xP} {n : Nat} (h : xsup f n) : xlen f n = 0 ↔ ∀ k, f k = 0 := by
  constructor
  · intro q k; exact xlen_sup h k (by omega)
  · intro q
    cases hh : xlen f n with
    | zero => rfl
    | succ i => exact absurd (q i) (xlen_top hh)
theorem xlen_congr {f g : xP} {n : Nat} (h : ∀ k, k < n → f k = g k) : xlen f n = xlen g n := by
  induction n with
  | zero => rfl
  | succ n ih => unfold xlen; rw [h n (by omega), ih (fun k hk => h k (by omega))]
theorem xsup_mono {f : xP} {n m : Nat} (h : xsup f n) (hnm : n ≤ m) : xsup f m := fun k hk => h k (by omega)
theorem xsup_up {f : xP} {n k : Nat} {v : xF} (h : xsup f n) (hk : k < n) : xsup (va_up f k v) n := fun j hj => by
  rw [va_up_ne _ _ (by omega)]; exact h j hj
theorem xrow_up (f : xP) (k : Nat) (v : xF) : upd (xrow f) k (xI v) = xrow (va_up f k v) := by
  funext j
  by_cases h : j = k
  · subst h; simp [upd, xrow, va_up]
  · simp [upd, xrow, va_up, h]
/-- a Polynomial: the object h, its row r of n places, which hold f; n is small -/
def xPoly (G : xG) (w : xM) (h r n : Nat) (f : xP) : Prop := w h = some (.inr (2, [.ref r, .int (xhi f n)])) ∧ w r = some (.inl (G.2 0, n, .inl (xrow f))) ∧ xsup f n ∧ n ≤ 64
def xset (G : xG) (w : xM) (h r n : Nat) (f : xP) : xM := xu (xu w r (.inl (G.2 0, n, .inl (xrow f)))) h (.inr (2, [.ref r, .int (xhi f n)]))
theorem x_eo {a : ClassId × vp_A} {b : Nat × List Value} : (Sum.inl a : va_E) ≠ Sum.inr b := fun h => by cases h
theorem xPoly.ne {G : xG} {w : xM} {h r n : Nat} {f : xP} (q : xPoly G w h r n f) : r ≠ h := x_ne q.2.1 q.1 x_eo
/-- an object and a row are never the same cell -/
theorem xPoly.ne2 {G : xG} {w : xM} {h r n h' r' n' : Nat} {f f' : xP} (q : xPoly G w h r n f) (q' : xPoly G w h' r' n' f') : r ≠ h' ∧ r' ≠ h := ⟨x_ne q.2.1 q'.1 x_eo, x_ne q'.2.1 q.1 x_eo⟩
theorem xset_s {G : xG} {w : xM} {h r n : Nat} {f : xP} (hne : r ≠ h) (hs : xsup f n) (hn : n ≤ 64) : xPoly G (xset G w h r n f) h r n f :=
  ⟨xu_s _ _ _, by unfold xset; rw [xu_n _ _ hne, xu_s], hs, hn⟩
theorem xset_n {G : xG} {w : xM} {h r n h' r' n' : Nat} {f f' : xP} (q : xPoly G w h' r' n' f') (h1 : h' ≠ h) (h2 : r' ≠ r) (h3 : h' ≠ r) (h4 : r' ≠ h) : xPoly G (xset G w h r n f) h' r' n' f' :=
  ⟨by unfold xset; rw [xu_n _ _ h1, xu_n _ _ h3]; exact q.1, by unfold xset; rw [xu_n _ _ h4, xu_n _ _ h2]; exact q.2.1, q.2.2⟩
theorem xset_u {G : xG} {w : xM} {h r n : Nat} {f g : xP} (hne : r ≠ h) : xset G (xset G w h r n f) h r n g = xset G w h r n g := by
  unfold xset
  rw [xu_c _ _ _ (Ne.symm hne), xu_u, xu_u]
theorem xset_id {G : xG} {w : xM} {h r n : Nat} {f : xP} (q : xPoly G w h r n f) : xset G w h r n f = w := by
  unfold xset
  rw [xu_id w q.2.1, xu_id w q.1]
theorem xset_c {G : xG} {w : xM} {h r n h' r' n' : Nat} {f f' : xP} (h1 : h' ≠ h) (h2 : r' ≠ r) (h3 : h' ≠ r) (h4 : r' ≠ h) : xset G (xset G w h r n f) h' r' n' f' = xset G (xset G w h' r' n' f') h r n f := by
  unfold xset
  rw [xu_c _ _ _ (Ne.symm h4), xu_c _ _ _ (Ne.symm h2), xu_c (xu (xu w r' _) r _) _ _ (Ne.symm h1), xu_c _ _ _ (Ne.symm h3)]
/-- any other cell -/
theorem xset_o {G : xG} {w : xM} {h r n a : Nat} {f : xP} (h1 : a ≠ h) (h2 : a ≠ r) : xset G w h r n f a = w a := by
  unfold xset; rw [xu_n _ _ h1, xu_n _ _ h2]
/-- the int that 'highest' is -/
theorem x_m1 (j : Nat) : nI (j + 1) - 1 = nI j := nI_pred j
theorem x_neg : nI 0 - 1 < 0 := by decide
theorem x_hi_lt {j : Nat} (h : j < 2 ^ 31) : (nI j - 1 < 0) ↔ j = 0 := by
  cases j with
  | zero => exact ⟨fun _ => rfl, fun _ => x_neg⟩
  | succ i => rw [x_m1]; exact ⟨fun q => absurd q (nI_pos (by omega)), fun q => by omega⟩
/-- k < highest, as Java asks it -/
theorem x_lt_hi {k j : Nat} (hk : k < 2 ^ 30) (hj : j < 2 ^ 30) : nI k < nI j - 1 ↔ k + 1 < j := by
  cases j with
  | zero =>
    constructor
    · intro q
      have h1 := Int32.lt_iff_toInt_lt.mp q
      rw [nI_toInt (by omega), show (nI 0 - 1).toInt = -1 by decide] at h1
      omega
    · intro q; omega
  | succ i => rw [x_m1, nI_ltI (by omega) (by omega)]; omega
/-- what 'coefficient' answers -/
def xcf (f : xP) (x : Int32) : xF := if x < 0 then 0 else f x.toNatClampNeg
theorem xcf_n (f : xP) {k : Nat} (h : k < 2 ^ 31) : xcf f (nI k) = f k := by
  unfold xcf; rw [if_neg (nI_pos h), nI_clamp h]
theorem xcf_m1 (f : xP) : xcf f (-1) = 0 := by unfold xcf; rw [if_pos (by decide)]
/-- 'put' at a place at or above the highest -/
theorem xlen_put {f : xP} {n k : Nat} {v : xF} (hk : k < n) (h : xlen f n ≤ k + 1) : ∀ i, k + 1 ≤ i → i < n → va_up f k v i = 0 := fun i h1 h2 => by
  rw [va_up_ne _ _ (by omega)]; exact xlen_above (by omega) h2
/-- 'put' below the highest -/
theorem xhi_put {f : xP} {n k : Nat} {v : xF} (h : k + 1 < xlen f n) : xhi (va_up f k v) n = xhi f n := by
  unfold xhi
  obtain ⟨i, hi⟩ : ∃ i, xlen f n = i + 1 := ⟨xlen f n - 1, by omega⟩
  rw [hi, xlen_eq (j := i + 1)]
  · have := xlen_le f n; omega
  · intro j h1 h2
    rw [va_up_ne _ _ (by omega)]; exact xlen_above (by omega) h2
  · exact Or.inr ⟨i, rfl, by rw [va_up_ne _ _ (by omega)]; exact xlen_top hi⟩
end
section
/-! ===== what Polynomial's methods do to the numbers: pure rows ===== -/
theorem x_dec (a : Int32) : a + Int32.ofInt (-1) = a - 1 := by rw [Int32.sub_eq_add_neg]; rfl
theorem x_inc (k : Nat) : nI k + Int32.ofInt 1 = nI (k + 1) := nI_1 k
/-- k > highest, as Java asks it -/
theorem x_gt_hi {k j : Nat} (hk : k < 2 ^ 30) (hj : j < 2 ^ 30) : nI j - 1 < nI k ↔ j ≤ k := by
  cases j with
  | zero =>
    refine ⟨fun _ => Nat.zero_le _, fun _ => ?_⟩
    apply Int32.lt_iff_toInt_lt.mpr
    rw [nI_toInt (n := k) (by omega), show (nI 0 - 1).toInt = -1 by decide]
    omega
  | succ i => rw [x_m1, nI_ltI (by omega) (by omega)]; omega
/-- highest ≤ k, as Java asks it -/
theorem x_ge_hi {k j : Nat} (hk : k < 2 ^ 30) (hj : j < 2 ^ 30) : nI j - 1 ≤ nI k ↔ j ≤ k + 1 := by
  cases j with
  | zero =>
    refine ⟨fun _ => Nat.zero_le _, fun _ => ?_⟩
    apply Int32.le_iff_toInt_le.mpr
    rw [nI_toInt (n := k) (by omega), show (nI 0 - 1).toInt = -1 by decide]
    omega
  | succ i => rw [x_m1, nI_leI (by omega) (by omega)]; omega
theorem x_lenB (f : xP) {n : Nat} (h : n ≤ 64) : xlen f n < 2 ^ 30 := by have := xlen_le f n; omega
/-- f below j -/
def xcut (f : xP) (j : Nat) : xP := fun i => if i < j then f i else 0
theorem xcut_0 (f : xP) : xcut f 0 = fun _ => 0 := by funext i; simp [xcut]
theorem xcut_sup {f : xP} {n : Nat} (h : xsup f n) : xcut f n = f := by
  funext i; unfold xcut; split
  · rfl
  · rename_i hh; exact (h i (by omega)).symm
theorem xcut_dn (f : xP) (j : Nat) : va_up (xcut f (j + 1)) j 0 = xcut f j := by
  funext i
  by_cases h : i = j
  · subst h; simp [va_up, xcut]
  · simp only [va_up, xcut, h, if_false]
    by_cases h2 : i < j
    · rw [if_pos (by omega), if_pos h2]
    · rw [if_neg (by omega), if_neg h2]
theorem xcut_up (f : xP) (j : Nat) : va_up (xcut f j) j (f j) = xcut f (j + 1) := by
  funext i
  by_cases h : i = j
  · subst h; simp [va_up, xcut]
  · simp only [va_up, xcut, h, if_false]
    by_cases h2 : i < j
    · rw [if_pos h2, if_pos (by omega)]
    · rw [if_neg h2, if_neg (by omega)]
theorem xsup_cut (f : xP) {j n : Nat} (h : j ≤ n) : xsup (xcut f j) n := fun k hk => by unfold xcut; rw [if_neg (by omega)]
theorem xsup_cut2 {f : xP} {j n : Nat} (h : xsup f n) : xsup (xcut f j) n := fun k hk => by
  unfold xcut; split
  · exact h k hk
  · rfl
theorem xsup_z (n : Nat) : xsup (fun _ => 0) n := fun _ _ => rfl
theorem xhi_z (n : Nat) : xhi (fun _ => 0) n = -1 := by
  unfold xhi; rw [(xlen_0 (xsup_z n)).mpr (fun _ => rfl)]; decide
/-- the product -/
def xmul (f g : xP) : xP := fun k => xS (k + 1) (fun i => f i * g (k - i))
theorem xmul_sup {f g : xP} {a b : Nat} (hf : xsup f a) (hg : xsup g b) : xsup (xmul f g) (a + b - 1) := fun k hk => by
  refine xS_zero (fun i hi => ?_)
  by_cases h : i < a
  · rw [hg (k - i) (by omega)]; grind
  · rw [hf i (by omega)]; grind
/-- this + factor * n^power * other -/
def xgat (f : xP) (q : xF) (g : xP) (pw : Nat) : xP := fun i => if pw ≤ i then f i + q * g (i - pw) else f i
/-- .. as far as k -/
def xgatk (f : xP) (q : xF) (g : xP) (pw k : Nat) : xP := fun i => if pw ≤ i ∧ i < pw + k then f i + q * g (i - pw) else f i
theorem xgatk_0 (f : xP) (q : xF) (g : xP) (pw : Nat) : xgatk f q g pw 0 = f := by
  funext i; unfold xgatk; rw [if_neg (by omega)]
theorem xgatk_s (f : xP) (q : xF) (g : xP) (pw k : Nat) : va_up (xgatk f q g pw k) (k + pw) (xgatk f q g pw k (k + pw) + q * g k) = xgatk f q g pw (k + 1) := by
  funext i
  by_cases h : i = k + pw
  · subst h
    rw [va_up_self]; unfold xgatk
    rw [if_neg (by omega), if_pos (by omega), show k + pw - pw = k by omega]
  · rw [va_up_ne _ _ h]; unfold xgatk
    by_cases h2 : pw ≤ i ∧ i < pw + k
    · rw [if_pos h2, if_pos (by omega)]
    · rw [if_neg h2, if_neg (by omega)]
theorem xgatk_end (f : xP) (q : xF) {g : xP} {pw k : Nat} (h : xsup g k) : xgatk f q g pw k = xgat f q g pw := by
  funext i; unfold xgatk xgat
  by_cases h1 : pw ≤ i
  · rw [if_pos h1]
    by_cases h2 : i < pw + k
    · rw [if_pos ⟨h1, h2⟩]
    · rw [if_neg (by omega), h (i - pw) (by omega)]; grind
  · rw [if_neg h1, if_neg (by omega)]
theorem xgatk_sup {f : xP} {q : xF} {g : xP} {pw k n : Nat} (hf : xsup f n) (hk : pw + k ≤ n) : xsup (xgatk f q g pw k) n := fun i hi => by
  unfold xgatk; rw [if_neg (by omega)]; exact hf i hi
theorem xgat_sup {f : xP} {q : xF} {g : xP} {pw k n : Nat} (hf : xsup f n) (hg : xsup g k) (hk : k + pw ≤ n) : xsup (xgat f q g pw) n := by
  rw [← xgatk_end f q hg]; exact xgatk_sup hf (by omega)
/-- the sum that gather puts -/
theorem xR_gat (a g : xF) {q : Nat} (hq : q ≤ 32003) : xR (xJ a + lN q * xJ g) = a + xO q * g := by
  unfold xJ
  rw [lN_mul, lN_add]
  have h1 := a.isLt
  have h2 := g.isLt
  have h3 := Nat.mul_le_mul hq (show g.val ≤ 32002 by omega)
  rw [xR_lN (by omega), xO_add, xO_mul, xO_self, xO_self]
theorem xR_add (a b : xF) : xR (xJ a + xJ b) = a + b := by
  unfold xJ
  rw [lN_add]
  have h1 := a.isLt
  have h2 := b.isLt
  rw [xR_lN (by omega), xO_add, xO_self, xO_self]
theorem xR_ma (a v b : xF) : xR (xJ a * xJ v + xJ b) = a * v + b := by
  unfold xJ
  rw [lN_mul, lN_add]
  have h1 := x_val_mul_lt a v
  have h2 := b.isLt
  rw [xR_lN (by omega), xO_add, xO_mul, xO_self, xO_self, xO_self]
theorem xR_am (a v b : xF) : xR (xJ a + xJ v * xJ b) = a + v * b := by
  unfold xJ
  rw [lN_mul, lN_add]
  have h1 := x_val_mul_lt v b
  have h2 := a.isLt
  rw [xR_lN (by omega), xO_add, xO_mul, xO_self, xO_self, xO_self]
/-- times a number, from j on -/
def xsca (f : xP) (v : xF) (j : Nat) : xP := fun i => if i < j then f i else f i * v
theorem xsca_top {f : xP} {j : Nat} (v : xF) (h : xsup f j) : xsca f v j = f := by
  funext i; unfold xsca; split
  · rfl
  · rw [h i (by omega)]; grind
theorem xsca_dn (f : xP) (v : xF) (j : Nat) : va_up (xsca f v (j + 1)) j (f j * v) = xsca f v j := by
  funext i
  by_cases h : i = j
  · subst h; rw [va_up_self]; unfold xsca; rw [if_neg (by omega)]
  · rw [va_up_ne _ _ h]; unfold xsca
    by_cases h2 : i < j
    · rw [if_pos (by omega), if_pos h2]
    · rw [if_neg (by omega), if_neg h2]
theorem xsca_at (f : xP) (v : xF) (j : Nat) : xsca f v (j + 1) j = f j := by unfold xsca; rw [if_pos (by omega)]
theorem xsca_0 (f : xP) (v : xF) : xsca f v 0 = fun i => f i * v := by funext i; simp [xsca]
theorem xsca_sup {f : xP} {v : xF} {j n : Nat} (h : xsup f n) : xsup (xsca f v j) n := fun i hi => by
  unfold xsca; rw [h i hi]; split
  · rfl
  · grind
/-- times n + s, from j on -/
def xsh (f : xP) : xP := fun i => match i with
  | 0 => 0
  | i + 1 => f i
def xlin (f : xP) (v : xF) : xP := fun i => xsh f i + v * f i
def xlink (f : xP) (v : xF) (j : Nat) : xP := fun i => if i < j then f i else xlin f v i
theorem xlin_sup {f : xP} {v : xF} {n : Nat} (h : xsup f n) : xsup (xlin f v) (n + 1) := fun i hi => by
  unfold xlin
  obtain ⟨k, rfl⟩ : ∃ k, i = k + 1 := ⟨i - 1, by omega⟩
  show f k + v * f (k + 1) = 0
  rw [h k (by omega), h (k + 1) (by omega)]; grind
theorem xlink_top {f : xP} {v : xF} {j : Nat} (h : xsup f j) : xlink f v (j + 1) = f := by
  funext i; unfold xlink; split
  · rfl
  · rw [xlin_sup h i (by omega), h i (by omega)]
theorem xlink_dn (f : xP) (v : xF) (j : Nat) : va_up (xlink f v (j + 1)) j (xlin f v j) = xlink f v j := by
  funext i
  by_cases h : i = j
  · subst h; rw [va_up_self]; unfold xlink; rw [if_neg (by omega)]
  · rw [va_up_ne _ _ h]; unfold xlink
    by_cases h2 : i < j
    · rw [if_pos (by omega), if_pos h2]
    · rw [if_neg (by omega), if_neg h2]
theorem xlink_at (f : xP) (v : xF) (j : Nat) : xlink f v (j + 1) j = f j := by unfold xlink; rw [if_pos (by omega)]
theorem xlink_0 (f : xP) (v : xF) : xlink f v 0 = xlin f v := by funext i; simp [xlink]
theorem xlink_sup {f : xP} {v : xF} {j n : Nat} (h : xsup f n) : xsup (xlink f v j) (n + 1) := fun i hi => by
  unfold xlink; split
  · exact h i (by omega)
  · exact xlin_sup h i hi
theorem xcf_sh (f : xP) (v : xF) {j : Nat} (hj : j < 2 ^ 30) : xcf (xlink f v (j + 1)) (nI j - 1) = xsh f j := by
  cases j with
  | zero => unfold xcf; rw [if_pos x_neg]; rfl
  | succ i => rw [x_m1, xcf_n _ (by omega)]; unfold xlink; rw [if_pos (by omega)]; rfl
/-- sums from the top, from j on -/
def xsuf (f : xP) (L j : Nat) : xP := fun i => if j ≤ i then xS (L - i) (fun t => f (i + t)) else f i
theorem xsuf_top {f : xP} {L : Nat} (h : xsup f L) (hL : 1 ≤ L) : xsuf f L (L - 1) = f := by
  funext i; unfold xsuf; split
  · by_cases hi : i = L - 1
    · subst hi
      rw [show L - (L - 1) = 1 by omega, xS_s, xS_0]; simp only [Nat.add_zero]; grind
    · rw [show L - i = 0 by omega, xS_0, h i (by omega)]
  · rfl
theorem xsuf_dn {f : xP} {L j : Nat} (hj : j + 1 < L) : va_up (xsuf f L (j + 1)) j (f j + xsuf f L (j + 1) (j + 1)) = xsuf f L j := by
  funext i
  by_cases h : i = j
  · subst h; rw [va_up_self]; unfold xsuf
    rw [if_pos (Nat.le_refl _), if_pos (Nat.le_refl _)]
    obtain ⟨d, hd⟩ : ∃ d, L - i = d + 1 := ⟨L - i - 1, by omega⟩
    rw [hd, xS_head, show L - (i + 1) = d by omega]
    simp only [Nat.add_zero]
    congr 1
    exact xS_congr (fun t _ => by congr 1; omega)
  · rw [va_up_ne _ _ h]; unfold xsuf
    by_cases h2 : j ≤ i
    · rw [if_pos (by omega), if_pos h2]
    · rw [if_neg (by omega), if_neg h2]
theorem xsuf_at {f : xP} {L j : Nat} : xsuf f L (j + 1) j = f j := by unfold xsuf; rw [if_neg (by omega)]
theorem xsuf_sup {f : xP} {L j n : Nat} (h : xsup f n) (hL : L ≤ n) : xsup (xsuf f L j) n := fun i hi => by
  unfold xsuf; split
  · rw [show L - i = 0 by omega]; rfl
  · exact h i hi
theorem xsuf_len {f : xP} {n j : Nat} (h : xsup f n) (hj : j + 1 ≤ xlen f n) : xlen (xsuf f (xlen f n) j) n = xlen f n := by
  obtain ⟨i, hi⟩ : ∃ i, xlen f n = i + 1 := ⟨xlen f n - 1, by omega⟩
  refine xlen_eq (xlen_le f n) (fun k h1 h2 => ?_) (Or.inr ⟨i, hi, ?_⟩)
  · unfold xsuf
    rw [if_pos (by omega), show xlen f n - k = 0 by omega]; rfl
  · unfold xsuf
    rw [if_pos (by omega), hi, show i + 1 - i = 1 by omega, xS_s, xS_0]
    simp only [Nat.add_zero]
    have := xlen_top hi
    intro q; apply this; grind
/-- the first d passes of moveByOne -/
def xpas (L : Nat) : Nat → xP → xP
  | 0, f => f
  | d + 1, f => xsuf (xpas L d f) L d
theorem xpas_sup {f : xP} {n : Nat} (h : xsup f n) (L d : Nat) (hL : L ≤ n) : xsup (xpas L d f) n := by
  induction d with
  | zero => exact h
  | succ d ih => exact xsuf_sup ih hL
theorem xpas_len {f : xP} {n : Nat} (h : xsup f n) (d : Nat) (hd : d ≤ xlen f n - 1) : xlen (xpas (xlen f n) d f) n = xlen f n := by
  induction d with
  | zero => rfl
  | succ d ih =>
    have e := ih (by omega)
    show xlen (xsuf (xpas (xlen f n) d f) (xlen f n) d) n = xlen f n
    have := xsuf_len (xpas_sup h (xlen f n) d (xlen_le f n)) (j := d) (by rw [e]; omega)
    rw [e] at this
    exact this
/-- moveByOne -/
def xmv (n : Nat) (f : xP) : xP := xpas (xlen f n) (xlen f n - 1) f
/-- Horner's scheme -/
def xhor (f : xP) (v : xF) : Nat → xF → xF
  | 0, a => a
  | j + 1, a => xhor f v j (a * v + f j)
/-- division: the rest and the quotient -/
def xdv (g : xP) (b : Nat) (iv : xF) : Nat → xP → xP → xP × xP
  | 0, f, z => (f, z)
  | k + 1, f, z => xdv g b iv k (xgat f (xO (32003 - (f (k + b) * iv).val)) g k) (va_up z k (f (k + b) * iv))
theorem xdv_0 (g : xP) (b : Nat) (iv : xF) (f z : xP) : xdv g b iv 0 f z = (f, z) := rfl
theorem xdv_s (g : xP) (b : Nat) (iv : xF) (k : Nat) (f z : xP) : xdv g b iv (k + 1) f z = xdv g b iv k (xgat f (xO (32003 - (f (k + b) * iv).val)) g k) (va_up z k (f (k + b) * iv)) := rfl
end
section
/-! ===== Polynomial, first half (laid by wip/whole/m_poly.py) ===== -/
abbrev rmX3_isZero : Room := { frames := 0, cells := 0, slots := 0, locals := 0 }
theorem iX3_isZero_X3 : ∀ w ∈ wsX30, w ∈ wsX3_isZero := by decide +kernel
set_option maxHeartbeats 4000000 in
set_option maxRecDepth 100000 in
theorem kX3_isZero (l : Launch) (G : xG) (B : Nat) (w : xM) (h r n : Nat) (f : xP) (hp : xPoly G w h r n f) : Met l yX3_isZero wsX3_isZero rmX3_isZero (va_Pc [.ref h] (xB G B w)) (va_Qi (fun z u => ((z = 1 ∧ xlen f n = 0) ∨ (z = 0 ∧ xlen f n ≠ 0)) ∧ u = w) (xE G B) (xA B)) 0 0 (xA B) := by
  refine xw_start (own := RX3) (mn := "isZero") (cc := cX3_isZero) (nL := 1) (rt := (some .boolean)) (by decide) rfl rfl rfl (Nat.le_of_ble_eq_true rfl) ?_
  intro p ev s m below meth cd ls C hl hw hS
  obtain ⟨hx, hb, -, -, -, hts, -, -, -, -⟩ := id C
  have hl : lv_has ls 1 [(0, .ref h)] := hl
  have hL := x_lenB f hp.2.2.2
  refine lv_aload_n hx hb dX3_isZero_0 rfl (lv_at hl 0 rfl) ?_
  refine xw_get C hw (hp).1 (ci := 2) rfl iX3_isZero_X3 1 (by decide) (by decide +kernel) rfl dX3_isZero_1 ?_
  refine lv_if_ge (tgt := 11) hx hb dX3_isZero_4 (by decide) (fun hc => ?_) (fun hc => ?_)
  · skip
    refine lv_iconst (v := 0) hx hb dX3_isZero_11 (by decide) ?_
    exact xw_zret C hw hS (Nat.le_of_ble_eq_true rfl) (Nat.le_of_ble_eq_true rfl) (Or.inl rfl) (⟨Or.inr ⟨rfl, fun q => by unfold xhi at hc; rw [q] at hc; exact absurd hc (by decide)⟩, rfl⟩) dX3_isZero_12
  · skip
    refine lv_iconst (v := 1) hx hb dX3_isZero_7 (by decide) ?_
    refine lv_goto (tgt := 12) hx hb dX3_isZero_8 (by decide) ?_
    exact xw_zret C hw hS (Nat.le_of_ble_eq_true rfl) (Nat.le_of_ble_eq_true rfl) (Or.inr rfl) (⟨Or.inl ⟨rfl, (x_hi_lt (by omega)).mp (by unfold xhi at hc; exact Int32.not_le.mp hc)⟩, rfl⟩) dX3_isZero_12

abbrev rmX3_coefficient : Room := { frames := 0, cells := 0, slots := 0, locals := 0 }
theorem iX3_coefficient_X3 : ∀ w ∈ wsX30, w ∈ wsX3_coefficient := by decide +kernel
set_option maxHeartbeats 4000000 in
set_option maxRecDepth 100000 in
theorem kX3_coefficient (l : Launch) (G : xG) (B : Nat) (w : xM) (h r n : Nat) (f : xP) (x : Int32) (hp : xPoly G w h r n f) : Met l yX3_coefficient wsX3_coefficient rmX3_coefficient (va_Pc [.ref h, .int x] (xB G B w)) (va_Qi (fun r u => r = xI (xcf f x) ∧ u = w) (xE G B) (xA B)) 0 0 (xA B) := by
  refine xw_start (own := RX3) (mn := "coefficient") (cc := cX3_coefficient) (nL := 2) (rt := (some .int)) (by decide) rfl rfl rfl (Nat.le_of_ble_eq_true rfl) ?_
  intro p ev s m below meth cd ls C hl hw hS
  obtain ⟨hx, hb, -, -, -, hts, -, -, -, -⟩ := id C
  have hl : lv_has ls 2 [(0, .ref h), (1, .int x)] := hl
  have hn := hp.2.2.2
  refine lv_iload_n hx hb dX3_coefficient_0 rfl (lv_at hl 1 rfl) ?_
  refine lv_if_lt (tgt := 22) hx hb dX3_coefficient_1 (by decide) (fun hc => ?_) (fun hc => ?_)
  · skip
    refine lv_iconst (v := 0) hx hb dX3_coefficient_22 (by decide) ?_
    exact xw_iret C hw hS (Nat.le_of_ble_eq_true rfl) (Nat.le_of_ble_eq_true rfl) (⟨by unfold xcf; rw [if_pos hc, xI_0], rfl⟩) dX3_coefficient_23
  · skip
    obtain ⟨j, hj, rfl⟩ := nI_of hc
    refine lv_iload_n hx hb dX3_coefficient_4 rfl (lv_at hl 1 rfl) ?_
    refine lv_aload_n hx hb dX3_coefficient_5 rfl (lv_at hl 0 rfl) ?_
    refine xw_get C hw (hp).1 (ci := 2) rfl iX3_coefficient_X3 0 (by decide) (by decide +kernel) rfl dX3_coefficient_6 ?_
    refine xw_alen C hw 0 rfl (hp).2.1 (N := n) rfl dX3_coefficient_9 ?_
    refine xw_cge (tgt := 22) hx hb dX3_coefficient_10 (by decide) hj (by omega) (fun hc2 => ?_) (fun hc2 => ?_)
    · skip
      refine lv_iconst (v := 0) hx hb dX3_coefficient_22 (by decide) ?_
      exact xw_iret C hw hS (Nat.le_of_ble_eq_true rfl) (Nat.le_of_ble_eq_true rfl) (⟨by rw [xcf_n _ hj, hp.2.2.1 j hc2, xI_0], rfl⟩) dX3_coefficient_23
    · skip
      refine lv_aload_n hx hb dX3_coefficient_13 rfl (lv_at hl 0 rfl) ?_
      refine xw_get C hw (hp).1 (ci := 2) rfl iX3_coefficient_X3 0 (by decide) (by decide +kernel) rfl dX3_coefficient_14 ?_
      refine lv_iload_n hx hb dX3_coefficient_17 rfl (lv_at hl 1 rfl) ?_
      refine xw_ialdN C hw (hp).2.1 hc2 (by omega) dX3_coefficient_18 ?_
      refine xw_ti (y := (xI (f j))) (rfl) ?_
      refine lv_goto (tgt := 23) hx hb dX3_coefficient_19 (by decide) ?_
      exact xw_iret C hw hS (Nat.le_of_ble_eq_true rfl) (Nat.le_of_ble_eq_true rfl) (⟨by rw [xcf_n _ hj], rfl⟩) dX3_coefficient_23

abbrev rmX3_leading : Room := { frames := 1, cells := 0, slots := 0, locals := 21 }
theorem iX3_leading_X3 : ∀ w ∈ wsX30, w ∈ wsX3_leading := by decide +kernel
set_option maxHeartbeats 4000000 in
set_option maxRecDepth 100000 in
theorem kX3_leading (l : Launch) (G : xG) (B : Nat) (w : xM) (h r n : Nat) (f : xP) (hp : xPoly G w h r n f) : Met l yX3_leading wsX3_leading rmX3_leading (va_Pc [.ref h] (xB G B w)) (va_Qi (fun r u => r = xI (xcf f (xhi f n)) ∧ u = w) (xE G B) (xA B)) 0 0 (xA B) := by
  refine xw_start (own := RX3) (mn := "leading") (cc := cX3_leading) (nL := 1) (rt := (some .int)) (by decide) rfl rfl rfl (Nat.le_of_ble_eq_true rfl) ?_
  intro p ev s m below meth cd ls C hl hw hS
  obtain ⟨hx, hb, -, -, -, hts, -, -, -, -⟩ := id C
  have hl : lv_has ls 1 [(0, .ref h)] := hl
  refine lv_aload_n hx hb dX3_leading_0 rfl (lv_at hl 0 rfl) ?_
  refine lv_aload_n hx hb dX3_leading_1 rfl (lv_at hl 0 rfl) ?_
  refine xw_get C hw (hp).1 (ci := 2) rfl iX3_leading_X3 1 (by decide) (by decide +kernel) rfl dX3_leading_2 ?_
  refine xw_ci (xw_V (n := 1) (rest := []) C hw (kX3_coefficient l G B w h r n f (xhi f n) hp) gX3_leading_X3_coefficient rfl rfl rfl (by decide +kernel) ⟨Nat.le_of_ble_eq_true rfl, Nat.le_of_ble_eq_true rfl⟩ (hp).1 rfl rfl hl.1 rfl (Nat.le_of_ble_eq_true rfl) dX3_leading_5 ⟨Nat.le_of_ble_eq_true rfl, Nat.le_of_ble_eq_true rfl⟩ hS) hS (fun ru u H locs hp hw hS => ?_)
  obtain ⟨hr, hu⟩ := hp
  rw [hu] at hw
  refine xw_ti (y := (xI (xcf f (xhi f n)))) (hr) ?_
  exact xw_iret C hw hS (Nat.le_of_ble_eq_true rfl) (Nat.le_of_ble_eq_true rfl) (⟨rfl, rfl⟩) dX3_leading_8

abbrev rmX3_put : Room := { frames := 0, cells := 0, slots := 0, locals := 0 }
theorem iX3_put_X3 : ∀ w ∈ wsX30, w ∈ wsX3_put := by decide +kernel
set_option maxHeartbeats 4000000 in
set_option maxRecDepth 100000 in
theorem kX3_put (l : Launch) (G : xG) (B : Nat) (w : xM) (h r n : Nat) (f : xP) (k : Nat) (v : xF) (hp : xPoly G w h r n f) (hk : k < n) : Met l yX3_put wsX3_put rmX3_put (va_Pc [.ref h, .int (nI k), .int (xI v)] (xB G B w)) (va_Qv (fun u => u = xset G w h r n (va_up f k v)) (xE G B) (xA B)) 0 0 (xA B) := by
  refine xw_start (own := RX3) (mn := "put") (cc := cX3_put) (nL := 4) (rt := none) (by decide) rfl rfl rfl (Nat.le_of_ble_eq_true rfl) ?_
  intro p ev s m below meth cd ls C hl hw hS
  obtain ⟨hx, hb, -, -, -, hts, -, -, -, -⟩ := id C
  have hl : lv_has ls 4 [(0, .ref h), (1, .int (nI k)), (2, .int (xI v))] := hl
  have hn := hp.2.2.2
  have hlen := xlen_le f n
  refine lv_iload_n hx hb dX3_put_0 rfl (lv_at hl 1 rfl) ?_
  refine lv_if_lt (tgt := 13) hx hb dX3_put_1 (by decide) (fun hc => absurd hc (nI_pos (by omega))) (fun _ => ?_)
  refine lv_iload_n hx hb dX3_put_4 rfl (lv_at hl 1 rfl) ?_
  refine lv_aload_n hx hb dX3_put_5 rfl (lv_at hl 0 rfl) ?_
  refine xw_get C hw (hp).1 (ci := 2) rfl iX3_put_X3 0 (by decide) (by decide +kernel) rfl dX3_put_6 ?_
  refine xw_alen C hw 0 rfl (hp).2.1 (N := n) rfl dX3_put_9 ?_
  refine lv_icmp_lt (tgt := 14) hx hb dX3_put_10 (by decide) (fun _ => ?_) (fun hc => absurd ((nI_ltI (by omega) (by omega)).mpr hk) hc)
  refine lv_aload_n hx hb dX3_put_14 rfl (lv_at hl 0 rfl) ?_
  refine xw_get C hw (hp).1 (ci := 2) rfl iX3_put_X3 0 (by decide) (by decide +kernel) rfl dX3_put_15 ?_
  refine lv_iload_n hx hb dX3_put_18 rfl (lv_at hl 1 rfl) ?_
  refine lv_iload_n hx hb dX3_put_19 rfl (lv_at hl 2 rfl) ?_
  refine xw_iastN C hw hS (hp).2.1 hk (by omega) dX3_put_20 (fun H locs hw hS => ?_)
  have hw : xW G B (xu w r (.inl (G.2 0, n, .inl (xrow (va_up f k v))))) H := by rw [← xrow_up]; exact hw
  have hh : xu w r (.inl (G.2 0, n, .inl (xrow (va_up f k v)))) h = some (.inr (2, [.ref r, .int (xhi f n)])) := (xu_n _ _ (Ne.symm hp.ne)).trans hp.1
  refine lv_iload_n hx hb dX3_put_21 rfl (lv_at hl 1 rfl) ?_
  refine lv_aload_n hx hb dX3_put_22 rfl (lv_at hl 0 rfl) ?_
  refine xw_get C hw hh (ci := 2) rfl iX3_put_X3 1 (by decide) (by decide +kernel) rfl dX3_put_23 ?_
  refine lv_icmp_lt (tgt := 55) hx hb dX3_put_26 (by decide) (fun hc => ?_) (fun hc => ?_)
  · skip
    exact xw_vret C hw hS (Nat.le_of_ble_eq_true rfl) (Nat.le_of_ble_eq_true rfl) (by unfold xset; rw [xhi_put ((x_lt_hi (by omega) (by omega)).mp hc)]; exact (xu_id _ hh).symm) dX3_put_55
  · skip
    have hk2 : xlen f n ≤ k + 1 := Nat.not_lt.mp fun q => hc ((x_lt_hi (by omega) (by omega)).mpr q)
    refine lv_iload_n hx hb dX3_put_29 rfl (lv_at hl 1 rfl) ?_
    refine lv_istore_n (lv' := [(3, .int (nI k)), (0, .ref h), (1, .int (nI k)), (2, .int (xI v))]) hx hb dX3_put_30 rfl hl (by decide) rfl (fun ls hl => ?_)
    have loop : ∀ (j : Nat) (ls : Array Slot), j ≤ k + 1 → (∀ i, j ≤ i → i < n → va_up f k v i = 0) → lv_has ls 4 [(3, .int (nI j - 1)), (0, .ref h), (1, .int (nI k)), (2, .int (xI v))] → W p l ev rmX3_put s m [.ref h, .int (nI k), .int (xI v)].toArray below meth cd H locs 0 0 (MQ below (va_Qv (fun u => u = xset G w h r n (va_up f k v)) (xE G B) (xA B)) [.ref h, .int (nI k), .int (xI v)].toArray s 0 0 (xA B)) (F0 m 31 ls []) := by
      intro j
      induction j with
      | zero =>
        intro ls hj hz hl
        refine lv_iload_n hx hb dX3_put_31 rfl (lv_at hl 0 rfl) ?_
        refine lv_if_lt (tgt := 50) hx hb dX3_put_32 (by decide) (fun _ => ?_) (fun hc => absurd (x_neg) hc)
        refine lv_aload_n hx hb dX3_put_50 rfl (lv_at hl 1 rfl) ?_
        refine lv_iload_n hx hb dX3_put_51 rfl (lv_at hl 0 rfl) ?_
        refine xw_put C hw hS hh (ci := 2) rfl iX3_put_X3 tyX3 tyX3_ok nmX3 1 (by decide) (by decide +kernel) rfl (ty := .int) (by decide +kernel) rfl rfl (Nat.le_of_ble_eq_true rfl) dX3_put_52 (fun H locs hw hS => ?_)
        have hw : xW G B (xset G w h r n (va_up f k v)) H := by unfold xset xhi; rw [xlen_eq (j := 0) (Nat.zero_le _) hz (Or.inl rfl)]; exact hw
        exact xw_vret C hw hS (Nat.le_of_ble_eq_true rfl) (Nat.le_of_ble_eq_true rfl) (rfl) dX3_put_55
      | succ i ih =>
        intro ls hj hz hl
        have hl : lv_has ls 4 [(3, .int (nI i)), (0, .ref h), (1, .int (nI k)), (2, .int (xI v))] := by rw [← (show (nI (i + 1) - 1) = (nI i) from x_m1 i)]; exact hl
        refine lv_iload_n hx hb dX3_put_31 rfl (lv_at hl 0 rfl) ?_
        refine lv_if_lt (tgt := 50) hx hb dX3_put_32 (by decide) (fun hc => absurd hc (nI_pos (by omega))) (fun _ => ?_)
        refine lv_aload_n hx hb dX3_put_35 rfl (lv_at hl 1 rfl) ?_
        refine xw_get C hw hh (ci := 2) rfl iX3_put_X3 0 (by decide) (by decide +kernel) rfl dX3_put_36 ?_
        refine lv_iload_n hx hb dX3_put_39 rfl (lv_at hl 0 rfl) ?_
        refine xw_ialdN C hw (xu_s _ _ _) (show i < n by omega) (by omega) dX3_put_40 ?_
        refine xw_ti (y := (xI (va_up f k v i))) (rfl) ?_
        refine lv_if_ne (tgt := 50) hx hb dX3_put_41 (by decide) (fun hc3 => ?_) (fun hc3 => ?_)
        · skip
          refine lv_aload_n hx hb dX3_put_50 rfl (lv_at hl 1 rfl) ?_
          refine lv_iload_n hx hb dX3_put_51 rfl (lv_at hl 0 rfl) ?_
          refine xw_put C hw hS hh (ci := 2) rfl iX3_put_X3 tyX3 tyX3_ok nmX3 1 (by decide) (by decide +kernel) rfl (ty := .int) (by decide +kernel) rfl rfl (Nat.le_of_ble_eq_true rfl) dX3_put_52 (fun H locs hw hS => ?_)
          have hw : xW G B (xset G w h r n (va_up f k v)) H := by unfold xset xhi; rw [xlen_eq (j := i + 1) (by omega) hz (Or.inr ⟨i, rfl, fun q => hc3 (by rw [q, xI_0])⟩), x_m1]; exact hw
          exact xw_vret C hw hS (Nat.le_of_ble_eq_true rfl) (Nat.le_of_ble_eq_true rfl) (rfl) dX3_put_55
        · skip
          refine lv_iinc (v := (nI i - 1)) (lv' := [(3, .int (nI i - 1)), (0, .ref h), (1, .int (nI k)), (2, .int (xI v))]) hx hb dX3_put_44 hl (k := 0) rfl (x_dec _) (by decide) rfl (fun ls hl => ?_)
          refine lv_goto (tgt := 31) hx hb dX3_put_47 (by decide) ?_
          refine ih ls (by omega) (fun q h1 h2 => ?_) hl
          by_cases hq : q = i
          · subst hq; exact xI_z.mp hc3
          · exact hz q (by omega) h2
    exact loop (k + 1) ls (Nat.le_refl _) (xlen_put hk hk2) (by rw [x_m1]; exact hl)

abbrev rmX3_clear : Room := { frames := 1, cells := 0, slots := 0, locals := 23 }
theorem iX3_clear_X3 : ∀ w ∈ wsX30, w ∈ wsX3_clear := by decide +kernel
set_option maxHeartbeats 4000000 in
set_option maxRecDepth 100000 in
theorem kX3_clear (l : Launch) (G : xG) (B : Nat) (w : xM) (h r n : Nat) (f : xP) (hp : xPoly G w h r n f) : Met l yX3_clear wsX3_clear rmX3_clear (va_Pc [.ref h] (xB G B w)) (va_Qv (fun u => u = xset G w h r n (fun _ => 0)) (xE G B) (xA B)) 0 0 (xA B) := by
  refine xw_start (own := RX3) (mn := "clear") (cc := cX3_clear) (nL := 2) (rt := none) (by decide) rfl rfl rfl (Nat.le_of_ble_eq_true rfl) ?_
  intro p ev s m below meth cd ls C hl hw hS
  obtain ⟨hx, hb, -, -, -, hts, -, -, -, -⟩ := id C
  have hl : lv_has ls 2 [(0, .ref h)] := hl
  have hn := hp.2.2.2
  have hlen := xlen_le f n
  refine lv_aload_n hx hb dX3_clear_0 rfl (lv_at hl 0 rfl) ?_
  refine xw_get C hw (hp).1 (ci := 2) rfl iX3_clear_X3 1 (by decide) (by decide +kernel) rfl dX3_clear_1 ?_
  refine lv_istore_n (lv' := [(1, .int (xhi f n)), (0, .ref h)]) hx hb dX3_clear_4 rfl hl (by decide) rfl (fun ls hl => ?_)
  have loop : ∀ (j : Nat) (ls : Array Slot) (H : Heap) (locs : List Loc), j ≤ n → xW G B (xset G w h r n (xcut f j)) H → va_S (xA B) s.heap H locs → lv_has ls 2 [(1, .int (nI j - 1)), (0, .ref h)] → W p l ev rmX3_clear s m [.ref h].toArray below meth cd H locs 0 0 (MQ below (va_Qv (fun u => u = xset G w h r n (fun _ => 0)) (xE G B) (xA B)) [.ref h].toArray s 0 0 (xA B)) (F0 m 5 ls []) := by
    intro j
    induction j with
    | zero =>
      intro ls H locs hj hw hS hl
      refine lv_iload_n hx hb dX3_clear_5 rfl (lv_at hl 0 rfl) ?_
      refine lv_if_lt (tgt := 21) hx hb dX3_clear_6 (by decide) (fun _ => ?_) (fun hc => absurd (x_neg) hc)
      exact xw_vret C hw hS (Nat.le_of_ble_eq_true rfl) (Nat.le_of_ble_eq_true rfl) (by rw [xcut_0]) dX3_clear_21
    | succ j ih =>
      intro ls H locs hj hw hS hl
      have hq : xPoly G (xset G w h r n (xcut f (j + 1))) h r n (xcut f (j + 1)) := xset_s hp.ne (xsup_cut2 hp.2.2.1) hn
      have hl : lv_has ls 2 [(1, .int (nI j)), (0, .ref h)] := by rw [← (show (nI (j + 1) - 1) = (nI j) from x_m1 j)]; exact hl
      refine lv_iload_n hx hb dX3_clear_5 rfl (lv_at hl 0 rfl) ?_
      refine lv_if_lt (tgt := 21) hx hb dX3_clear_6 (by decide) (fun hc => absurd hc (nI_pos (by omega))) (fun _ => ?_)
      refine lv_aload_n hx hb dX3_clear_9 rfl (lv_at hl 1 rfl) ?_
      refine lv_iload_n hx hb dX3_clear_10 rfl (lv_at hl 0 rfl) ?_
      refine lv_iconst (v := 0) hx hb dX3_clear_11 (by decide) ?_
      refine xw_ti (y := (xI 0)) (xI_0.symm) ?_
      refine xw_cv (xw_V (n := 2) (rest := []) C hw (kX3_put l G B _ h r n (xcut f (j + 1)) j 0 hq (by omega)) gX3_clear_X3_put rfl rfl rfl (by decide +kernel) ⟨Nat.le_of_ble_eq_true rfl, Nat.le_of_ble_eq_true rfl⟩ (hq).1 rfl rfl hl.1 rfl (Nat.le_of_ble_eq_true rfl) dX3_clear_12 ⟨Nat.le_of_ble_eq_true rfl, Nat.le_of_ble_eq_true rfl⟩ hS) hS (fun u H locs hpp hw hS => ?_)
      rw [hpp] at hw
      rw [xset_u hp.ne, xcut_dn] at hw
      refine lv_iinc (v := (nI j - 1)) (lv' := [(1, .int (nI j - 1)), (0, .ref h)]) hx hb dX3_clear_15 hl (k := 0) rfl (x_dec _) (by decide) rfl (fun ls hl => ?_)
      refine lv_goto (tgt := 5) hx hb dX3_clear_18 (by decide) ?_
      exact ih ls _ _ (by omega) hw hS hl
  exact loop (xlen f n) ls _ _ hlen (by rw [xcut_sup (xlen_sup hp.2.2.1), xset_id hp]; exact hw) hS hl

abbrev rmX3_copy : Room := { frames := 2, cells := 0, slots := 0, locals := 44 }
theorem iX3_copy_X3 : ∀ w ∈ wsX30, w ∈ wsX3_copy := by decide +kernel
set_option maxHeartbeats 4000000 in
set_option maxRecDepth 100000 in
theorem kX3_copy (l : Launch) (G : xG) (B : Nat) (w : xM) (h r n : Nat) (f : xP) (h2 r2 n2 : Nat) (g : xP) (hp : xPoly G w h r n f) (hq : xPoly G w h2 r2 n2 g) (hne : h2 ≠ h) (hnr : r2 ≠ r) (hfit : xlen g n2 ≤ n) : Met l yX3_copy wsX3_copy rmX3_copy (va_Pc [.ref h, .ref h2] (xB G B w)) (va_Qv (fun u => u = xset G w h r n g) (xE G B) (xA B)) 0 0 (xA B) := by
  refine xw_start (own := RX3) (mn := "copy") (cc := cX3_copy) (nL := 3) (rt := none) (by decide) rfl rfl rfl (Nat.le_of_ble_eq_true rfl) ?_
  intro p ev s m below meth cd ls C hl hw hS
  obtain ⟨hx, hb, -, -, -, hts, -, -, -, -⟩ := id C
  have hl : lv_has ls 3 [(0, .ref h), (1, .ref h2)] := hl
  have hn := hp.2.2.2
  have hn2 := hq.2.2.2
  have hlen := xlen_le g n2
  refine lv_aload_n hx hb dX3_copy_0 rfl (lv_at hl 0 rfl) ?_
  refine xw_cv (xw_V (n := 0) (rest := []) C hw (kX3_clear l G B w h r n f hp) gX3_copy_X3_clear rfl rfl rfl (by decide +kernel) ⟨Nat.le_of_ble_eq_true rfl, Nat.le_of_ble_eq_true rfl⟩ (hp).1 rfl rfl hl.1 rfl (Nat.le_of_ble_eq_true rfl) dX3_copy_1 ⟨Nat.le_of_ble_eq_true rfl, Nat.le_of_ble_eq_true rfl⟩ hS) hS (fun u H locs hpp hw hS => ?_)
  rw [hpp] at hw
  refine lv_iconst (v := 0) hx hb dX3_copy_4 (by decide) ?_
  refine lv_istore_n (lv' := [(2, .int 0), (0, .ref h), (1, .ref h2)]) hx hb dX3_copy_5 rfl hl (by decide) rfl (fun ls hl => ?_)
  have loop : ∀ (d k : Nat) (ls : Array Slot) (H : Heap) (locs : List Loc), k + d = xlen g n2 → xW G B (xset G w h r n (xcut g k)) H → va_S (xA B) s.heap H locs → lv_has ls 3 [(2, .int (nI k)), (0, .ref h), (1, .ref h2)] → W p l ev rmX3_copy s m [.ref h, .ref h2].toArray below meth cd H locs 0 0 (MQ below (va_Qv (fun u => u = xset G w h r n g) (xE G B) (xA B)) [.ref h, .ref h2].toArray s 0 0 (xA B)) (F0 m 6 ls []) := by
    intro d
    induction d with
    | zero =>
      intro k ls H locs hk hw hS hl
      have h0 : xPoly G (xset G w h r n (xcut g k)) h r n (xcut g k) := xset_s hp.ne (xsup_cut g (by omega)) hn
      have h1 : xPoly G (xset G w h r n (xcut g k)) h2 r2 n2 g := xset_n hq hne hnr (Ne.symm (hp.ne2 hq).1) (hp.ne2 hq).2
      refine lv_iload_n hx hb dX3_copy_6 rfl (lv_at hl 0 rfl) ?_
      refine lv_aload_n hx hb dX3_copy_7 rfl (lv_at hl 2 rfl) ?_
      refine xw_get C hw (h1).1 (ci := 2) rfl iX3_copy_X3 1 (by decide) (by decide +kernel) rfl dX3_copy_8 ?_
      refine lv_icmp_gt (tgt := 30) hx hb dX3_copy_11 (by decide) (fun _ => ?_) (fun hc => absurd ((x_gt_hi (by omega) (by omega)).mpr (by omega)) hc)
      exact xw_vret C hw hS (Nat.le_of_ble_eq_true rfl) (Nat.le_of_ble_eq_true rfl) (by rw [show k = xlen g n2 by omega, xcut_sup (xlen_sup hq.2.2.1)]) dX3_copy_30
    | succ d ih =>
      intro k ls H locs hk hw hS hl
      have h0 : xPoly G (xset G w h r n (xcut g k)) h r n (xcut g k) := xset_s hp.ne (xsup_cut g (by omega)) hn
      have h1 : xPoly G (xset G w h r n (xcut g k)) h2 r2 n2 g := xset_n hq hne hnr (Ne.symm (hp.ne2 hq).1) (hp.ne2 hq).2
      refine lv_iload_n hx hb dX3_copy_6 rfl (lv_at hl 0 rfl) ?_
      refine lv_aload_n hx hb dX3_copy_7 rfl (lv_at hl 2 rfl) ?_
      refine xw_get C hw (h1).1 (ci := 2) rfl iX3_copy_X3 1 (by decide) (by decide +kernel) rfl dX3_copy_8 ?_
      refine lv_icmp_gt (tgt := 30) hx hb dX3_copy_11 (by decide) (fun hc => absurd hc (fun q => absurd ((x_gt_hi (by omega) (by omega)).mp q) (by omega))) (fun _ => ?_)
      refine lv_aload_n hx hb dX3_copy_14 rfl (lv_at hl 1 rfl) ?_
      refine lv_iload_n hx hb dX3_copy_15 rfl (lv_at hl 0 rfl) ?_
      refine lv_aload_n hx hb dX3_copy_16 rfl (lv_at hl 2 rfl) ?_
      refine lv_iload_n hx hb dX3_copy_17 rfl (lv_at hl 0 rfl) ?_
      refine xw_ci (xw_V (n := 1) (rest := [.int (nI k), .ref h]) C hw (kX3_coefficient l G B _ h2 r2 n2 g (nI k) h1) gX3_copy_X3_coefficient rfl rfl rfl (by decide +kernel) ⟨Nat.le_of_ble_eq_true rfl, Nat.le_of_ble_eq_true rfl⟩ (h1).1 rfl rfl hl.1 rfl (Nat.le_of_ble_eq_true rfl) dX3_copy_18 ⟨Nat.le_of_ble_eq_true rfl, Nat.le_of_ble_eq_true rfl⟩ hS) hS (fun ru u H locs hp hw hS => ?_)
      obtain ⟨hr, hu⟩ := hp
      rw [hu] at hw
      refine xw_ti (y := (xI (g k))) (hr.trans (by rw [xcf_n _ (by omega)])) ?_
      refine xw_cv (xw_V (n := 2) (rest := []) C hw (kX3_put l G B _ h r n (xcut g k) k (g k) h0 (by omega)) gX3_copy_X3_put rfl rfl rfl (by decide +kernel) ⟨Nat.le_of_ble_eq_true rfl, Nat.le_of_ble_eq_true rfl⟩ (h0).1 rfl rfl hl.1 rfl (Nat.le_of_ble_eq_true rfl) dX3_copy_21 ⟨Nat.le_of_ble_eq_true rfl, Nat.le_of_ble_eq_true rfl⟩ hS) hS (fun u H locs hpp hw hS => ?_)
      rw [hpp] at hw
      rw [xset_u hp.ne, xcut_up] at hw
      refine lv_iinc (v := (nI (k + 1))) (lv' := [(2, .int (nI (k + 1))), (0, .ref h), (1, .ref h2)]) hx hb dX3_copy_24 hl (k := 0) rfl (x_inc k) (by decide) rfl (fun ls hl => ?_)
      refine lv_goto (tgt := 6) hx hb dX3_copy_27 (by decide) ?_
      exact ih (k + 1) ls _ _ (by omega) hw hS hl
  exact loop (xlen g n2) 0 ls _ _ (by omega) (by rw [xcut_0]; exact hw) hS hl

abbrev rmX3_gather : Room := { frames := 1, cells := 0, slots := 0, locals := 23 }
theorem iX3_gather_X3 : ∀ w ∈ wsX30, w ∈ wsX3_gather := by decide +kernel
set_option maxHeartbeats 4000000 in
set_option maxRecDepth 100000 in
theorem kX3_gather (l : Launch) (G : xG) (B : Nat) (w : xM) (h r n : Nat) (f : xP) (h2 r2 n2 : Nat) (g : xP) (hp : xPoly G w h r n f) (hq : xPoly G w h2 r2 n2 g) (hne : h2 ≠ h) (hnr : r2 ≠ r) (q pw : Nat) (hq3 : q ≤ 32003) (hfit : xlen g n2 + pw ≤ n) : Met l yX3_gather wsX3_gather rmX3_gather (va_Pc [.ref h, .ref h2, .int (nI q), .int (nI pw)] (xB G B w)) (va_Qv (fun u => u = xset G w h r n (xgat f (xO q) g pw)) (xE G B) (xA B)) 0 0 (xA B) := by
  refine xw_start (own := RX3) (mn := "gather") (cc := cX3_gather) (nL := 7) (rt := none) (by decide) rfl rfl rfl (Nat.le_of_ble_eq_true rfl) ?_
  intro p ev s m below meth cd ls C hl hw hS
  obtain ⟨hx, hb, -, -, -, hts, -, -, -, -⟩ := id C
  have hl : lv_has ls 7 [(0, .ref h), (1, .ref h2), (2, .int (nI q)), (3, .int (nI pw))] := hl
  have hn := hp.2.2.2
  have hn2 := hq.2.2.2
  have hlen := xlen_le g n2
  refine lv_iconst (v := 0) hx hb dX3_gather_0 (by decide) ?_
  refine lv_istore (lv' := [(4, .int 0), (0, .ref h), (1, .ref h2), (2, .int (nI q)), (3, .int (nI pw))]) hx hb dX3_gather_1 hl (by decide) rfl (fun ls hl => ?_)
  have loop : ∀ (d k : Nat) (ls : Array Slot) (H : Heap) (locs : List Loc), k + d = xlen g n2 → xW G B (xset G w h r n (xgatk f (xO q) g pw k)) H → va_S (xA B) s.heap H locs → lv_has ls 7 [(4, .int (nI k)), (0, .ref h), (1, .ref h2), (2, .int (nI q)), (3, .int (nI pw))] → W p l ev rmX3_gather s m [.ref h, .ref h2, .int (nI q), .int (nI pw)].toArray below meth cd H locs 0 0 (MQ below (va_Qv (fun u => u = xset G w h r n (xgat f (xO q) g pw)) (xE G B) (xA B)) [.ref h, .ref h2, .int (nI q), .int (nI pw)].toArray s 0 0 (xA B)) (F0 m 3 ls []) := by
    intro d
    induction d with
    | zero =>
      intro k ls H locs hk hw hS hl
      have h0 : xPoly G (xset G w h r n (xgatk f (xO q) g pw k)) h r n (xgatk f (xO q) g pw k) := xset_s hp.ne (xgatk_sup hp.2.2.1 (by omega)) hn
      have h1 : xPoly G (xset G w h r n (xgatk f (xO q) g pw k)) h2 r2 n2 g := xset_n hq hne hnr (Ne.symm (hp.ne2 hq).1) (hp.ne2 hq).2
      refine lv_iload hx hb dX3_gather_3 (lv_at hl 0 rfl) ?_
      refine lv_aload_n hx hb dX3_gather_5 rfl (lv_at hl 2 rfl) ?_
      refine xw_get C hw (h1).1 (ci := 2) rfl iX3_gather_X3 1 (by decide) (by decide +kernel) rfl dX3_gather_6 ?_
      refine lv_icmp_gt (tgt := 53) hx hb dX3_gather_9 (by decide) (fun _ => ?_) (fun hc => absurd ((x_gt_hi (by omega) (by omega)).mpr (by omega)) hc)
      exact xw_vret C hw hS (Nat.le_of_ble_eq_true rfl) (Nat.le_of_ble_eq_true rfl) (by rw [show k = xlen g n2 by omega, xgatk_end _ _ (xlen_sup hq.2.2.1)]) dX3_gather_53
    | succ d ih =>
      intro k ls H locs hk hw hS hl
      have h0 : xPoly G (xset G w h r n (xgatk f (xO q) g pw k)) h r n (xgatk f (xO q) g pw k) := xset_s hp.ne (xgatk_sup hp.2.2.1 (by omega)) hn
      have h1 : xPoly G (xset G w h r n (xgatk f (xO q) g pw k)) h2 r2 n2 g := xset_n hq hne hnr (Ne.symm (hp.ne2 hq).1) (hp.ne2 hq).2
      refine lv_iload hx hb dX3_gather_3 (lv_at hl 0 rfl) ?_
      refine lv_aload_n hx hb dX3_gather_5 rfl (lv_at hl 2 rfl) ?_
      refine xw_get C hw (h1).1 (ci := 2) rfl iX3_gather_X3 1 (by decide) (by decide +kernel) rfl dX3_gather_6 ?_
      refine lv_icmp_gt (tgt := 53) hx hb dX3_gather_9 (by decide) (fun hc => absurd hc (fun q => absurd ((x_gt_hi (by omega) (by omega)).mp q) (by omega))) (fun _ => ?_)
      refine lv_aload_n hx hb dX3_gather_12 rfl (lv_at hl 1 rfl) ?_
      refine lv_iload hx hb dX3_gather_13 (lv_at hl 0 rfl) ?_
      refine lv_iload_n hx hb dX3_gather_15 rfl (lv_at hl 4 rfl) ?_
      refine lv_iadd hx hb dX3_gather_16 ?_
      refine xw_ti (y := (nI (k + pw))) (nI_add _ _) ?_
      refine xw_ci (xw_V (n := 1) (rest := []) C hw (kX3_coefficient l G B _ h r n (xgatk f (xO q) g pw k) (nI (k + pw)) h0) gX3_gather_X3_coefficient rfl rfl rfl (by decide +kernel) ⟨Nat.le_of_ble_eq_true rfl, Nat.le_of_ble_eq_true rfl⟩ (h0).1 rfl rfl hl.1 rfl (Nat.le_of_ble_eq_true rfl) dX3_gather_17 ⟨Nat.le_of_ble_eq_true rfl, Nat.le_of_ble_eq_true rfl⟩ hS) hS (fun ru u H locs hp hw hS => ?_)
      obtain ⟨hr, hu⟩ := hp
      rw [hu] at hw
      refine xw_ti (y := (xI (xgatk f (xO q) g pw k (k + pw)))) (hr.trans (by rw [xcf_n _ (by omega)])) ?_
      refine lv_i2l (v := ((xI (xgatk f (xO q) g pw k (k + pw)))).toInt64) hx hb dX3_gather_20 rfl ?_
      refine xw_tl (y := (xJ (xgatk f (xO q) g pw k (k + pw)))) (xI_l _) ?_
      refine lv_iload_n hx hb dX3_gather_21 rfl (lv_at hl 3 rfl) ?_
      refine lv_i2l (v := ((nI q)).toInt64) hx hb dX3_gather_22 rfl ?_
      refine xw_tl (y := (lN q)) (nI_l (by omega)) ?_
      refine lv_aload_n hx hb dX3_gather_23 rfl (lv_at hl 2 rfl) ?_
      refine lv_iload hx hb dX3_gather_24 (lv_at hl 0 rfl) ?_
      refine xw_ci (xw_V (n := 1) (rest := [.long (lN q), .long (xJ (xgatk f (xO q) g pw k (k + pw)))]) C hw (kX3_coefficient l G B _ h2 r2 n2 g (nI k) h1) gX3_gather_X3_coefficient rfl rfl rfl (by decide +kernel) ⟨Nat.le_of_ble_eq_true rfl, Nat.le_of_ble_eq_true rfl⟩ (h1).1 rfl rfl hl.1 rfl (Nat.le_of_ble_eq_true rfl) dX3_gather_26 ⟨Nat.le_of_ble_eq_true rfl, Nat.le_of_ble_eq_true rfl⟩ hS) hS (fun ru u H locs hp hw hS => ?_)
      obtain ⟨hr, hu⟩ := hp
      rw [hu] at hw
      refine xw_ti (y := (xI (g k))) (hr.trans (by rw [xcf_n _ (by omega)])) ?_
      refine lv_i2l (v := ((xI (g k))).toInt64) hx hb dX3_gather_29 rfl ?_
      refine xw_tl (y := (xJ (g k))) (xI_l _) ?_
      refine lv_lmul hx hb dX3_gather_30 ?_
      refine lv_ladd hx hb dX3_gather_31 ?_
      refine lv_lstore (lv' := [(5, .long ((xJ (xgatk f (xO q) g pw k (k + pw))) + ((lN q) * (xJ (g k))))), (4, .int (nI k)), (0, .ref h), (1, .ref h2), (2, .int (nI q)), (3, .int (nI pw))]) hx hb dX3_gather_32 hl (by decide) rfl (fun ls hl => ?_)
      refine lv_aload_n hx hb dX3_gather_34 rfl (lv_at hl 2 rfl) ?_
      refine lv_iload hx hb dX3_gather_35 (lv_at hl 1 rfl) ?_
      refine lv_iload_n hx hb dX3_gather_37 rfl (lv_at hl 5 rfl) ?_
      refine lv_iadd hx hb dX3_gather_38 ?_
      refine xw_ti (y := (nI (k + pw))) (nI_add _ _) ?_
      refine lv_lload hx hb dX3_gather_39 (lv_at hl 0 rfl) ?_
      refine xw_ci (xw_S (n := 1) (rest := [.int (nI (k + pw)), .ref h]) C hw (kX2_reduced l G B _ _) gX3_gather_X2_reduced rfl rfl rfl (by decide +kernel) ⟨Nat.le_of_ble_eq_true rfl, Nat.le_of_ble_eq_true rfl⟩ rfl hl.1 rfl (Nat.le_of_ble_eq_true rfl) dX3_gather_41 ⟨Nat.le_of_ble_eq_true rfl, Nat.le_of_ble_eq_true rfl⟩ hS) hS (fun ru u H locs hp hw hS => ?_)
      obtain ⟨hr, hu⟩ := hp
      rw [hu] at hw
      refine xw_ti (y := (xI (xgatk f (xO q) g pw k (k + pw) + xO q * g k))) (hr.trans (by rw [xR_gat _ _ hq3])) ?_
      refine xw_cv (xw_V (n := 2) (rest := []) C hw (kX3_put l G B _ h r n (xgatk f (xO q) g pw k) (k + pw) _ h0 (by omega)) gX3_gather_X3_put rfl rfl rfl (by decide +kernel) ⟨Nat.le_of_ble_eq_true rfl, Nat.le_of_ble_eq_true rfl⟩ (h0).1 rfl rfl hl.1 rfl (Nat.le_of_ble_eq_true rfl) dX3_gather_44 ⟨Nat.le_of_ble_eq_true rfl, Nat.le_of_ble_eq_true rfl⟩ hS) hS (fun u H locs hpp hw hS => ?_)
      rw [hpp] at hw
      rw [xset_u hp.ne, xgatk_s] at hw
      refine lv_iinc (v := (nI (k + 1))) (lv' := [(4, .int (nI (k + 1))), (5, .long ((xJ (xgatk f (xO q) g pw k (k + pw))) + ((lN q) * (xJ (g k))))), (0, .ref h), (1, .ref h2), (2, .int (nI q)), (3, .int (nI pw))]) hx hb dX3_gather_47 hl (k := 1) rfl (x_inc k) (by decide) rfl (fun ls hl => ?_)
      refine lv_goto (tgt := 3) hx hb dX3_gather_50 (by decide) ?_
      exact ih (k + 1) ls _ _ (by omega) hw hS (lv_sub hl [0, 2, 3, 4, 5] rfl)
  exact loop (xlen g n2) 0 ls _ _ (by omega) (by rw [xgatk_0, xset_id hp]; exact hw) hS hl

abbrev rmX3_scale : Room := { frames := 2, cells := 0, slots := 0, locals := 43 }
theorem iX3_scale_X3 : ∀ w ∈ wsX30, w ∈ wsX3_scale := by decide +kernel
set_option maxHeartbeats 4000000 in
set_option maxRecDepth 100000 in
theorem kX3_scale (l : Launch) (G : xG) (B : Nat) (w : xM) (h r n : Nat) (f : xP) (v : xF) (hp : xPoly G w h r n f) : Met l yX3_scale wsX3_scale rmX3_scale (va_Pc [.ref h, .int (xI v)] (xB G B w)) (va_Qv (fun u => u = xset G w h r n (fun i => f i * v)) (xE G B) (xA B)) 0 0 (xA B) := by
  refine xw_start (own := RX3) (mn := "scale") (cc := cX3_scale) (nL := 3) (rt := none) (by decide) rfl rfl rfl (Nat.le_of_ble_eq_true rfl) ?_
  intro p ev s m below meth cd ls C hl hw hS
  obtain ⟨hx, hb, -, -, -, hts, -, -, -, -⟩ := id C
  have hl : lv_has ls 3 [(0, .ref h), (1, .int (xI v))] := hl
  have hn := hp.2.2.2
  have hlen := xlen_le f n
  refine lv_aload_n hx hb dX3_scale_0 rfl (lv_at hl 0 rfl) ?_
  refine xw_get C hw (hp).1 (ci := 2) rfl iX3_scale_X3 1 (by decide) (by decide +kernel) rfl dX3_scale_1 ?_
  refine lv_istore_n (lv' := [(2, .int (xhi f n)), (0, .ref h), (1, .int (xI v))]) hx hb dX3_scale_4 rfl hl (by decide) rfl (fun ls hl => ?_)
  have loop : ∀ (j : Nat) (ls : Array Slot) (H : Heap) (locs : List Loc), j ≤ n → xW G B (xset G w h r n (xsca f v j)) H → va_S (xA B) s.heap H locs → lv_has ls 3 [(2, .int (nI j - 1)), (0, .ref h), (1, .int (xI v))] → W p l ev rmX3_scale s m [.ref h, .int (xI v)].toArray below meth cd H locs 0 0 (MQ below (va_Qv (fun u => u = xset G w h r n (fun i => f i * v)) (xE G B) (xA B)) [.ref h, .int (xI v)].toArray s 0 0 (xA B)) (F0 m 5 ls []) := by
    intro j
    induction j with
    | zero =>
      intro ls H locs hj hw hS hl
      refine lv_iload_n hx hb dX3_scale_5 rfl (lv_at hl 0 rfl) ?_
      refine lv_if_lt (tgt := 29) hx hb dX3_scale_6 (by decide) (fun _ => ?_) (fun hc => absurd (x_neg) hc)
      exact xw_vret C hw hS (Nat.le_of_ble_eq_true rfl) (Nat.le_of_ble_eq_true rfl) (by rw [xsca_0]) dX3_scale_29
    | succ j ih =>
      intro ls H locs hj hw hS hl
      have hq : xPoly G (xset G w h r n (xsca f v (j + 1))) h r n (xsca f v (j + 1)) := xset_s hp.ne (xsca_sup hp.2.2.1) hn
      have hl : lv_has ls 3 [(2, .int (nI j)), (0, .ref h), (1, .int (xI v))] := by rw [← (show (nI (j + 1) - 1) = (nI j) from x_m1 j)]; exact hl
      refine lv_iload_n hx hb dX3_scale_5 rfl (lv_at hl 0 rfl) ?_
      refine lv_if_lt (tgt := 29) hx hb dX3_scale_6 (by decide) (fun hc => absurd hc (nI_pos (by omega))) (fun _ => ?_)
      refine lv_aload_n hx hb dX3_scale_9 rfl (lv_at hl 1 rfl) ?_
      refine lv_iload_n hx hb dX3_scale_10 rfl (lv_at hl 0 rfl) ?_
      refine lv_aload_n hx hb dX3_scale_11 rfl (lv_at hl 1 rfl) ?_
      refine lv_iload_n hx hb dX3_scale_12 rfl (lv_at hl 0 rfl) ?_
      refine xw_ci (xw_V (n := 1) (rest := [.int (nI j), .ref h]) C hw (kX3_coefficient l G B _ h r n (xsca f v (j + 1)) (nI j) hq) gX3_scale_X3_coefficient rfl rfl rfl (by decide +kernel) ⟨Nat.le_of_ble_eq_true rfl, Nat.le_of_ble_eq_true rfl⟩ (hq).1 rfl rfl hl.1 rfl (Nat.le_of_ble_eq_true rfl) dX3_scale_13 ⟨Nat.le_of_ble_eq_true rfl, Nat.le_of_ble_eq_true rfl⟩ hS) hS (fun ru u H locs hp hw hS => ?_)
      obtain ⟨hr, hu⟩ := hp
      rw [hu] at hw
      refine xw_ti (y := (xI (f j))) (hr.trans (by rw [xcf_n _ (by omega), xsca_at])) ?_
      refine lv_iload_n hx hb dX3_scale_16 rfl (lv_at hl 2 rfl) ?_
      refine xw_ci (xw_S (n := 2) (rest := [.int (nI j), .ref h]) C hw (kX2_product l G B _ (f j) v) gX3_scale_X2_product rfl rfl rfl (by decide +kernel) ⟨Nat.le_of_ble_eq_true rfl, Nat.le_of_ble_eq_true rfl⟩ rfl hl.1 rfl (Nat.le_of_ble_eq_true rfl) dX3_scale_17 ⟨Nat.le_of_ble_eq_true rfl, Nat.le_of_ble_eq_true rfl⟩ hS) hS (fun ru u H locs hp hw hS => ?_)
      obtain ⟨hr, hu⟩ := hp
      rw [hu] at hw
      refine xw_ti (y := (xI (f j * v))) (hr) ?_
      refine xw_cv (xw_V (n := 2) (rest := []) C hw (kX3_put l G B _ h r n (xsca f v (j + 1)) j (f j * v) hq (by omega)) gX3_scale_X3_put rfl rfl rfl (by decide +kernel) ⟨Nat.le_of_ble_eq_true rfl, Nat.le_of_ble_eq_true rfl⟩ (hq).1 rfl rfl hl.1 rfl (Nat.le_of_ble_eq_true rfl) dX3_scale_20 ⟨Nat.le_of_ble_eq_true rfl, Nat.le_of_ble_eq_true rfl⟩ hS) hS (fun u H locs hpp hw hS => ?_)
      rw [hpp] at hw
      rw [xset_u hp.ne, xsca_dn] at hw
      refine lv_iinc (v := (nI j - 1)) (lv' := [(2, .int (nI j - 1)), (0, .ref h), (1, .int (xI v))]) hx hb dX3_scale_23 hl (k := 0) rfl (x_dec _) (by decide) rfl (fun ls hl => ?_)
      refine lv_goto (tgt := 5) hx hb dX3_scale_26 (by decide) ?_
      exact ih ls _ _ (by omega) hw hS (lv_sub hl [0, 1, 2] rfl)
  exact loop (xlen f n) ls _ _ hlen (by rw [xsca_top v (xlen_sup hp.2.2.1), xset_id hp]; exact hw) hS hl

abbrev rmX3_multiplyByLinear : Room := { frames := 1, cells := 0, slots := 0, locals := 23 }
theorem iX3_multiplyByLinear_X3 : ∀ w ∈ wsX30, w ∈ wsX3_multiplyByLinear := by decide +kernel
set_option maxHeartbeats 4000000 in
set_option maxRecDepth 100000 in
theorem kX3_multiplyByLinear (l : Launch) (G : xG) (B : Nat) (w : xM) (h r n : Nat) (f : xP) (v : xF) (hp : xPoly G w h r n f) (hfit : xlen f n + 1 ≤ n) : Met l yX3_multiplyByLinear wsX3_multiplyByLinear rmX3_multiplyByLinear (va_Pc [.ref h, .int (xI v)] (xB G B w)) (va_Qv (fun u => u = xset G w h r n (xlin f v)) (xE G B) (xA B)) 0 0 (xA B) := by
  refine xw_start (own := RX3) (mn := "multiplyByLinear") (cc := cX3_multiplyByLinear) (nL := 5) (rt := none) (by decide) rfl rfl rfl (Nat.le_of_ble_eq_true rfl) ?_
  intro p ev s m below meth cd ls C hl hw hS
  obtain ⟨hx, hb, -, -, -, hts, -, -, -, -⟩ := id C
  have hl : lv_has ls 5 [(0, .ref h), (1, .int (xI v))] := hl
  have hn := hp.2.2.2
  have hlen := xlen_le f n
  have hsf := xlen_sup hp.2.2.1
  refine lv_aload_n hx hb dX3_multiplyByLinear_0 rfl (lv_at hl 0 rfl) ?_
  refine xw_get C hw (hp).1 (ci := 2) rfl iX3_multiplyByLinear_X3 1 (by decide) (by decide +kernel) rfl dX3_multiplyByLinear_1 ?_
  refine lv_iconst (v := 1) hx hb dX3_multiplyByLinear_4 (by decide) ?_
  refine lv_iadd hx hb dX3_multiplyByLinear_5 ?_
  refine xw_ti (y := (nI (xlen f n + 1) - 1)) (by rw [x_m1]; unfold xhi; exact Int32.sub_add_cancel _ _) ?_
  refine lv_istore_n (lv' := [(2, .int (nI (xlen f n + 1) - 1)), (0, .ref h), (1, .int (xI v))]) hx hb dX3_multiplyByLinear_6 rfl hl (by decide) rfl (fun ls hl => ?_)
  have loop : ∀ (j : Nat) (ls : Array Slot) (H : Heap) (locs : List Loc), j ≤ n → xW G B (xset G w h r n (xlink f v j)) H → va_S (xA B) s.heap H locs → lv_has ls 5 [(2, .int (nI j - 1)), (0, .ref h), (1, .int (xI v))] → W p l ev rmX3_multiplyByLinear s m [.ref h, .int (xI v)].toArray below meth cd H locs 0 0 (MQ below (va_Qv (fun u => u = xset G w h r n (xlin f v)) (xE G B) (xA B)) [.ref h, .int (xI v)].toArray s 0 0 (xA B)) (F0 m 7 ls []) := by
    intro j
    induction j with
    | zero =>
      intro ls H locs hj hw hS hl
      refine lv_iload_n hx hb dX3_multiplyByLinear_7 rfl (lv_at hl 0 rfl) ?_
      refine lv_if_lt (tgt := 45) hx hb dX3_multiplyByLinear_8 (by decide) (fun _ => ?_) (fun hc => absurd (x_neg) hc)
      exact xw_vret C hw hS (Nat.le_of_ble_eq_true rfl) (Nat.le_of_ble_eq_true rfl) (by rw [xlink_0]) dX3_multiplyByLinear_45
    | succ j ih =>
      intro ls H locs hj hw hS hl
      have hq : xPoly G (xset G w h r n (xlink f v (j + 1))) h r n (xlink f v (j + 1)) := xset_s hp.ne (xsup_mono (xlink_sup hsf) hfit) hn
      have hl : lv_has ls 5 [(2, .int (nI j)), (0, .ref h), (1, .int (xI v))] := by rw [← (show (nI (j + 1) - 1) = (nI j) from x_m1 j)]; exact hl
      refine lv_iload_n hx hb dX3_multiplyByLinear_7 rfl (lv_at hl 0 rfl) ?_
      refine lv_if_lt (tgt := 45) hx hb dX3_multiplyByLinear_8 (by decide) (fun hc => absurd hc (nI_pos (by omega))) (fun _ => ?_)
      refine lv_aload_n hx hb dX3_multiplyByLinear_11 rfl (lv_at hl 1 rfl) ?_
      refine lv_iload_n hx hb dX3_multiplyByLinear_12 rfl (lv_at hl 0 rfl) ?_
      refine lv_iconst (v := 1) hx hb dX3_multiplyByLinear_13 (by decide) ?_
      refine lv_isub hx hb dX3_multiplyByLinear_14 ?_
      refine xw_ci (xw_V (n := 1) (rest := []) C hw (kX3_coefficient l G B _ h r n (xlink f v (j + 1)) (nI j - 1) hq) gX3_multiplyByLinear_X3_coefficient rfl rfl rfl (by decide +kernel) ⟨Nat.le_of_ble_eq_true rfl, Nat.le_of_ble_eq_true rfl⟩ (hq).1 rfl rfl hl.1 rfl (Nat.le_of_ble_eq_true rfl) dX3_multiplyByLinear_15 ⟨Nat.le_of_ble_eq_true rfl, Nat.le_of_ble_eq_true rfl⟩ hS) hS (fun ru u H locs hp hw hS => ?_)
      obtain ⟨hr, hu⟩ := hp
      rw [hu] at hw
      refine xw_ti (y := (xI (xsh f j))) (hr.trans (by rw [xcf_sh _ _ (by omega)])) ?_
      refine lv_i2l (v := ((xI (xsh f j))).toInt64) hx hb dX3_multiplyByLinear_18 rfl ?_
      refine xw_tl (y := (xJ (xsh f j))) (xI_l _) ?_
      refine lv_iload_n hx hb dX3_multiplyByLinear_19 rfl (lv_at hl 2 rfl) ?_
      refine lv_i2l (v := ((xI v)).toInt64) hx hb dX3_multiplyByLinear_20 rfl ?_
      refine xw_tl (y := (xJ v)) (xI_l _) ?_
      refine lv_aload_n hx hb dX3_multiplyByLinear_21 rfl (lv_at hl 1 rfl) ?_
      refine lv_iload_n hx hb dX3_multiplyByLinear_22 rfl (lv_at hl 0 rfl) ?_
      refine xw_ci (xw_V (n := 1) (rest := [.long (xJ v), .long (xJ (xsh f j))]) C hw (kX3_coefficient l G B _ h r n (xlink f v (j + 1)) (nI j) hq) gX3_multiplyByLinear_X3_coefficient rfl rfl rfl (by decide +kernel) ⟨Nat.le_of_ble_eq_true rfl, Nat.le_of_ble_eq_true rfl⟩ (hq).1 rfl rfl hl.1 rfl (Nat.le_of_ble_eq_true rfl) dX3_multiplyByLinear_23 ⟨Nat.le_of_ble_eq_true rfl, Nat.le_of_ble_eq_true rfl⟩ hS) hS (fun ru u H locs hp hw hS => ?_)
      obtain ⟨hr, hu⟩ := hp
      rw [hu] at hw
      refine xw_ti (y := (xI (f j))) (hr.trans (by rw [xcf_n _ (by omega), xlink_at])) ?_
      refine lv_i2l (v := ((xI (f j))).toInt64) hx hb dX3_multiplyByLinear_26 rfl ?_
      refine xw_tl (y := (xJ (f j))) (xI_l _) ?_
      refine lv_lmul hx hb dX3_multiplyByLinear_27 ?_
      refine lv_ladd hx hb dX3_multiplyByLinear_28 ?_
      refine lv_lstore_n (lv' := [(3, .long ((xJ (xsh f j)) + ((xJ v) * (xJ (f j))))), (2, .int (nI j)), (0, .ref h), (1, .int (xI v))]) hx hb dX3_multiplyByLinear_29 rfl hl (by decide) rfl (fun ls hl => ?_)
      refine lv_aload_n hx hb dX3_multiplyByLinear_30 rfl (lv_at hl 2 rfl) ?_
      refine lv_iload_n hx hb dX3_multiplyByLinear_31 rfl (lv_at hl 1 rfl) ?_
      refine lv_lload_n hx hb dX3_multiplyByLinear_32 rfl (lv_at hl 0 rfl) ?_
      refine xw_ci (xw_S (n := 1) (rest := [.int (nI j), .ref h]) C hw (kX2_reduced l G B _ _) gX3_multiplyByLinear_X2_reduced rfl rfl rfl (by decide +kernel) ⟨Nat.le_of_ble_eq_true rfl, Nat.le_of_ble_eq_true rfl⟩ rfl hl.1 rfl (Nat.le_of_ble_eq_true rfl) dX3_multiplyByLinear_33 ⟨Nat.le_of_ble_eq_true rfl, Nat.le_of_ble_eq_true rfl⟩ hS) hS (fun ru u H locs hp hw hS => ?_)
      obtain ⟨hr, hu⟩ := hp
      rw [hu] at hw
      refine xw_ti (y := (xI (xlin f v j))) (hr.trans (by rw [xR_am]; rfl)) ?_
      refine xw_cv (xw_V (n := 2) (rest := []) C hw (kX3_put l G B _ h r n (xlink f v (j + 1)) j (xlin f v j) hq (by omega)) gX3_multiplyByLinear_X3_put rfl rfl rfl (by decide +kernel) ⟨Nat.le_of_ble_eq_true rfl, Nat.le_of_ble_eq_true rfl⟩ (hq).1 rfl rfl hl.1 rfl (Nat.le_of_ble_eq_true rfl) dX3_multiplyByLinear_36 ⟨Nat.le_of_ble_eq_true rfl, Nat.le_of_ble_eq_true rfl⟩ hS) hS (fun u H locs hpp hw hS => ?_)
      rw [hpp] at hw
      rw [xset_u hp.ne, xlink_dn] at hw
      refine lv_iinc (v := (nI j - 1)) (lv' := [(2, .int (nI j - 1)), (3, .long ((xJ (xsh f j)) + ((xJ v) * (xJ (f j))))), (0, .ref h), (1, .int (xI v))]) hx hb dX3_multiplyByLinear_39 hl (k := 1) rfl (x_dec _) (by decide) rfl (fun ls hl => ?_)
      refine lv_goto (tgt := 7) hx hb dX3_multiplyByLinear_42 (by decide) ?_
      exact ih ls _ _ (by omega) hw hS (lv_sub hl [0, 2, 3] rfl)
  exact loop (xlen f n + 1) ls _ _ hfit (by rw [xlink_top hsf, xset_id hp]; exact hw) hS hl
end
section
/-! ===== more pure rows for Polynomial ===== -/
theorem x_toI {a : Nat} (h : a < 2 ^ 30) : (nI a - 1).toInt = (a : Int) - 1 := by
  rw [Int32.toInt_sub, nI_toInt (by omega), show (1 : Int32).toInt = 1 by decide]
  exact Int.bmod_eq_of_le (by omega) (by omega)
theorem x_gt_hh {a b k : Nat} (ha : a < 2 ^ 29) (hb : b < 2 ^ 29) (hk : k < 2 ^ 29) : nI a - 1 + (nI b - 1) < nI k ↔ a + b ≤ k + 1 := by
  rw [Int32.lt_iff_toInt_lt, Int32.toInt_add, x_toI (by omega), x_toI (by omega), nI_toInt (by omega), Int.bmod_eq_of_le (by omega) (by omega)]
  omega
theorem x_minhi {a k : Nat} (ha : a < 2 ^ 30) (hk : k < 2 ^ 30) : (if nI a - 1 < nI k then nI a - 1 else nI k) = nI (min (k + 1) a) - 1 := by
  by_cases h : a ≤ k
  · rw [if_pos ((x_gt_hi hk ha).mpr h), Nat.min_eq_right (by omega)]
  · rw [if_neg (fun q => h ((x_gt_hi hk ha).mp q)), Nat.min_eq_left (by omega), x_m1]
theorem x_maxhi {b k : Nat} (hb : b < 2 ^ 30) (hk : k < 2 ^ 29) : (if nI k - (nI b - 1) < 0 then 0 else nI k - (nI b - 1)) = nI (k + 1 - b) := by
  have e : (nI k - (nI b - 1)).toInt = (k : Int) + 1 - b := by
    rw [Int32.toInt_sub, x_toI hb, nI_toInt (by omega), Int.bmod_eq_of_le (by omega) (by omega)]; omega
  by_cases h : nI k - (nI b - 1) < 0
  · rw [if_pos h]
    have h1 := Int32.lt_iff_toInt_lt.mp h
    rw [e, show (0 : Int32).toInt = 0 by decide] at h1
    rw [show k + 1 - b = 0 by omega, nI_0]
  · rw [if_neg h]
    have h1 : ¬ (nI k - (nI b - 1)).toInt < (0 : Int32).toInt := fun q => h (Int32.lt_iff_toInt_lt.mpr q)
    rw [e, show (0 : Int32).toInt = 0 by decide] at h1
    apply Int32.toInt_inj.mp
    rw [e, nI_toInt (by omega)]; omega
theorem xS_from {f g : xP} {b k : Nat} (hg : xsup g b) : xS (k + 1 - b) (fun i => f i * g (k - i)) = 0 := xS_zero (fun i hi => by
  rw [hg (k - i) (by omega)]; grind)
theorem xS_to {f g : xP} {a k i : Nat} (hf : xsup f a) (h : min (k + 1) a ≤ i) (hi : i ≤ k + 1) : xS i (fun i => f i * g (k - i)) = xmul f g k := by
  unfold xmul
  refine (xS_ext hi (fun t h1 h2 => ?_)).symm
  rw [hf t (by omega)]; grind
theorem x_sumL (T : Nat) (a b : xF) : lN T + xJ a * xJ b = lN (T + a.val * b.val) := by unfold xJ; rw [lN_mul, lN_add]
theorem xhi_eq {f g : xP} {n n2 : Nat} (hn : n ≤ 64) (hn2 : n2 ≤ 64) : xhi f n = xhi g n2 ↔ xlen f n = xlen g n2 := by
  unfold xhi
  refine ⟨fun q => ?_, fun q => by rw [q]⟩
  have h1 := congrArg Int32.toInt q
  rw [x_toI (x_lenB f hn), x_toI (x_lenB g hn2)] at h1
  omega
theorem xhor_end (f : xP) (v : xF) {n m : Nat} (h : xsup f n) (hnm : n ≤ m) : xhor f v m 0 = xhor f v n 0 := by
  induction m with
  | zero => rw [show n = 0 by omega]
  | succ m ih =>
    by_cases hh : n = m + 1
    · rw [hh]
    · rw [← ih (by omega)]
      show xhor f v m (0 * v + f m) = xhor f v m 0
      rw [h m (by omega)]
      congr 1; grind
theorem xdv_sup {g : xP} {b nd n nq : Nat} {iv : xF} (hg : xsup g nd) : ∀ (j : Nat) (f z : xP), xsup f n → xsup z nq → j + nd ≤ n + 1 → j ≤ nq → xsup (xdv g b iv j f z).1 n ∧ xsup (xdv g b iv j f z).2 nq := by
  intro j
  induction j with
  | zero => intro f z h1 h2 _ _; exact ⟨h1, h2⟩
  | succ k ih =>
    intro f z h1 h2 h3 h4
    rw [xdv_s]
    exact ih _ _ (xgat_sup h1 hg (by omega)) (xsup_up h2 (by omega)) (by omega) (by omega)
theorem x_hh_lt {a b : Nat} (ha : a < 2 ^ 30) (hb : b < 2 ^ 30) : nI a - 1 - (nI b - 1) < 0 ↔ a < b := by
  rw [Int32.lt_iff_toInt_lt, Int32.toInt_sub, x_toI ha, x_toI hb, Int.bmod_eq_of_le (by omega) (by omega), show (0 : Int32).toInt = 0 by decide]
  omega
theorem x_hh_sub {a b : Nat} (ha : a < 2 ^ 29) (h : b ≤ a) : nI a - 1 - (nI b - 1) = nI (a - b + 1) - 1 := by
  apply Int32.toInt_inj.mp
  rw [Int32.toInt_sub, x_toI (a := a) (by omega), x_toI (a := b) (by omega), x_toI (by omega), Int.bmod_eq_of_le (by omega) (by omega)]
  omega
theorem x_sub1 {k j : Nat} (hk : k < 2 ^ 29) (hj : j < 2 ^ 29) (h : 1 ≤ j) : nI k + (nI j - 1) = nI (k + (j - 1)) := by
  obtain ⟨i, rfl⟩ : ∃ i, j = i + 1 := ⟨j - 1, by omega⟩
  rw [x_m1, nI_add]; rfl
theorem x_P_sub (x : xF) : (32003 : Int32) - xI x = nI (32003 - x.val) := by
  have := x.isLt
  exact pk_sub (a := 32003) (b := x.val) (by omega)
theorem xcf_hi {f : xP} {n i : Nat} (hn : n ≤ 64) (h : xlen f n = i + 1) : xcf f (xhi f n) = f i := by
  have := xlen_le f n
  unfold xhi; rw [h, x_m1, xcf_n _ (by omega)]
end
section
/-! ===== Polynomial, second half (laid by wip/whole/m_polyb.py) ===== -/
abbrev rmX3_evaluate : Room := { frames := 1, cells := 0, slots := 0, locals := 22 }
theorem iX3_evaluate_X3 : ∀ w ∈ wsX30, w ∈ wsX3_evaluate := by decide +kernel
set_option maxHeartbeats 4000000 in
set_option maxRecDepth 100000 in
theorem kX3_evaluate (l : Launch) (G : xG) (B : Nat) (w : xM) (h r n : Nat) (f : xP) (v : xF) (hp : xPoly G w h r n f) : Met l yX3_evaluate wsX3_evaluate rmX3_evaluate (va_Pc [.ref h, .int (xI v)] (xB G B w)) (va_Qi (fun r u => r = xI (xhor f v (xlen f n) 0) ∧ u = w) (xE G B) (xA B)) 0 0 (xA B) := by
  refine xw_start (own := RX3) (mn := "evaluate") (cc := cX3_evaluate) (nL := 4) (rt := (some .int)) (by decide) rfl rfl rfl (Nat.le_of_ble_eq_true rfl) ?_
  intro p ev s m below meth cd ls C hl hw hS
  obtain ⟨hx, hb, -, -, -, hts, -, -, -, -⟩ := id C
  have hl : lv_has ls 4 [(0, .ref h), (1, .int (xI v))] := hl
  have hn := hp.2.2.2
  have hlen := xlen_le f n
  refine lv_iconst (v := 0) hx hb dX3_evaluate_0 (by decide) ?_
  refine xw_ti (y := (xI 0)) (xI_0.symm) ?_
  refine lv_istore_n (lv' := [(2, .int (xI 0)), (0, .ref h), (1, .int (xI v))]) hx hb dX3_evaluate_1 rfl hl (by decide) rfl (fun ls hl => ?_)
  refine lv_aload_n hx hb dX3_evaluate_2 rfl (lv_at hl 1 rfl) ?_
  refine xw_get C hw (hp).1 (ci := 2) rfl iX3_evaluate_X3 1 (by decide) (by decide +kernel) rfl dX3_evaluate_3 ?_
  refine lv_istore_n (lv' := [(3, .int (xhi f n)), (2, .int (xI 0)), (0, .ref h), (1, .int (xI v))]) hx hb dX3_evaluate_6 rfl hl (by decide) rfl (fun ls hl => ?_)
  have loop : ∀ (j : Nat) (a : xF) (ls : Array Slot) (H : Heap) (locs : List Loc), j ≤ n → xhor f v j a = xhor f v (xlen f n) 0 → xW G B w H → va_S (xA B) s.heap H locs → lv_has ls 4 [(3, .int (nI j - 1)), (2, .int (xI a)), (0, .ref h), (1, .int (xI v))] → W p l ev rmX3_evaluate s m [.ref h, .int (xI v)].toArray below meth cd H locs 0 0 (MQ below (va_Qi (fun r u => r = xI (xhor f v (xlen f n) 0) ∧ u = w) (xE G B) (xA B)) [.ref h, .int (xI v)].toArray s 0 0 (xA B)) (F0 m 7 ls []) := by
    intro j
    induction j with
    | zero =>
      intro a ls H locs hj he hw hS hl
      refine lv_iload_n hx hb dX3_evaluate_7 rfl (lv_at hl 0 rfl) ?_
      refine lv_if_lt (tgt := 33) hx hb dX3_evaluate_8 (by decide) (fun _ => ?_) (fun hc => absurd (x_neg) hc)
      refine lv_iload_n hx hb dX3_evaluate_33 rfl (lv_at hl 1 rfl) ?_
      exact xw_iret C hw hS (Nat.le_of_ble_eq_true rfl) (Nat.le_of_ble_eq_true rfl) (⟨by rw [← he]; rfl, rfl⟩) dX3_evaluate_34
    | succ j ih =>
      intro a ls H locs hj he hw hS hl
      have hl : lv_has ls 4 [(3, .int (nI j)), (2, .int (xI a)), (0, .ref h), (1, .int (xI v))] := by rw [← (show (nI (j + 1) - 1) = (nI j) from x_m1 j)]; exact hl
      refine lv_iload_n hx hb dX3_evaluate_7 rfl (lv_at hl 0 rfl) ?_
      refine lv_if_lt (tgt := 33) hx hb dX3_evaluate_8 (by decide) (fun hc => absurd hc (nI_pos (by omega))) (fun _ => ?_)
      refine lv_iload_n hx hb dX3_evaluate_11 rfl (lv_at hl 1 rfl) ?_
      refine lv_i2l (v := ((xI a)).toInt64) hx hb dX3_evaluate_12 rfl ?_
      refine xw_tl (y := (xJ a)) (xI_l _) ?_
      refine lv_iload_n hx hb dX3_evaluate_13 rfl (lv_at hl 3 rfl) ?_
      refine lv_i2l (v := ((xI v)).toInt64) hx hb dX3_evaluate_14 rfl ?_
      refine xw_tl (y := (xJ v)) (xI_l _) ?_
      refine lv_lmul hx hb dX3_evaluate_15 ?_
      refine lv_aload_n hx hb dX3_evaluate_16 rfl (lv_at hl 2 rfl) ?_
      refine lv_iload_n hx hb dX3_evaluate_17 rfl (lv_at hl 0 rfl) ?_
      refine xw_ci (xw_V (n := 1) (rest := [.long ((xJ a) * (xJ v))]) C hw (kX3_coefficient l G B _ h r n f (nI j) hp) gX3_evaluate_X3_coefficient rfl rfl rfl (by decide +kernel) ⟨Nat.le_of_ble_eq_true rfl, Nat.le_of_ble_eq_true rfl⟩ (hp).1 rfl rfl hl.1 rfl (Nat.le_of_ble_eq_true rfl) dX3_evaluate_18 ⟨Nat.le_of_ble_eq_true rfl, Nat.le_of_ble_eq_true rfl⟩ hS) hS (fun ru u H locs hp hw hS => ?_)
      obtain ⟨hr, hu⟩ := hp
      rw [hu] at hw
      refine xw_ti (y := (xI (f j))) (hr.trans (by rw [xcf_n _ (by omega)])) ?_
      refine lv_i2l (v := ((xI (f j))).toInt64) hx hb dX3_evaluate_21 rfl ?_
      refine xw_tl (y := (xJ (f j))) (xI_l _) ?_
      refine lv_ladd hx hb dX3_evaluate_22 ?_
      refine xw_ci (xw_S (n := 1) (rest := []) C hw (kX2_reduced l G B _ _) gX3_evaluate_X2_reduced rfl rfl rfl (by decide +kernel) ⟨Nat.le_of_ble_eq_true rfl, Nat.le_of_ble_eq_true rfl⟩ rfl hl.1 rfl (Nat.le_of_ble_eq_true rfl) dX3_evaluate_23 ⟨Nat.le_of_ble_eq_true rfl, Nat.le_of_ble_eq_true rfl⟩ hS) hS (fun ru u H locs hp hw hS => ?_)
      obtain ⟨hr, hu⟩ := hp
      rw [hu] at hw
      refine xw_ti (y := (xI (a * v + f j))) (hr.trans (by rw [xR_ma])) ?_
      refine lv_istore_n (lv' := [(2, .int (xI (a * v + f j))), (3, .int (nI j)), (0, .ref h), (1, .int (xI v))]) hx hb dX3_evaluate_26 rfl hl (by decide) rfl (fun ls hl => ?_)
      refine lv_iinc (v := (nI j - 1)) (lv' := [(3, .int (nI j - 1)), (2, .int (xI (a * v + f j))), (0, .ref h), (1, .int (xI v))]) hx hb dX3_evaluate_27 hl (k := 1) rfl (x_dec _) (by decide) rfl (fun ls hl => ?_)
      refine lv_goto (tgt := 7) hx hb dX3_evaluate_30 (by decide) ?_
      exact ih (a * v + f j) ls _ _ (by omega) he hw hS (lv_sub hl [0, 1, 2, 3] rfl)
  exact loop (xlen f n) 0 ls _ _ hlen rfl hw hS (lv_sub hl [0, 1, 2, 3] rfl)

abbrev rmX3_matches : Room := { frames := 1, cells := 0, slots := 0, locals := 21 }
theorem iX3_matches_X3 : ∀ w ∈ wsX30, w ∈ wsX3_matches := by decide +kernel
set_option maxHeartbeats 4000000 in
set_option maxRecDepth 100000 in
theorem kX3_matches (l : Launch) (G : xG) (B : Nat) (w : xM) (h r n : Nat) (f : xP) (h2 r2 n2 : Nat) (g : xP) (hp : xPoly G w h r n f) (hq : xPoly G w h2 r2 n2 g) : Met l yX3_matches wsX3_matches rmX3_matches (va_Pc [.ref h, .ref h2] (xB G B w)) (va_Qi (fun z u => ((z = 1 ∧ f = g) ∨ (z = 0 ∧ f ≠ g)) ∧ u = w) (xE G B) (xA B)) 0 0 (xA B) := by
  refine xw_start (own := RX3) (mn := "matches") (cc := cX3_matches) (nL := 3) (rt := (some .boolean)) (by decide) rfl rfl rfl (Nat.le_of_ble_eq_true rfl) ?_
  intro p ev s m below meth cd ls C hl hw hS
  obtain ⟨hx, hb, -, -, -, hts, -, -, -, -⟩ := id C
  have hl : lv_has ls 3 [(0, .ref h), (1, .ref h2)] := hl
  have hn := hp.2.2.2
  have hn2 := hq.2.2.2
  have hlen := xlen_le f n
  have hlen2 := xlen_le g n2
  refine lv_aload_n hx hb dX3_matches_0 rfl (lv_at hl 0 rfl) ?_
  refine xw_get C hw (hp).1 (ci := 2) rfl iX3_matches_X3 1 (by decide) (by decide +kernel) rfl dX3_matches_1 ?_
  refine lv_aload_n hx hb dX3_matches_4 rfl (lv_at hl 1 rfl) ?_
  refine xw_get C hw (hq).1 (ci := 2) rfl iX3_matches_X3 1 (by decide) (by decide +kernel) rfl dX3_matches_5 ?_
  refine lv_icmp_eq (tgt := 13) hx hb dX3_matches_8 (by decide) (fun hc => ?_) (fun hc => ?_)
  · skip
    have hc := (xhi_eq hn hn2).mp hc
    refine lv_iconst (v := 0) hx hb dX3_matches_13 (by decide) ?_
    refine lv_istore_n (lv' := [(2, .int 0), (0, .ref h), (1, .ref h2)]) hx hb dX3_matches_14 rfl hl (by decide) rfl (fun ls hl => ?_)
    have loop : ∀ (d k : Nat) (ls : Array Slot) (H : Heap) (locs : List Loc), k + d = xlen f n → (∀ i, i < k → f i = g i) → xW G B w H → va_S (xA B) s.heap H locs → lv_has ls 3 [(2, .int (nI k)), (0, .ref h), (1, .ref h2)] → W p l ev rmX3_matches s m [.ref h, .ref h2].toArray below meth cd H locs 0 0 (MQ below (va_Qi (fun z u => ((z = 1 ∧ f = g) ∨ (z = 0 ∧ f ≠ g)) ∧ u = w) (xE G B) (xA B)) [.ref h, .ref h2].toArray s 0 0 (xA B)) (F0 m 15 ls []) := by
      intro d
      induction d with
      | zero =>
        intro k ls H locs hk he hw hS hl
        refine lv_iload_n hx hb dX3_matches_15 rfl (lv_at hl 0 rfl) ?_
        refine lv_aload_n hx hb dX3_matches_16 rfl (lv_at hl 1 rfl) ?_
        refine xw_get C hw (hp).1 (ci := 2) rfl iX3_matches_X3 1 (by decide) (by decide +kernel) rfl dX3_matches_17 ?_
        refine lv_icmp_gt (tgt := 44) hx hb dX3_matches_20 (by decide) (fun _ => ?_) (fun hc => absurd ((x_gt_hi (by omega) (by omega)).mpr (by omega)) hc)
        refine lv_iconst (v := 1) hx hb dX3_matches_44 (by decide) ?_
        have hfg : f = g := by
          funext i
          by_cases hi : i < k
          · exact he i hi
          · rw [xlen_sup hp.2.2.1 i (by omega), xlen_sup hq.2.2.1 i (by omega)]
        exact xw_zret C hw hS (Nat.le_of_ble_eq_true rfl) (Nat.le_of_ble_eq_true rfl) (Or.inr rfl) (⟨Or.inl ⟨rfl, hfg⟩, rfl⟩) dX3_matches_45
      | succ d ih =>
        intro k ls H locs hk he hw hS hl
        refine lv_iload_n hx hb dX3_matches_15 rfl (lv_at hl 0 rfl) ?_
        refine lv_aload_n hx hb dX3_matches_16 rfl (lv_at hl 1 rfl) ?_
        refine xw_get C hw (hp).1 (ci := 2) rfl iX3_matches_X3 1 (by decide) (by decide +kernel) rfl dX3_matches_17 ?_
        refine lv_icmp_gt (tgt := 44) hx hb dX3_matches_20 (by decide) (fun hc => absurd hc (fun q => absurd ((x_gt_hi (by omega) (by omega)).mp q) (by omega))) (fun _ => ?_)
        refine lv_aload_n hx hb dX3_matches_23 rfl (lv_at hl 1 rfl) ?_
        refine lv_iload_n hx hb dX3_matches_24 rfl (lv_at hl 0 rfl) ?_
        refine xw_ci (xw_V (n := 1) (rest := []) C hw (kX3_coefficient l G B _ h r n f (nI k) hp) gX3_matches_X3_coefficient rfl rfl rfl (by decide +kernel) ⟨Nat.le_of_ble_eq_true rfl, Nat.le_of_ble_eq_true rfl⟩ (hp).1 rfl rfl hl.1 rfl (Nat.le_of_ble_eq_true rfl) dX3_matches_25 ⟨Nat.le_of_ble_eq_true rfl, Nat.le_of_ble_eq_true rfl⟩ hS) hS (fun ru u H locs hp hw hS => ?_)
        obtain ⟨hr, hu⟩ := hp
        rw [hu] at hw
        refine xw_ti (y := (xI (f k))) (hr.trans (by rw [xcf_n _ (by omega)])) ?_
        refine lv_aload_n hx hb dX3_matches_28 rfl (lv_at hl 2 rfl) ?_
        refine lv_iload_n hx hb dX3_matches_29 rfl (lv_at hl 0 rfl) ?_
        refine xw_ci (xw_V (n := 1) (rest := [.int (xI (f k))]) C hw (kX3_coefficient l G B _ h2 r2 n2 g (nI k) hq) gX3_matches_X3_coefficient rfl rfl rfl (by decide +kernel) ⟨Nat.le_of_ble_eq_true rfl, Nat.le_of_ble_eq_true rfl⟩ (hq).1 rfl rfl hl.1 rfl (Nat.le_of_ble_eq_true rfl) dX3_matches_30 ⟨Nat.le_of_ble_eq_true rfl, Nat.le_of_ble_eq_true rfl⟩ hS) hS (fun ru u H locs hp hw hS => ?_)
        obtain ⟨hr, hu⟩ := hp
        rw [hu] at hw
        refine xw_ti (y := (xI (g k))) (hr.trans (by rw [xcf_n _ (by omega)])) ?_
        refine lv_icmp_eq (tgt := 38) hx hb dX3_matches_33 (by decide) (fun hc2 => ?_) (fun hc2 => ?_)
        · skip
          refine lv_iinc (v := (nI (k + 1))) (lv' := [(2, .int (nI (k + 1))), (0, .ref h), (1, .ref h2)]) hx hb dX3_matches_38 hl (k := 0) rfl (x_inc k) (by decide) rfl (fun ls hl => ?_)
          refine lv_goto (tgt := 15) hx hb dX3_matches_41 (by decide) ?_
          exact ih (k + 1) ls _ _ (by omega) (fun i hi => by
            by_cases hik : i = k
            · subst hik; exact xI_inj hc2
            · exact he i (by omega)) hw hS hl
        · skip
          refine lv_iconst (v := 0) hx hb dX3_matches_36 (by decide) ?_
          exact xw_zret C hw hS (Nat.le_of_ble_eq_true rfl) (Nat.le_of_ble_eq_true rfl) (Or.inl rfl) (⟨Or.inr ⟨rfl, fun q => hc2 (by rw [q])⟩, rfl⟩) dX3_matches_37
    exact loop (xlen f n) 0 ls _ _ (by omega) (fun i hi => absurd hi (by omega)) hw hS hl
  · skip
    refine lv_iconst (v := 0) hx hb dX3_matches_11 (by decide) ?_
    exact xw_zret C hw hS (Nat.le_of_ble_eq_true rfl) (Nat.le_of_ble_eq_true rfl) (Or.inl rfl) (⟨Or.inr ⟨rfl, fun q => hc (by rw [xhi_eq hn hn2, ← q]; rw [← q] at hq; exact (xlen_n (m := 64) hp.2.2.1 hn).symm.trans (xlen_n hq.2.2.1 hn2))⟩, rfl⟩) dX3_matches_12

abbrev rmX3_moveByOne : Room := { frames := 1, cells := 0, slots := 0, locals := 23 }
theorem iX3_moveByOne_X3 : ∀ w ∈ wsX30, w ∈ wsX3_moveByOne := by decide +kernel
set_option maxHeartbeats 4000000 in
set_option maxRecDepth 100000 in
theorem kX3_moveByOne (l : Launch) (G : xG) (B : Nat) (w : xM) (h r n : Nat) (f : xP) (hp : xPoly G w h r n f) : Met l yX3_moveByOne wsX3_moveByOne rmX3_moveByOne (va_Pc [.ref h] (xB G B w)) (va_Qv (fun u => u = xset G w h r n (xmv n f)) (xE G B) (xA B)) 0 0 (xA B) := by
  refine xw_start (own := RX3) (mn := "moveByOne") (cc := cX3_moveByOne) (nL := 3) (rt := none) (by decide) rfl rfl rfl (Nat.le_of_ble_eq_true rfl) ?_
  intro p ev s m below meth cd ls C hl hw hS
  obtain ⟨hx, hb, -, -, -, hts, -, -, -, -⟩ := id C
  have hl : lv_has ls 3 [(0, .ref h)] := hl
  have hn := hp.2.2.2
  have hlen := xlen_le f n
  obtain ⟨L, hL⟩ : ∃ L, xlen f n = L := ⟨_, rfl⟩
  rw [hL] at hlen
  refine lv_iconst (v := 0) hx hb dX3_moveByOne_0 (by decide) ?_
  refine lv_istore_n (lv' := [(1, .int 0), (0, .ref h)]) hx hb dX3_moveByOne_1 rfl hl (by decide) rfl (fun ls hl => ?_)
  have loop : ∀ (t d : Nat) (ls : Array Slot) (H : Heap) (locs : List Loc), d ≤ L - 1 → d + t = L - 1 → xW G B (xset G w h r n (xpas L d f)) H → va_S (xA B) s.heap H locs → lv_has ls 3 [(1, .int (nI d)), (0, .ref h)] → W p l ev rmX3_moveByOne s m [.ref h].toArray below meth cd H locs 0 0 (MQ below (va_Qv (fun u => u = xset G w h r n (xmv n f)) (xE G B) (xA B)) [.ref h].toArray s 0 0 (xA B)) (F0 m 2 ls []) := by
    intro t
    induction t with
    | zero =>
      intro d ls H locs hd hdt hw hS hl
      have h0 : xPoly G (xset G w h r n (xpas L d f)) h r n (xpas L d f) := xset_s hp.ne (xpas_sup hp.2.2.1 _ _ hlen) hn
      have hL2 : xlen (xpas L d f) n = L := by have := xpas_len hp.2.2.1 d (by omega); rw [hL] at this; exact this
      have hsL : xsup (xpas L d f) L := by have q := xlen_sup (xpas_sup hp.2.2.1 L d hlen); rw [hL2] at q; exact q
      have hH : xhi (xpas L d f) n = nI L - 1 := by unfold xhi; rw [hL2]
      rw [xPoly, hH] at h0
      refine lv_iload_n hx hb dX3_moveByOne_2 rfl (lv_at hl 0 rfl) ?_
      refine lv_aload_n hx hb dX3_moveByOne_3 rfl (lv_at hl 1 rfl) ?_
      refine xw_get C hw h0.1 (ci := 2) rfl iX3_moveByOne_X3 1 (by decide) (by decide +kernel) rfl dX3_moveByOne_4 ?_
      refine lv_icmp_ge (tgt := 57) hx hb dX3_moveByOne_7 (by decide) (fun _ => ?_) (fun hc => absurd ((x_ge_hi (by omega) (by omega)).mpr (by omega)) hc)
      exact xw_vret C hw hS (Nat.le_of_ble_eq_true rfl) (Nat.le_of_ble_eq_true rfl) (by unfold xmv; rw [hL, show L - 1 = d by omega]) dX3_moveByOne_57
    | succ t ih =>
      intro d ls H locs hd hdt hw hS hl
      have h0 : xPoly G (xset G w h r n (xpas L d f)) h r n (xpas L d f) := xset_s hp.ne (xpas_sup hp.2.2.1 _ _ hlen) hn
      have hL2 : xlen (xpas L d f) n = L := by have := xpas_len hp.2.2.1 d (by omega); rw [hL] at this; exact this
      have hsL : xsup (xpas L d f) L := by have q := xlen_sup (xpas_sup hp.2.2.1 L d hlen); rw [hL2] at q; exact q
      have hH : xhi (xpas L d f) n = nI L - 1 := by unfold xhi; rw [hL2]
      rw [xPoly, hH] at h0
      refine lv_iload_n hx hb dX3_moveByOne_2 rfl (lv_at hl 0 rfl) ?_
      refine lv_aload_n hx hb dX3_moveByOne_3 rfl (lv_at hl 1 rfl) ?_
      refine xw_get C hw h0.1 (ci := 2) rfl iX3_moveByOne_X3 1 (by decide) (by decide +kernel) rfl dX3_moveByOne_4 ?_
      refine lv_icmp_ge (tgt := 57) hx hb dX3_moveByOne_7 (by decide) (fun hc => absurd hc (fun q => absurd ((x_ge_hi (by omega) (by omega)).mp q) (by omega))) (fun _ => ?_)
      refine lv_aload_n hx hb dX3_moveByOne_10 rfl (lv_at hl 1 rfl) ?_
      refine xw_get C hw h0.1 (ci := 2) rfl iX3_moveByOne_X3 1 (by decide) (by decide +kernel) rfl dX3_moveByOne_11 ?_
      refine lv_iconst (v := 1) hx hb dX3_moveByOne_14 (by decide) ?_
      refine lv_isub hx hb dX3_moveByOne_15 ?_
      refine xw_ti (y := (nI (L - 1) - 1)) (by obtain ⟨i, hi⟩ : ∃ i, L = i + 1 := ⟨L - 1, by omega⟩; subst hi; rw [x_m1]; rfl) ?_
      refine lv_istore_n (lv' := [(2, .int (nI (L - 1) - 1)), (1, .int (nI d)), (0, .ref h)]) hx hb dX3_moveByOne_16 rfl hl (by decide) rfl (fun ls hl => ?_)
      have inner : ∀ (j : Nat) (ls : Array Slot) (H : Heap) (locs : List Loc), d ≤ j → j ≤ L - 1 → xW G B (xset G w h r n (xsuf (xpas L d f) L j)) H → va_S (xA B) s.heap H locs → lv_has ls 3 [(2, .int (nI j - 1)), (1, .int (nI d)), (0, .ref h)] → W p l ev rmX3_moveByOne s m [.ref h].toArray below meth cd H locs 0 0 (MQ below (va_Qv (fun u => u = xset G w h r n (xmv n f)) (xE G B) (xA B)) [.ref h].toArray s 0 0 (xA B)) (F0 m 17 ls []) := by
        intro j
        induction j with
        | zero =>
          intro ls H locs hdj hj hw hS hl
          have hd0 : d = 0 := by omega
          have hw : xW G B (xset G w h r n (xpas L (d + 1) f)) H := by rw [hd0] at hw ⊢; exact hw
          refine lv_iload_n hx hb dX3_moveByOne_17 rfl (lv_at hl 0 rfl) ?_
          refine lv_iload_n hx hb dX3_moveByOne_18 rfl (lv_at hl 1 rfl) ?_
          refine lv_icmp_lt (tgt := 51) hx hb dX3_moveByOne_19 (by decide) (fun _ => ?_) (fun hc => absurd ((x_gt_hi (by omega) (by omega)).mpr (by omega)) hc)
          refine lv_iinc (v := (nI (d + 1))) (lv' := [(1, .int (nI (d + 1))), (2, .int (nI 0 - 1)), (0, .ref h)]) hx hb dX3_moveByOne_51 hl (k := 1) rfl (x_inc d) (by decide) rfl (fun ls hl => ?_)
          refine lv_goto (tgt := 2) hx hb dX3_moveByOne_54 (by decide) ?_
          exact ih (d + 1) ls _ _ (by omega) (by omega) hw hS (lv_sub hl [0, 2] rfl)
        | succ j ihj =>
          intro ls H locs hdj hj hw hS hl
          by_cases hdj2 : d = j + 1
          · subst hdj2
            refine lv_iload_n hx hb dX3_moveByOne_17 rfl (lv_at hl 0 rfl) ?_
            refine lv_iload_n hx hb dX3_moveByOne_18 rfl (lv_at hl 1 rfl) ?_
            refine lv_icmp_lt (tgt := 51) hx hb dX3_moveByOne_19 (by decide) (fun _ => ?_) (fun hc => absurd ((x_gt_hi (by omega) (by omega)).mpr (by omega)) hc)
            refine lv_iinc (v := (nI (j + 1 + 1))) (lv' := [(1, .int (nI (j + 1 + 1))), (2, .int (nI (j + 1) - 1)), (0, .ref h)]) hx hb dX3_moveByOne_51 hl (k := 1) rfl (x_inc _) (by decide) rfl (fun ls hl => ?_)
            refine lv_goto (tgt := 2) hx hb dX3_moveByOne_54 (by decide) ?_
            exact ih (j + 1 + 1) ls _ _ (by omega) (by omega) hw hS (lv_sub hl [0, 2] rfl)
          · skip
            have h1 : xPoly G (xset G w h r n (xsuf (xpas L d f) L (j + 1))) h r n (xsuf (xpas L d f) L (j + 1)) := xset_s hp.ne (xsuf_sup (xpas_sup hp.2.2.1 _ _ hlen) hlen) hn
            refine lv_iload_n hx hb dX3_moveByOne_17 rfl (lv_at hl 0 rfl) ?_
            refine lv_iload_n hx hb dX3_moveByOne_18 rfl (lv_at hl 1 rfl) ?_
            refine lv_icmp_lt (tgt := 51) hx hb dX3_moveByOne_19 (by decide) (fun hc => absurd hc (fun q => absurd ((x_gt_hi (by omega) (by omega)).mp q) (by omega))) (fun _ => ?_)
            have hl : lv_has ls 3 [(2, .int (nI j)), (1, .int (nI d)), (0, .ref h)] := by rw [← (show (nI (j + 1) - 1) = (nI j) from x_m1 j)]; exact hl
            refine lv_aload_n hx hb dX3_moveByOne_22 rfl (lv_at hl 2 rfl) ?_
            refine lv_iload_n hx hb dX3_moveByOne_23 rfl (lv_at hl 0 rfl) ?_
            refine lv_aload_n hx hb dX3_moveByOne_24 rfl (lv_at hl 2 rfl) ?_
            refine lv_iload_n hx hb dX3_moveByOne_25 rfl (lv_at hl 0 rfl) ?_
            refine xw_ci (xw_V (n := 1) (rest := [.int (nI j), .ref h]) C hw (kX3_coefficient l G B _ h r n _ (nI j) h1) gX3_moveByOne_X3_coefficient rfl rfl rfl (by decide +kernel) ⟨Nat.le_of_ble_eq_true rfl, Nat.le_of_ble_eq_true rfl⟩ (h1).1 rfl rfl hl.1 rfl (Nat.le_of_ble_eq_true rfl) dX3_moveByOne_26 ⟨Nat.le_of_ble_eq_true rfl, Nat.le_of_ble_eq_true rfl⟩ hS) hS (fun ru u H locs hp hw hS => ?_)
            obtain ⟨hr, hu⟩ := hp
            rw [hu] at hw
            refine xw_ti (y := (xI (xpas L d f j))) (hr.trans (by rw [xcf_n _ (by omega), xsuf_at])) ?_
            refine lv_i2l (v := ((xI (xpas L d f j))).toInt64) hx hb dX3_moveByOne_29 rfl ?_
            refine xw_tl (y := (xJ (xpas L d f j))) (xI_l _) ?_
            refine lv_aload_n hx hb dX3_moveByOne_30 rfl (lv_at hl 2 rfl) ?_
            refine lv_iload_n hx hb dX3_moveByOne_31 rfl (lv_at hl 0 rfl) ?_
            refine lv_iconst (v := 1) hx hb dX3_moveByOne_32 (by decide) ?_
            refine lv_iadd hx hb dX3_moveByOne_33 ?_
            refine xw_ti (y := (nI (j + 1))) (nI_1 j) ?_
            refine xw_ci (xw_V (n := 1) (rest := [.long (xJ (xpas L d f j)), .int (nI j), .ref h]) C hw (kX3_coefficient l G B _ h r n _ (nI (j + 1)) h1) gX3_moveByOne_X3_coefficient rfl rfl rfl (by decide +kernel) ⟨Nat.le_of_ble_eq_true rfl, Nat.le_of_ble_eq_true rfl⟩ (h1).1 rfl rfl hl.1 rfl (Nat.le_of_ble_eq_true rfl) dX3_moveByOne_34 ⟨Nat.le_of_ble_eq_true rfl, Nat.le_of_ble_eq_true rfl⟩ hS) hS (fun ru u H locs hp hw hS => ?_)
            obtain ⟨hr, hu⟩ := hp
            rw [hu] at hw
            refine xw_ti (y := (xI (xsuf (xpas L d f) L (j + 1) (j + 1)))) (hr.trans (by rw [xcf_n _ (by omega)])) ?_
            refine lv_i2l (v := ((xI (xsuf (xpas L d f) L (j + 1) (j + 1)))).toInt64) hx hb dX3_moveByOne_37 rfl ?_
            refine xw_tl (y := (xJ (xsuf (xpas L d f) L (j + 1) (j + 1)))) (xI_l _) ?_
            refine lv_ladd hx hb dX3_moveByOne_38 ?_
            refine xw_ci (xw_S (n := 1) (rest := [.int (nI j), .ref h]) C hw (kX2_reduced l G B _ _) gX3_moveByOne_X2_reduced rfl rfl rfl (by decide +kernel) ⟨Nat.le_of_ble_eq_true rfl, Nat.le_of_ble_eq_true rfl⟩ rfl hl.1 rfl (Nat.le_of_ble_eq_true rfl) dX3_moveByOne_39 ⟨Nat.le_of_ble_eq_true rfl, Nat.le_of_ble_eq_true rfl⟩ hS) hS (fun ru u H locs hp hw hS => ?_)
            obtain ⟨hr, hu⟩ := hp
            rw [hu] at hw
            refine xw_ti (y := (xI (xpas L d f j + xsuf (xpas L d f) L (j + 1) (j + 1)))) (hr.trans (by rw [xR_add])) ?_
            refine xw_cv (xw_V (n := 2) (rest := []) C hw (kX3_put l G B _ h r n _ j _ h1 (by omega)) gX3_moveByOne_X3_put rfl rfl rfl (by decide +kernel) ⟨Nat.le_of_ble_eq_true rfl, Nat.le_of_ble_eq_true rfl⟩ (h1).1 rfl rfl hl.1 rfl (Nat.le_of_ble_eq_true rfl) dX3_moveByOne_42 ⟨Nat.le_of_ble_eq_true rfl, Nat.le_of_ble_eq_true rfl⟩ hS) hS (fun u H locs hpp hw hS => ?_)
            rw [hpp] at hw
            rw [xset_u hp.ne, xsuf_dn (by omega)] at hw
            refine lv_iinc (v := (nI j - 1)) (lv' := [(2, .int (nI j - 1)), (1, .int (nI d)), (0, .ref h)]) hx hb dX3_moveByOne_45 hl (k := 0) rfl (x_dec _) (by decide) rfl (fun ls hl => ?_)
            refine lv_goto (tgt := 17) hx hb dX3_moveByOne_48 (by decide) ?_
            exact ihj ls _ _ (by omega) (by omega) hw hS hl
      exact inner (L - 1) ls _ _ hd (Nat.le_refl _) (by rw [xsuf_top hsL (by omega)]; exact hw) hS hl
  exact loop (L - 1) 0 ls _ _ (by omega) (by omega) (by rw [show xpas L 0 f = f from rfl, xset_id hp]; exact hw) hS hl

abbrev rmX3_setProduct : Room := { frames := 2, cells := 0, slots := 0, locals := 44 }
theorem iX3_setProduct_X3 : ∀ w ∈ wsX30, w ∈ wsX3_setProduct := by decide +kernel
set_option maxHeartbeats 4000000 in
set_option maxRecDepth 100000 in
theorem kX3_setProduct (l : Launch) (G : xG) (B : Nat) (w : xM) (h r n : Nat) (z : xP) (h2 r2 n2 : Nat) (f : xP) (h3 r3 n3 : Nat) (g : xP) (hp : xPoly G w h r n z) (hf : xPoly G w h2 r2 n2 f) (hg : xPoly G w h3 r3 n3 g) (hne : h2 ≠ h) (hnr : r2 ≠ r) (hne3 : h3 ≠ h) (hnr3 : r3 ≠ r) (hfit : xlen f n2 + xlen g n3 ≤ n + 1) : Met l yX3_setProduct wsX3_setProduct rmX3_setProduct (va_Pc [.ref h, .ref h2, .ref h3] (xB G B w)) (va_Qv (fun u => u = xset G w h r n (xmul f g)) (xE G B) (xA B)) 0 0 (xA B) := by
  refine xw_start (own := RX3) (mn := "setProduct") (cc := cX3_setProduct) (nL := 8) (rt := none) (by decide) rfl rfl rfl (Nat.le_of_ble_eq_true rfl) ?_
  intro p ev s m below meth cd ls C hl hw hS
  obtain ⟨hx, hb, -, -, -, hts, -, -, -, -⟩ := id C
  have hl : lv_has ls 8 [(0, .ref h), (1, .ref h2), (2, .ref h3)] := hl
  have hn := hp.2.2.2
  have hl2 := Nat.le_trans (xlen_le f n2) hf.2.2.2
  have hl3 := Nat.le_trans (xlen_le g n3) hg.2.2.2
  have hsf := xlen_sup hf.2.2.1
  have hsg := xlen_sup hg.2.2.1
  have hsm := xmul_sup hsf hsg
  refine lv_aload_n hx hb dX3_setProduct_0 rfl (lv_at hl 0 rfl) ?_
  refine xw_cv (xw_V (n := 0) (rest := []) C hw (kX3_clear l G B w h r n z hp) gX3_setProduct_X3_clear rfl rfl rfl (by decide +kernel) ⟨Nat.le_of_ble_eq_true rfl, Nat.le_of_ble_eq_true rfl⟩ (hp).1 rfl rfl hl.1 rfl (Nat.le_of_ble_eq_true rfl) dX3_setProduct_1 ⟨Nat.le_of_ble_eq_true rfl, Nat.le_of_ble_eq_true rfl⟩ hS) hS (fun u H locs hpp hw hS => ?_)
  rw [hpp] at hw
  refine lv_iconst (v := 0) hx hb dX3_setProduct_4 (by decide) ?_
  refine lv_istore_n (lv' := [(3, .int 0), (0, .ref h), (1, .ref h2), (2, .ref h3)]) hx hb dX3_setProduct_5 rfl hl (by decide) rfl (fun ls hl => ?_)
  have loop : ∀ (d k : Nat) (ls : Array Slot) (H : Heap) (locs : List Loc), k + d = xlen f n2 + xlen g n3 - 1 → xW G B (xset G w h r n (xcut (xmul f g) k)) H → va_S (xA B) s.heap H locs → lv_has ls 8 [(3, .int (nI k)), (0, .ref h), (1, .ref h2), (2, .ref h3)] → W p l ev rmX3_setProduct s m [.ref h, .ref h2, .ref h3].toArray below meth cd H locs 0 0 (MQ below (va_Qv (fun u => u = xset G w h r n (xmul f g)) (xE G B) (xA B)) [.ref h, .ref h2, .ref h3].toArray s 0 0 (xA B)) (F0 m 6 ls []) := by
    intro d
    induction d with
    | zero =>
      intro k ls H locs hk hw hS hl
      have h0 : xPoly G (xset G w h r n (xcut (xmul f g) k)) h r n (xcut (xmul f g) k) := xset_s hp.ne (xsup_cut _ (by omega)) hn
      have h1 : xPoly G (xset G w h r n (xcut (xmul f g) k)) h2 r2 n2 f := xset_n hf hne hnr (Ne.symm (hp.ne2 hf).1) (hp.ne2 hf).2
      have h4 : xPoly G (xset G w h r n (xcut (xmul f g) k)) h3 r3 n3 g := xset_n hg hne3 hnr3 (Ne.symm (hp.ne2 hg).1) (hp.ne2 hg).2
      refine lv_iload_n hx hb dX3_setProduct_6 rfl (lv_at hl 0 rfl) ?_
      refine lv_aload_n hx hb dX3_setProduct_7 rfl (lv_at hl 2 rfl) ?_
      refine xw_get C hw (h1).1 (ci := 2) rfl iX3_setProduct_X3 1 (by decide) (by decide +kernel) rfl dX3_setProduct_8 ?_
      refine lv_aload_n hx hb dX3_setProduct_11 rfl (lv_at hl 3 rfl) ?_
      refine xw_get C hw (h4).1 (ci := 2) rfl iX3_setProduct_X3 1 (by decide) (by decide +kernel) rfl dX3_setProduct_12 ?_
      refine lv_iadd hx hb dX3_setProduct_15 ?_
      refine lv_icmp_gt (tgt := 95) hx hb dX3_setProduct_16 (by decide) (fun _ => ?_) (fun hc => absurd ((x_gt_hh (by omega) (by omega) (by omega)).mpr (by omega)) hc)
      exact xw_vret C hw hS (Nat.le_of_ble_eq_true rfl) (Nat.le_of_ble_eq_true rfl) (by rw [show k = xlen f n2 + xlen g n3 - 1 by omega, xcut_sup hsm]) dX3_setProduct_95
    | succ d ih =>
      intro k ls H locs hk hw hS hl
      have h0 : xPoly G (xset G w h r n (xcut (xmul f g) k)) h r n (xcut (xmul f g) k) := xset_s hp.ne (xsup_cut _ (by omega)) hn
      have h1 : xPoly G (xset G w h r n (xcut (xmul f g) k)) h2 r2 n2 f := xset_n hf hne hnr (Ne.symm (hp.ne2 hf).1) (hp.ne2 hf).2
      have h4 : xPoly G (xset G w h r n (xcut (xmul f g) k)) h3 r3 n3 g := xset_n hg hne3 hnr3 (Ne.symm (hp.ne2 hg).1) (hp.ne2 hg).2
      refine lv_iload_n hx hb dX3_setProduct_6 rfl (lv_at hl 0 rfl) ?_
      refine lv_aload_n hx hb dX3_setProduct_7 rfl (lv_at hl 2 rfl) ?_
      refine xw_get C hw (h1).1 (ci := 2) rfl iX3_setProduct_X3 1 (by decide) (by decide +kernel) rfl dX3_setProduct_8 ?_
      refine lv_aload_n hx hb dX3_setProduct_11 rfl (lv_at hl 3 rfl) ?_
      refine xw_get C hw (h4).1 (ci := 2) rfl iX3_setProduct_X3 1 (by decide) (by decide +kernel) rfl dX3_setProduct_12 ?_
      refine lv_iadd hx hb dX3_setProduct_15 ?_
      refine lv_icmp_gt (tgt := 95) hx hb dX3_setProduct_16 (by decide) (fun hc => absurd hc (fun q => absurd ((x_gt_hh (by omega) (by omega) (by omega)).mp q) (by omega))) (fun _ => ?_)
      refine lv_lconst (v := 0) hx hb dX3_setProduct_19 (by decide) ?_
      refine xw_tl (y := (lN 0)) (by decide) ?_
      refine lv_lstore (lv' := [(4, .long (lN 0)), (3, .int (nI k)), (0, .ref h), (1, .ref h2), (2, .ref h3)]) hx hb dX3_setProduct_20 hl (by decide) rfl (fun ls hl => ?_)
      refine lv_iload_n hx hb dX3_setProduct_22 rfl (lv_at hl 1 rfl) ?_
      refine lv_aload_n hx hb dX3_setProduct_23 rfl (lv_at hl 3 rfl) ?_
      refine xw_get C hw (h1).1 (ci := 2) rfl iX3_setProduct_X3 1 (by decide) (by decide +kernel) rfl dX3_setProduct_24 ?_
      refine xw_min C hl.1 (by decide +kernel) (by decide +kernel) (by decide +kernel) (by decide +kernel) (Nat.le_of_ble_eq_true rfl) (Nat.le_of_ble_eq_true rfl) (Nat.le_of_ble_eq_true rfl) (Nat.le_of_ble_eq_true rfl) (z := nI (min (k + 1) (xlen f n2)) - 1) (x_minhi (by omega) (by omega)) dX3_setProduct_27 ?_
      refine lv_istore (lv' := [(6, .int (nI (min (k + 1) (xlen f n2)) - 1)), (4, .long (lN 0)), (3, .int (nI k)), (0, .ref h), (1, .ref h2), (2, .ref h3)]) hx hb dX3_setProduct_30 hl (by decide) rfl (fun ls hl => ?_)
      refine lv_iload_n hx hb dX3_setProduct_32 rfl (lv_at hl 2 rfl) ?_
      refine lv_aload_n hx hb dX3_setProduct_33 rfl (lv_at hl 5 rfl) ?_
      refine xw_get C hw (h4).1 (ci := 2) rfl iX3_setProduct_X3 1 (by decide) (by decide +kernel) rfl dX3_setProduct_34 ?_
      refine lv_isub hx hb dX3_setProduct_37 ?_
      refine lv_iconst (v := 0) hx hb dX3_setProduct_38 (by decide) ?_
      refine xw_max C hl.1 (by decide +kernel) (by decide +kernel) (by decide +kernel) (by decide +kernel) (Nat.le_of_ble_eq_true rfl) (Nat.le_of_ble_eq_true rfl) (Nat.le_of_ble_eq_true rfl) (Nat.le_of_ble_eq_true rfl) (z := nI (k + 1 - xlen g n3)) (x_maxhi (by omega) (by omega)) dX3_setProduct_39 ?_
      refine lv_istore (lv' := [(7, .int (nI (k + 1 - xlen g n3))), (6, .int (nI (min (k + 1) (xlen f n2)) - 1)), (4, .long (lN 0)), (3, .int (nI k)), (0, .ref h), (1, .ref h2), (2, .ref h3)]) hx hb dX3_setProduct_42 hl (by decide) rfl (fun ls hl => ?_)
      have hexit : ∀ (T i : Nat) (ls : Array Slot) (H : Heap) (locs : List Loc), T < 2 ^ 62 → xO T = xmul f g k → xW G B (xset G w h r n (xcut (xmul f g) k)) H → va_S (xA B) s.heap H locs → lv_has ls 8 [(7, .int (nI i)), (6, .int (nI (min (k + 1) (xlen f n2)) - 1)), (4, .long (lN T)), (3, .int (nI k)), (0, .ref h), (1, .ref h2), (2, .ref h3)] → W p l ev rmX3_setProduct s m [.ref h, .ref h2, .ref h3].toArray below meth cd H locs 0 0 (MQ below (va_Qv (fun u => u = xset G w h r n (xmul f g)) (xE G B) (xA B)) [.ref h, .ref h2, .ref h3].toArray s 0 0 (xA B)) (F0 m 79 ls []) := by
        intro T i ls H locs hT hTe hw hS hl
        refine lv_aload_n hx hb dX3_setProduct_79 rfl (lv_at hl 4 rfl) ?_
        refine lv_iload_n hx hb dX3_setProduct_80 rfl (lv_at hl 3 rfl) ?_
        refine lv_lload hx hb dX3_setProduct_81 (lv_at hl 2 rfl) ?_
        refine xw_ci (xw_S (n := 1) (rest := [.int (nI k), .ref h]) C hw (kX2_reduced l G B _ _) gX3_setProduct_X2_reduced rfl rfl rfl (by decide +kernel) ⟨Nat.le_of_ble_eq_true rfl, Nat.le_of_ble_eq_true rfl⟩ rfl hl.1 rfl (Nat.le_of_ble_eq_true rfl) dX3_setProduct_83 ⟨Nat.le_of_ble_eq_true rfl, Nat.le_of_ble_eq_true rfl⟩ hS) hS (fun ru u H locs hp hw hS => ?_)
        obtain ⟨hr, hu⟩ := hp
        rw [hu] at hw
        refine xw_ti (y := (xI (xmul f g k))) (hr.trans (by rw [xR_lN (by omega), hTe])) ?_
        refine xw_cv (xw_V (n := 2) (rest := []) C hw (kX3_put l G B _ h r n _ k _ h0 (by omega)) gX3_setProduct_X3_put rfl rfl rfl (by decide +kernel) ⟨Nat.le_of_ble_eq_true rfl, Nat.le_of_ble_eq_true rfl⟩ (h0).1 rfl rfl hl.1 rfl (Nat.le_of_ble_eq_true rfl) dX3_setProduct_86 ⟨Nat.le_of_ble_eq_true rfl, Nat.le_of_ble_eq_true rfl⟩ hS) hS (fun u H locs hpp hw hS => ?_)
        rw [hpp] at hw
        rw [xset_u hp.ne, xcut_up] at hw
        refine lv_iinc (v := (nI (k + 1))) (lv' := [(3, .int (nI (k + 1))), (7, .int (nI i)), (6, .int (nI (min (k + 1) (xlen f n2)) - 1)), (4, .long (lN T)), (0, .ref h), (1, .ref h2), (2, .ref h3)]) hx hb dX3_setProduct_89 hl (k := 3) rfl (x_inc k) (by decide) rfl (fun ls hl => ?_)
        refine lv_goto (tgt := 6) hx hb dX3_setProduct_92 (by decide) ?_
        exact ih (k + 1) ls _ _ (by omega) hw hS (lv_sub hl [0, 4, 5, 6] rfl)
      have inner : ∀ (t i T : Nat) (ls : Array Slot) (H : Heap) (locs : List Loc), i + t = k + 1 → T ≤ i * 1024192009 → xO T = xS i (fun q => f q * g (k - q)) → xW G B (xset G w h r n (xcut (xmul f g) k)) H → va_S (xA B) s.heap H locs → lv_has ls 8 [(7, .int (nI i)), (6, .int (nI (min (k + 1) (xlen f n2)) - 1)), (4, .long (lN T)), (3, .int (nI k)), (0, .ref h), (1, .ref h2), (2, .ref h3)] → W p l ev rmX3_setProduct s m [.ref h, .ref h2, .ref h3].toArray below meth cd H locs 0 0 (MQ below (va_Qv (fun u => u = xset G w h r n (xmul f g)) (xE G B) (xA B)) [.ref h, .ref h2, .ref h3].toArray s 0 0 (xA B)) (F0 m 44 ls []) := by
        intro t
        induction t with
        | zero =>
          intro i T ls H locs hi hT hTe hw hS hl
          refine lv_iload hx hb dX3_setProduct_44 (lv_at hl 0 rfl) ?_
          refine lv_iload hx hb dX3_setProduct_46 (lv_at hl 1 rfl) ?_
          refine lv_icmp_gt (tgt := 79) hx hb dX3_setProduct_48 (by decide) (fun _ => ?_) (fun hc => absurd ((x_gt_hi (by omega) (by omega)).mpr (by omega)) hc)
          exact hexit T i ls _ _ (by omega) (by rw [hTe]; exact xS_to hsf (by omega) (by omega)) hw hS hl
        | succ t iht =>
          intro i T ls H locs hi hT hTe hw hS hl
          refine lv_iload hx hb dX3_setProduct_44 (lv_at hl 0 rfl) ?_
          refine lv_iload hx hb dX3_setProduct_46 (lv_at hl 1 rfl) ?_
          refine lv_icmp_gt (tgt := 79) hx hb dX3_setProduct_48 (by decide) (fun hc => ?_) (fun hc => ?_)
          · skip
            exact hexit T i ls _ _ (by omega) (by rw [hTe]; exact xS_to hsf ((x_gt_hi (by omega) (by omega)).mp hc) (by omega)) hw hS hl
          · skip
            have hc : ¬ min (k + 1) (xlen f n2) ≤ i := fun q => hc ((x_gt_hi (by omega) (by omega)).mpr q)
            refine lv_lload hx hb dX3_setProduct_51 (lv_at hl 2 rfl) ?_
            refine lv_aload_n hx hb dX3_setProduct_53 rfl (lv_at hl 5 rfl) ?_
            refine lv_iload hx hb dX3_setProduct_54 (lv_at hl 0 rfl) ?_
            refine xw_ci (xw_V (n := 1) (rest := [.long (lN T)]) C hw (kX3_coefficient l G B _ h2 r2 n2 f (nI i) h1) gX3_setProduct_X3_coefficient rfl rfl rfl (by decide +kernel) ⟨Nat.le_of_ble_eq_true rfl, Nat.le_of_ble_eq_true rfl⟩ (h1).1 rfl rfl hl.1 rfl (Nat.le_of_ble_eq_true rfl) dX3_setProduct_56 ⟨Nat.le_of_ble_eq_true rfl, Nat.le_of_ble_eq_true rfl⟩ hS) hS (fun ru u H locs hp hw hS => ?_)
            obtain ⟨hr, hu⟩ := hp
            rw [hu] at hw
            refine xw_ti (y := (xI (f i))) (hr.trans (by rw [xcf_n _ (by omega)])) ?_
            refine lv_i2l (v := ((xI (f i))).toInt64) hx hb dX3_setProduct_59 rfl ?_
            refine xw_tl (y := (xJ (f i))) (xI_l _) ?_
            refine lv_aload_n hx hb dX3_setProduct_60 rfl (lv_at hl 6 rfl) ?_
            refine lv_iload_n hx hb dX3_setProduct_61 rfl (lv_at hl 3 rfl) ?_
            refine lv_iload hx hb dX3_setProduct_62 (lv_at hl 0 rfl) ?_
            refine lv_isub hx hb dX3_setProduct_64 ?_
            refine xw_ti (y := (nI (k - i))) (pk_sub (by omega)) ?_
            refine xw_ci (xw_V (n := 1) (rest := [.long (xJ (f i)), .long (lN T)]) C hw (kX3_coefficient l G B _ h3 r3 n3 g (nI (k - i)) h4) gX3_setProduct_X3_coefficient rfl rfl rfl (by decide +kernel) ⟨Nat.le_of_ble_eq_true rfl, Nat.le_of_ble_eq_true rfl⟩ (h4).1 rfl rfl hl.1 rfl (Nat.le_of_ble_eq_true rfl) dX3_setProduct_65 ⟨Nat.le_of_ble_eq_true rfl, Nat.le_of_ble_eq_true rfl⟩ hS) hS (fun ru u H locs hp hw hS => ?_)
            obtain ⟨hr, hu⟩ := hp
            rw [hu] at hw
            refine xw_ti (y := (xI (g (k - i)))) (hr.trans (by rw [xcf_n _ (by omega)])) ?_
            refine lv_i2l (v := ((xI (g (k - i)))).toInt64) hx hb dX3_setProduct_68 rfl ?_
            refine xw_tl (y := (xJ (g (k - i)))) (xI_l _) ?_
            refine lv_lmul hx hb dX3_setProduct_69 ?_
            refine lv_ladd hx hb dX3_setProduct_70 ?_
            refine xw_tl (y := (lN (T + (f i).val * (g (k - i)).val))) (x_sumL _ _ _) ?_
            refine lv_lstore (lv' := [(4, .long (lN (T + (f i).val * (g (k - i)).val))), (7, .int (nI i)), (6, .int (nI (min (k + 1) (xlen f n2)) - 1)), (3, .int (nI k)), (0, .ref h), (1, .ref h2), (2, .ref h3)]) hx hb dX3_setProduct_71 hl (by decide) rfl (fun ls hl => ?_)
            refine lv_iinc (v := (nI (i + 1))) (lv' := [(7, .int (nI (i + 1))), (4, .long (lN (T + (f i).val * (g (k - i)).val))), (6, .int (nI (min (k + 1) (xlen f n2)) - 1)), (3, .int (nI k)), (0, .ref h), (1, .ref h2), (2, .ref h3)]) hx hb dX3_setProduct_73 hl (k := 1) rfl (x_inc i) (by decide) rfl (fun ls hl => ?_)
            refine lv_goto (tgt := 44) hx hb dX3_setProduct_76 (by decide) ?_
            have hm := x_val_mul_lt (f i) (g (k - i))
            exact iht (i + 1) _ ls _ _ (by omega) (by rw [Nat.add_mul]; omega) (by rw [xO_add, hTe, x_val_mul, xS_s]) hw hS (lv_sub hl [0, 2, 1, 3, 4, 5, 6] rfl)
      exact inner (k + 1 - (k + 1 - xlen g n3)) (k + 1 - xlen g n3) 0 ls _ _ (by omega) (Nat.zero_le _) (by rw [xS_from hsg]; decide) hw hS hl
  exact loop (xlen f n2 + xlen g n3 - 1) 0 ls _ _ (by omega) (by rw [xcut_0]; exact hw) hS hl
end
section
/-! ===== Polynomial, its constructors and division; Fraction (laid by wip/whole/m_polyc.py) ===== -/
abbrev rmX3_divide : Room := { frames := 2, cells := 0, slots := 0, locals := 49 }
theorem iX3_divide_X3 : ∀ w ∈ wsX30, w ∈ wsX3_divide := by decide +kernel
set_option maxHeartbeats 4000000 in
set_option maxRecDepth 100000 in
theorem kX3_divide (l : Launch) (G : xG) (B : Nat) (w : xM) (h r n : Nat) (f : xP) (h2 r2 n2 : Nat) (g : xP) (h3 r3 n3 : Nat) (z : xP) (hp : xPoly G w h r n f) (hg : xPoly G w h2 r2 n2 g) (hz : xPoly G w h3 r3 n3 z) (a1 : h2 ≠ h) (b1 : r2 ≠ r) (a2 : h3 ≠ h) (b2 : r3 ≠ r) (a3 : h3 ≠ h2) (b3 : r3 ≠ r2) (hg0 : xlen g n2 ≠ 0) (hfit : xlen f n ≤ n3) : Met l yX3_divide wsX3_divide rmX3_divide (va_Pc [.ref h, .ref h2, .ref h3] (xB G B w)) (va_Qv (fun u => u = xset G (xset G w h r n (xdv g (xlen g n2 - 1) (xinv (g (xlen g n2 - 1))) (xlen f n + 1 - xlen g n2) f (fun _ => 0)).1) h3 r3 n3 (xdv g (xlen g n2 - 1) (xinv (g (xlen g n2 - 1))) (xlen f n + 1 - xlen g n2) f (fun _ => 0)).2) (xE G B) (xA B)) 0 0 (xA B) := by
  refine xw_start (own := RX3) (mn := "divide") (cc := cX3_divide) (nL := 6) (rt := none) (by decide) rfl rfl rfl (Nat.le_of_ble_eq_true rfl) ?_
  intro p ev s m below meth cd ls C hl hw hS
  obtain ⟨hx, hb, -, -, -, hts, -, -, -, -⟩ := id C
  have hl : lv_has ls 6 [(0, .ref h), (1, .ref h2), (2, .ref h3)] := hl
  have hn := hp.2.2.2
  have hn2 := hg.2.2.2
  have hn3 := hz.2.2.2
  have hlf := xlen_le f n
  have hlg := xlen_le g n2
  have hsf := xlen_sup hp.2.2.1
  have hsg := xlen_sup hg.2.2.1
  have c1 := hp.ne2 hg
  have c2 := hp.ne2 hz
  have c3 := hg.ne2 hz
  obtain ⟨b, hbb⟩ : ∃ b, xlen g n2 = b + 1 := ⟨xlen g n2 - 1, by omega⟩
  obtain ⟨iv, hiv⟩ : ∃ iv, iv = xinv (g (xlen g n2 - 1)) := ⟨_, rfl⟩
  refine lv_aload_n hx hb dX3_divide_0 rfl (lv_at hl 2 rfl) ?_
  refine xw_cv (xw_V (n := 0) (rest := []) C hw (kX3_clear l G B w h3 r3 n3 z hz) gX3_divide_X3_clear rfl rfl rfl (by decide +kernel) ⟨Nat.le_of_ble_eq_true rfl, Nat.le_of_ble_eq_true rfl⟩ (hz).1 rfl rfl hl.1 rfl (Nat.le_of_ble_eq_true rfl) dX3_divide_1 ⟨Nat.le_of_ble_eq_true rfl, Nat.le_of_ble_eq_true rfl⟩ hS) hS (fun u H locs hpp hw hS => ?_)
  rw [hpp] at hw
  have hp1 : xPoly G (xset G w h3 r3 n3 (fun _ => 0)) h r n f := xset_n hp (Ne.symm a2) (Ne.symm b2) (Ne.symm c2.2) c2.1
  have hg1 : xPoly G (xset G w h3 r3 n3 (fun _ => 0)) h2 r2 n2 g := xset_n hg (Ne.symm a3) (Ne.symm b3) (Ne.symm c3.2) c3.1
  refine lv_aload_n hx hb dX3_divide_4 rfl (lv_at hl 1 rfl) ?_
  refine xw_ci (xw_V (n := 0) (rest := []) C hw (kX3_isZero l G B _ h2 r2 n2 g hg1) gX3_divide_X3_isZero rfl rfl rfl (by decide +kernel) ⟨Nat.le_of_ble_eq_true rfl, Nat.le_of_ble_eq_true rfl⟩ (hg1).1 rfl rfl hl.1 rfl (Nat.le_of_ble_eq_true rfl) dX3_divide_5 ⟨Nat.le_of_ble_eq_true rfl, Nat.le_of_ble_eq_true rfl⟩ hS) hS (fun rq q H locs hq hw hS => ?_)
  obtain ⟨hq, hu⟩ := hq
  rw [hu] at hw
  have hq : rq = 0 := by
    rcases hq with ⟨-, q⟩ | ⟨q, -⟩
    · exact absurd q hg0
    · exact q
  refine xw_ti (y := 0) (hq) ?_
  refine lv_if_eq (tgt := 12) hx hb dX3_divide_8 (by decide) (fun _ => ?_) (fun hc => absurd (rfl) hc)
  refine lv_aload_n hx hb dX3_divide_12 rfl (lv_at hl 1 rfl) ?_
  refine xw_ci (xw_V (n := 0) (rest := []) C hw (kX3_leading l G B _ h2 r2 n2 g hg1) gX3_divide_X3_leading rfl rfl rfl (by decide +kernel) ⟨Nat.le_of_ble_eq_true rfl, Nat.le_of_ble_eq_true rfl⟩ (hg1).1 rfl rfl hl.1 rfl (Nat.le_of_ble_eq_true rfl) dX3_divide_13 ⟨Nat.le_of_ble_eq_true rfl, Nat.le_of_ble_eq_true rfl⟩ hS) hS (fun ru u H locs hp hw hS => ?_)
  obtain ⟨hr, hu⟩ := hp
  rw [hu] at hw
  refine xw_ti (y := (xI (g b))) (hr.trans (by rw [xcf_hi hn2 hbb])) ?_
  refine xw_ci (xw_S (n := 1) (rest := []) C hw (kX2_inverse l G B _ (g b)) gX3_divide_X2_inverse rfl rfl rfl (by decide +kernel) ⟨Nat.le_of_ble_eq_true rfl, Nat.le_of_ble_eq_true rfl⟩ rfl hl.1 rfl (Nat.le_of_ble_eq_true rfl) dX3_divide_16 ⟨Nat.le_of_ble_eq_true rfl, Nat.le_of_ble_eq_true rfl⟩ hS) hS (fun ru u H locs hp hw hS => ?_)
  obtain ⟨hr, hu⟩ := hp
  rw [hu] at hw
  refine xw_ti (y := (xI iv)) (hr.trans (by rw [hiv, hbb]; rfl)) ?_
  refine lv_istore_n (lv' := [(3, .int (xI iv)), (0, .ref h), (1, .ref h2), (2, .ref h3)]) hx hb dX3_divide_19 rfl hl (by decide) rfl (fun ls hl => ?_)
  refine lv_aload_n hx hb dX3_divide_20 rfl (lv_at hl 1 rfl) ?_
  refine xw_get C hw (hp1).1 (ci := 2) rfl iX3_divide_X3 1 (by decide) (by decide +kernel) rfl dX3_divide_21 ?_
  refine lv_aload_n hx hb dX3_divide_24 rfl (lv_at hl 2 rfl) ?_
  refine xw_get C hw (hg1).1 (ci := 2) rfl iX3_divide_X3 1 (by decide) (by decide +kernel) rfl dX3_divide_25 ?_
  refine lv_isub hx hb dX3_divide_28 ?_
  by_cases hcmp : xlen f n < xlen g n2
  · skip
    refine lv_istore (lv' := [(4, .int ((xhi f n) - (xhi g n2))), (3, .int (xI iv)), (0, .ref h), (1, .ref h2), (2, .ref h3)]) hx hb dX3_divide_29 hl (by decide) rfl (fun ls hl => ?_)
    refine lv_iload hx hb dX3_divide_31 (lv_at hl 0 rfl) ?_
    refine lv_if_lt (tgt := 80) hx hb dX3_divide_33 (by decide) (fun _ => ?_) (fun hc => absurd ((x_hh_lt (by omega) (by omega)).mpr hcmp) hc)
    exact xw_vret C hw hS (Nat.le_of_ble_eq_true rfl) (Nat.le_of_ble_eq_true rfl) (by rw [show xlen f n + 1 - xlen g n2 = 0 by omega, xdv_0]; show _ = xset G (xset G w h r n f) h3 r3 n3 (fun _ => 0); rw [xset_id hp]) dX3_divide_80
  · skip
    refine xw_ti (y := (nI (xlen f n + 1 - xlen g n2) - 1)) (by unfold xhi; rw [x_hh_sub (by omega) (by omega), show xlen f n - xlen g n2 + 1 = xlen f n + 1 - xlen g n2 by omega]) ?_
    refine lv_istore (lv' := [(4, .int (nI (xlen f n + 1 - xlen g n2) - 1)), (3, .int (xI iv)), (0, .ref h), (1, .ref h2), (2, .ref h3)]) hx hb dX3_divide_29 hl (by decide) rfl (fun ls hl => ?_)
    have loop : ∀ (j : Nat) (f1 z1 : xP) (ls : Array Slot) (H : Heap) (locs : List Loc), j ≤ xlen f n + 1 - xlen g n2 → xsup f1 n → xsup z1 n3 → xdv g b iv j f1 z1 = xdv g b iv (xlen f n + 1 - xlen g n2) f (fun _ => 0) → xW G B (xset G (xset G w h r n f1) h3 r3 n3 z1) H → va_S (xA B) s.heap H locs → lv_has ls 6 [(4, .int (nI j - 1)), (3, .int (xI iv)), (0, .ref h), (1, .ref h2), (2, .ref h3)] → W p l ev rmX3_divide s m [.ref h, .ref h2, .ref h3].toArray below meth cd H locs 0 0 (MQ below (va_Qv (fun u => u = xset G (xset G w h r n (xdv g (xlen g n2 - 1) (xinv (g (xlen g n2 - 1))) (xlen f n + 1 - xlen g n2) f (fun _ => 0)).1) h3 r3 n3 (xdv g (xlen g n2 - 1) (xinv (g (xlen g n2 - 1))) (xlen f n + 1 - xlen g n2) f (fun _ => 0)).2) (xE G B) (xA B)) [.ref h, .ref h2, .ref h3].toArray s 0 0 (xA B)) (F0 m 31 ls []) := by
      intro j
      induction j with
      | zero =>
        intro f1 z1 ls H locs hj hs1 hs2 he hw hS hl
        refine lv_iload hx hb dX3_divide_31 (lv_at hl 0 rfl) ?_
        refine lv_if_lt (tgt := 80) hx hb dX3_divide_33 (by decide) (fun _ => ?_) (fun hc => absurd (x_neg) hc)
        exact xw_vret C hw hS (Nat.le_of_ble_eq_true rfl) (Nat.le_of_ble_eq_true rfl) (by rw [← hiv, show xlen g n2 - 1 = b by omega, ← he, xdv_0]) dX3_divide_80
      | succ j ih =>
        intro f1 z1 ls H locs hj hs1 hs2 he hw hS hl
        have i0 : xPoly G (xset G (xset G w h r n f1) h3 r3 n3 z1) h r n f1 := xset_n (xset_s hp.ne hs1 hn) (Ne.symm a2) (Ne.symm b2) (Ne.symm c2.2) c2.1
        have i2 : xPoly G (xset G (xset G w h r n f1) h3 r3 n3 z1) h2 r2 n2 g := xset_n (xset_n hg a1 b1 (Ne.symm c1.1) c1.2) (Ne.symm a3) (Ne.symm b3) (Ne.symm c3.2) c3.1
        have i3 : xPoly G (xset G (xset G w h r n f1) h3 r3 n3 z1) h3 r3 n3 z1 := xset_s hz.ne hs2 hn3
        have hl : lv_has ls 6 [(4, .int (nI j)), (3, .int (xI iv)), (0, .ref h), (1, .ref h2), (2, .ref h3)] := by rw [← (show (nI (j + 1) - 1) = (nI j) from x_m1 j)]; exact hl
        refine lv_iload hx hb dX3_divide_31 (lv_at hl 0 rfl) ?_
        refine lv_if_lt (tgt := 80) hx hb dX3_divide_33 (by decide) (fun hc => absurd hc (nI_pos (by omega))) (fun _ => ?_)
        refine lv_aload_n hx hb dX3_divide_36 rfl (lv_at hl 2 rfl) ?_
        refine lv_iload hx hb dX3_divide_37 (lv_at hl 0 rfl) ?_
        refine lv_aload_n hx hb dX3_divide_39 rfl (lv_at hl 3 rfl) ?_
        refine xw_get C hw (i2).1 (ci := 2) rfl iX3_divide_X3 1 (by decide) (by decide +kernel) rfl dX3_divide_40 ?_
        refine lv_iadd hx hb dX3_divide_43 ?_
        refine xw_ti (y := (nI (j + b))) (by unfold xhi; rw [hbb, x_m1, nI_add]) ?_
        refine xw_ci (xw_V (n := 1) (rest := []) C hw (kX3_coefficient l G B _ h r n f1 (nI (j + b)) i0) gX3_divide_X3_coefficient rfl rfl rfl (by decide +kernel) ⟨Nat.le_of_ble_eq_true rfl, Nat.le_of_ble_eq_true rfl⟩ (i0).1 rfl rfl hl.1 rfl (Nat.le_of_ble_eq_true rfl) dX3_divide_44 ⟨Nat.le_of_ble_eq_true rfl, Nat.le_of_ble_eq_true rfl⟩ hS) hS (fun ru u H locs hp hw hS => ?_)
        obtain ⟨hr, hu⟩ := hp
        rw [hu] at hw
        refine xw_ti (y := (xI (f1 (j + b)))) (hr.trans (by rw [xcf_n _ (by omega)])) ?_
        refine lv_iload_n hx hb dX3_divide_47 rfl (lv_at hl 1 rfl) ?_
        refine xw_ci (xw_S (n := 2) (rest := []) C hw (kX2_product l G B _ (f1 (j + b)) iv) gX3_divide_X2_product rfl rfl rfl (by decide +kernel) ⟨Nat.le_of_ble_eq_true rfl, Nat.le_of_ble_eq_true rfl⟩ rfl hl.1 rfl (Nat.le_of_ble_eq_true rfl) dX3_divide_48 ⟨Nat.le_of_ble_eq_true rfl, Nat.le_of_ble_eq_true rfl⟩ hS) hS (fun ru u H locs hp hw hS => ?_)
        obtain ⟨hr, hu⟩ := hp
        rw [hu] at hw
        refine xw_ti (y := (xI (f1 (j + b) * iv))) (hr) ?_
        refine lv_istore (lv' := [(5, .int (xI (f1 (j + b) * iv))), (4, .int (nI j)), (3, .int (xI iv)), (0, .ref h), (1, .ref h2), (2, .ref h3)]) hx hb dX3_divide_51 hl (by decide) rfl (fun ls hl => ?_)
        refine lv_aload_n hx hb dX3_divide_53 rfl (lv_at hl 5 rfl) ?_
        refine lv_iload hx hb dX3_divide_54 (lv_at hl 1 rfl) ?_
        refine lv_iload hx hb dX3_divide_56 (lv_at hl 0 rfl) ?_
        refine xw_cv (xw_V (n := 2) (rest := []) C hw (kX3_put l G B _ h3 r3 n3 z1 j (f1 (j + b) * iv) i3 (by omega)) gX3_divide_X3_put rfl rfl rfl (by decide +kernel) ⟨Nat.le_of_ble_eq_true rfl, Nat.le_of_ble_eq_true rfl⟩ (i3).1 rfl rfl hl.1 rfl (Nat.le_of_ble_eq_true rfl) dX3_divide_58 ⟨Nat.le_of_ble_eq_true rfl, Nat.le_of_ble_eq_true rfl⟩ hS) hS (fun u H locs hpp hw hS => ?_)
        rw [hpp] at hw
        rw [xset_u hz.ne] at hw
        have j0 : xPoly G (xset G (xset G w h r n f1) h3 r3 n3 (va_up z1 j (f1 (j + b) * iv))) h r n f1 := xset_n (xset_s hp.ne hs1 hn) (Ne.symm a2) (Ne.symm b2) (Ne.symm c2.2) c2.1
        have j2 : xPoly G (xset G (xset G w h r n f1) h3 r3 n3 (va_up z1 j (f1 (j + b) * iv))) h2 r2 n2 g := xset_n (xset_n hg a1 b1 (Ne.symm c1.1) c1.2) (Ne.symm a3) (Ne.symm b3) (Ne.symm c3.2) c3.1
        refine lv_aload_n hx hb dX3_divide_61 rfl (lv_at hl 3 rfl) ?_
        refine lv_aload_n hx hb dX3_divide_62 rfl (lv_at hl 4 rfl) ?_
        refine lv_sipush (v := 32003) hx hb dX3_divide_63 (by decide) ?_
        refine lv_iload hx hb dX3_divide_66 (lv_at hl 0 rfl) ?_
        refine lv_isub hx hb dX3_divide_68 ?_
        refine xw_ti (y := (nI (32003 - (f1 (j + b) * iv).val))) (x_P_sub _) ?_
        refine lv_iload hx hb dX3_divide_69 (lv_at hl 1 rfl) ?_
        refine xw_cv (xw_V (n := 3) (rest := []) C hw (kX3_gather l G B _ h r n f1 h2 r2 n2 g j0 j2 a1 b1 (32003 - (f1 (j + b) * iv).val) j (by omega) (by omega)) gX3_divide_X3_gather rfl rfl rfl (by decide +kernel) ⟨Nat.le_of_ble_eq_true rfl, Nat.le_of_ble_eq_true rfl⟩ (j0).1 rfl rfl hl.1 rfl (Nat.le_of_ble_eq_true rfl) dX3_divide_71 ⟨Nat.le_of_ble_eq_true rfl, Nat.le_of_ble_eq_true rfl⟩ hS) hS (fun u H locs hpp hw hS => ?_)
        rw [hpp] at hw
        rw [xset_c (Ne.symm a2) (Ne.symm b2) (Ne.symm c2.2) c2.1, xset_u hp.ne] at hw
        refine lv_iinc (v := (nI j - 1)) (lv' := [(4, .int (nI j - 1)), (5, .int (xI (f1 (j + b) * iv))), (3, .int (xI iv)), (0, .ref h), (1, .ref h2), (2, .ref h3)]) hx hb dX3_divide_74 hl (k := 1) rfl (x_dec _) (by decide) rfl (fun ls hl => ?_)
        refine lv_goto (tgt := 31) hx hb dX3_divide_77 (by decide) ?_
        exact ih _ _ ls _ _ (by omega) (xgat_sup hs1 hsg (by omega)) (xsup_up hs2 (by omega)) (by rw [← he, xdv_s]) hw hS (lv_sub hl [0, 2, 3, 4, 5] rfl)
    exact loop (xlen f n + 1 - xlen g n2) f (fun _ => 0) ls _ _ (Nat.le_refl _) hp.2.2.1 (xsup_z _) rfl (by rw [xset_id hp]; exact hw) hS hl

abbrev rmX3_init : Room := { frames := 1, cells := 1, slots := 64, locals := 21 }
theorem iX3_init_X3 : ∀ w ∈ wsX30, w ∈ wsX3_init := by decide +kernel
set_option maxHeartbeats 4000000 in
set_option maxRecDepth 100000 in
theorem kX3_init (l : Launch) (G : xG) (B : Nat) (w : xM) (h q : Nat) (hh : w h = some (.inr (2, [.null, .int 0]))) (hq : q ≤ 64) : Met l yX3_init wsX3_init rmX3_init (va_Pc [.ref h, .int (nI q)] (xB G B w)) (va_Qv (fun u => ∃ r, w r = none ∧ r ≠ h ∧ u = xset G w h r q (fun _ => 0)) (xE G B) (xA B)) 1 64 (xA B) := by
  refine xw_start (own := RX3) (mn := "<init>") (cc := cX3_init) (nL := 2) (rt := none) (by decide) rfl rfl rfl (Nat.le_of_ble_eq_true rfl) ?_
  intro p ev s m below meth cd ls C hl hw hS
  obtain ⟨hx, hb, -, -, -, hts, -, -, -, -⟩ := id C
  have hl : lv_has ls 2 [(0, .ref h), (1, .int (nI q))] := hl
  refine lv_aload_n hx hb dX3_init_0 rfl (lv_at hl 0 rfl) ?_
  refine xw_obj C hl.1 (by decide +kernel) (by decide +kernel) (by decide +kernel) (Nat.le_of_ble_eq_true rfl) (Nat.le_of_ble_eq_true rfl) dX3_init_1 ?_
  refine lv_aload_n hx hb dX3_init_4 rfl (lv_at hl 0 rfl) ?_
  refine lv_iload_n hx hb dX3_init_5 rfl (lv_at hl 1 rfl) ?_
  refine lv_iconst (v := 0) hx hb dX3_init_6 (by decide) ?_
  refine xw_max C hl.1 (by decide +kernel) (by decide +kernel) (by decide +kernel) (by decide +kernel) (Nat.le_of_ble_eq_true rfl) (Nat.le_of_ble_eq_true rfl) (Nat.le_of_ble_eq_true rfl) (Nat.le_of_ble_eq_true rfl) (z := nI q) (if_neg (nI_pos (by omega))) dX3_init_7 ?_
  refine xw_newa C hw hS 0 (by decide +kernel) rfl (N' := q) (a0 := (q, .inl (fun _ => 0))) (fun _ => rfl) (nI_pos (by omega)) (nI_clamp (by omega)) (by show q * 4 ≤ _; omega) (Nat.le_of_ble_eq_true rfl) (by show 0 + q ≤ 64; omega) dX3_init_10 (fun r H hr hw hS => ?_)
  have hrh : r ≠ h := fun q9 => by rw [q9, hh] at hr; cases hr
  have h1 : xu w r (.inl (G.2 0, q, .inl (fun _ => 0))) h = some (.inr (2, [.null, .int 0])) := (xu_n _ _ (Ne.symm hrh)).trans hh
  refine xw_putF C hw hS h1 (ci := 2) rfl iX3_init_X3 tyX3 tyX3_ok nmX3 0 (by decide) (by decide +kernel) rfl rfl rfl (ty := (.array .int)) (by decide +kernel) rfl rfl (Nat.le_of_ble_eq_true rfl) dX3_init_12 (fun H locs hw hS => ?_)
  have hw : xW G B (xu (xu w r (.inl (G.2 0, q, .inl (fun _ => 0)))) h (.inr (2, [.ref r, .int 0]))) H := hw
  refine lv_aload_n hx hb dX3_init_15 rfl (lv_at hl 0 rfl) ?_
  refine lv_iconst (v := (-1)) hx hb dX3_init_16 (by decide) ?_
  refine xw_put C hw hS (xu_s _ _ _) (ci := 2) rfl iX3_init_X3 tyX3 tyX3_ok nmX3 1 (by decide) (by decide +kernel) rfl (ty := .int) (by decide +kernel) rfl rfl (Nat.le_of_ble_eq_true rfl) dX3_init_17 (fun H locs hw hS => ?_)
  have hw : xW G B (xset G w h r q (fun _ => 0)) H := by rw [xu_u] at hw; unfold xset; rw [xhi_z, show xrow (fun _ => 0) = fun _ => 0 from funext fun _ => xI_0]; exact hw
  exact xw_vret C hw hS (Nat.le_of_ble_eq_true rfl) (by show 0 + q ≤ 64; omega) (⟨r, hr, hrh, rfl⟩) dX3_init_20

abbrev rmX3_init_ : Room := { frames := 3, cells := 1, slots := 64, locals := 66 }
theorem iX3_init__X3 : ∀ w ∈ wsX30, w ∈ wsX3_init_ := by decide +kernel
set_option maxHeartbeats 4000000 in
set_option maxRecDepth 100000 in
theorem kX3_init_ (l : Launch) (G : xG) (B : Nat) (w : xM) (h : Nat) (h2 r2 n2 : Nat) (g : xP) (hh : w h = some (.inr (2, [.null, .int 0]))) (hg : xPoly G w h2 r2 n2 g) (hne : h2 ≠ h) : Met l yX3_init_ wsX3_init_ rmX3_init_ (va_Pc [.ref h, .ref h2] (xB G B w)) (va_Qv (fun u => ∃ r, w r = none ∧ r ≠ h ∧ u = xset G w h r (xlen g n2) g) (xE G B) (xA B)) 1 64 (xA B) := by
  refine xw_start (own := RX3) (mn := "<init>") (cc := cX3_init_) (nL := 2) (rt := none) (by decide) rfl rfl rfl (Nat.le_of_ble_eq_true rfl) ?_
  intro p ev s m below meth cd ls C hl hw hS
  obtain ⟨hx, hb, -, -, -, hts, -, -, -, -⟩ := id C
  have hl : lv_has ls 2 [(0, .ref h), (1, .ref h2)] := hl
  have hn2 := hg.2.2.2
  have hlen := xlen_le g n2
  refine lv_aload_n hx hb dX3_init__0 rfl (lv_at hl 0 rfl) ?_
  refine xw_obj C hl.1 (by decide +kernel) (by decide +kernel) (by decide +kernel) (Nat.le_of_ble_eq_true rfl) (Nat.le_of_ble_eq_true rfl) dX3_init__1 ?_
  refine lv_aload_n hx hb dX3_init__4 rfl (lv_at hl 0 rfl) ?_
  refine lv_aload_n hx hb dX3_init__5 rfl (lv_at hl 1 rfl) ?_
  refine xw_get C hw (hg).1 (ci := 2) rfl iX3_init__X3 1 (by decide) (by decide +kernel) rfl dX3_init__6 ?_
  refine lv_iconst (v := 1) hx hb dX3_init__9 (by decide) ?_
  refine lv_iadd hx hb dX3_init__10 ?_
  refine xw_ti (y := (nI (xlen g n2))) (by unfold xhi; exact Int32.sub_add_cancel _ _) ?_
  refine lv_iconst (v := 0) hx hb dX3_init__11 (by decide) ?_
  refine xw_max C hl.1 (by decide +kernel) (by decide +kernel) (by decide +kernel) (by decide +kernel) (Nat.le_of_ble_eq_true rfl) (Nat.le_of_ble_eq_true rfl) (Nat.le_of_ble_eq_true rfl) (Nat.le_of_ble_eq_true rfl) (z := nI (xlen g n2)) (if_neg (nI_pos (by omega))) dX3_init__12 ?_
  refine xw_newa C hw hS 0 (by decide +kernel) rfl (N' := (xlen g n2)) (a0 := ((xlen g n2), .inl (fun _ => 0))) (fun _ => rfl) (nI_pos (by omega)) (nI_clamp (by omega)) (by show (xlen g n2) * 4 ≤ _; omega) (Nat.le_of_ble_eq_true rfl) (by show 0 + (xlen g n2) ≤ 64; omega) dX3_init__15 (fun r H hr hw hS => ?_)
  have hrh : r ≠ h := fun q9 => by rw [q9, hh] at hr; cases hr
  have h1 : xu w r (.inl (G.2 0, xlen g n2, .inl (fun _ => 0))) h = some (.inr (2, [.null, .int 0])) := (xu_n _ _ (Ne.symm hrh)).trans hh
  refine xw_putF C hw hS h1 (ci := 2) rfl iX3_init__X3 tyX3 tyX3_ok nmX3 0 (by decide) (by decide +kernel) rfl rfl rfl (ty := (.array .int)) (by decide +kernel) rfl rfl (Nat.le_of_ble_eq_true rfl) dX3_init__17 (fun H locs hw hS => ?_)
  have hw : xW G B (xu (xu w r (.inl (G.2 0, xlen g n2, .inl (fun _ => 0)))) h (.inr (2, [.ref r, .int 0]))) H := hw
  refine lv_aload_n hx hb dX3_init__20 rfl (lv_at hl 0 rfl) ?_
  refine lv_iconst (v := (-1)) hx hb dX3_init__21 (by decide) ?_
  refine xw_put C hw hS (xu_s _ _ _) (ci := 2) rfl iX3_init__X3 tyX3 tyX3_ok nmX3 1 (by decide) (by decide +kernel) rfl (ty := .int) (by decide +kernel) rfl rfl (Nat.le_of_ble_eq_true rfl) dX3_init__22 (fun H locs hw hS => ?_)
  have hw : xW G B (xset G w h r (xlen g n2) (fun _ => 0)) H := by rw [xu_u] at hw; unfold xset; rw [xhi_z, show xrow (fun _ => 0) = fun _ => 0 from funext fun _ => xI_0]; exact hw
  have k1 : r ≠ h2 := fun q9 => by rw [q9, hg.1] at hr; cases hr
  have k2 : r2 ≠ r := fun q9 => by rw [← q9, hg.2.1] at hr; cases hr
  have k3 : r2 ≠ h := fun q9 => by rw [← q9, hg.2.1] at hh; cases hh
  have hp0 : xPoly G (xset G w h r (xlen g n2) (fun _ => 0)) h r (xlen g n2) (fun _ => 0) := xset_s hrh (xsup_z _) (by omega)
  have hg0 : xPoly G (xset G w h r (xlen g n2) (fun _ => 0)) h2 r2 n2 g := xset_n hg hne k2 (Ne.symm k1) k3
  refine lv_aload_n hx hb dX3_init__25 rfl (lv_at hl 0 rfl) ?_
  refine lv_aload_n hx hb dX3_init__26 rfl (lv_at hl 1 rfl) ?_
  refine xw_cv (xw_V (n := 1) (rest := []) C hw (kX3_copy l G B _ h r (xlen g n2) _ h2 r2 n2 g hp0 hg0 hne k2 (Nat.le_refl _)) gX3_init__X3_copy rfl rfl rfl (by decide +kernel) ⟨Nat.le_of_ble_eq_true rfl, Nat.le_of_ble_eq_true rfl⟩ (hp0).1 rfl rfl hl.1 rfl (Nat.le_of_ble_eq_true rfl) dX3_init__27 ⟨Nat.le_of_ble_eq_true rfl, by show 0 + xlen g n2 + 0 ≤ 64; omega⟩ hS) hS (fun u H locs hpp hw hS => ?_)
  rw [hpp] at hw
  rw [xset_u hrh] at hw
  exact xw_vret C hw hS (Nat.le_of_ble_eq_true rfl) (by show 0 + xlen g n2 + 0 ≤ 64; omega) (⟨r, hr, hrh, rfl⟩) dX3_init__30

abbrev rmX1_part : Room := { frames := 0, cells := 0, slots := 0, locals := 0 }
theorem iX1_part_X1 : ∀ w ∈ wsX10, w ∈ wsX1_part := by decide +kernel
set_option maxHeartbeats 4000000 in
set_option maxRecDepth 100000 in
theorem kX1_part (l : Launch) (G : xG) (B : Nat) (w : xM) (h a b : Nat) (x : Int32) (hh : w h = some (.inr (1, [.ref a, .ref b]))) : Met l yX1_part wsX1_part rmX1_part (va_Pc [.ref h, .int x] (xB G B w)) (xQr G B (fun z u => z = (if x = 0 then b else a) ∧ u = w)) 0 0 (xA B) := by
  refine xw_start (own := RX1) (mn := "part") (cc := cX1_part) (nL := 2) (rt := (some (.object "CertificateSums$Polynomial"))) (by decide) rfl rfl rfl (Nat.le_of_ble_eq_true rfl) ?_
  intro p ev s m below meth cd ls C hl hw hS
  obtain ⟨hx, hb, -, -, -, hts, -, -, -, -⟩ := id C
  have hl : lv_has ls 2 [(0, .ref h), (1, .int x)] := hl
  refine lv_iload_n hx hb dX1_part_0 rfl (lv_at hl 1 rfl) ?_
  refine lv_if_eq (tgt := 11) hx hb dX1_part_1 (by decide) (fun hc => ?_) (fun hc => ?_)
  · skip
    refine lv_aload_n hx hb dX1_part_11 rfl (lv_at hl 0 rfl) ?_
    refine xw_get C hw hh (ci := 1) rfl iX1_part_X1 1 (by decide) (by decide +kernel) rfl dX1_part_12 ?_
    exact xw_aret C hw hS (Nat.le_of_ble_eq_true rfl) (Nat.le_of_ble_eq_true rfl) (⟨by rw [if_pos hc], rfl⟩) dX1_part_15
  · skip
    refine lv_aload_n hx hb dX1_part_4 rfl (lv_at hl 0 rfl) ?_
    refine xw_get C hw hh (ci := 1) rfl iX1_part_X1 0 (by decide) (by decide +kernel) rfl dX1_part_5 ?_
    refine lv_goto (tgt := 15) hx hb dX1_part_8 (by decide) ?_
    exact xw_aret C hw hS (Nat.le_of_ble_eq_true rfl) (Nat.le_of_ble_eq_true rfl) (⟨by rw [if_neg hc], rfl⟩) dX1_part_15
end
section
/-! ===== the class's cells =====
polynomials by numbers: 0 ratioTop, 1 ratioBottom, 2 top, 3 bottom, 4 left, 5 right, 6 quotient, 7 .. 15 columns, 16 target, 17 growing, 18 staying, 19 movedBase, 20 work, 21 + 2 k and 22 + 2 k function k's top and bottom;
other cells: ad 0 the object, 1 its functions, 2 the Equations, 3 their columns, 4 equationOf, 5 taken; fr k: function k's Fraction; wr: what else the world holds -/
abbrev xq (f : Nat → Option Nat) : (Nat → Int32) ⊕ (Nat → Int64) ⊕ (Nat → UInt32) ⊕ (Nat → UInt64) ⊕ (Nat → Option Nat) := .inr (.inr (.inr (.inr f)))
def xtk (tb : Nat → Bool) : Nat → Int32 := fun t => if tb t = true then 1 else 0
def xeo1 (o : Option Nat) : Int32 := match o with
  | some e => nI e
  | none => -1
def xeo (eo : Nat → Option Nat) : Nat → Int32 := fun k => xeo1 (eo k)
/-- the polynomials and their addresses -/
def xSt (G : xG) (w : xM) (pa ra cp : Nat → Nat) (N : Nat) (ps : Nat → xP) : Prop :=
  (∀ i, i < N → xPoly G w (pa i) (ra i) (cp i) (ps i)) ∧ (∀ i j, i < N → j < N → pa i = pa j → i = j) ∧ ∀ i j, i < N → j < N → ra i = ra j → i = j
/-- the other cells -/
def xAd (G : xG) (w : xM) (pa fr ad : Nat → Nat) (md : Nat) (eo : Nat → Option Nat) (tb : Nat → Bool) : Prop :=
  w (ad 0) = some (.inr (3, [.ref (pa 0), .ref (pa 1), .ref (ad 1), .int (nI md), .ref (pa 2), .ref (pa 3), .ref (pa 4), .ref (pa 5), .ref (pa 6), .ref (ad 2)])) ∧
  (∃ ff : Nat → Option Nat, w (ad 1) = some (.inl (G.2 4, 50, xq ff)) ∧ (∀ k, k < md → ff k = some (fr k)) ∧ ∀ k, md ≤ k → k < 50 → ff k = none) ∧
  (∀ k, k < md → w (fr k) = some (.inr (1, [.ref (pa (21 + 2 * k)), .ref (pa (22 + 2 * k))]))) ∧
  w (ad 2) = some (.inr (0, [.ref (ad 3), .ref (pa 16), .ref (pa 17), .ref (pa 18), .ref (pa 19), .ref (pa 20), .ref (ad 4), .ref (ad 5)])) ∧
  (∃ cf : Nat → Option Nat, w (ad 3) = some (.inl (G.2 3, 9, xq cf)) ∧ ∀ k, k < 9 → cf k = some (pa (7 + k))) ∧
  w (ad 4) = some (.inl (G.2 0, 9, .inl (xeo eo))) ∧ w (ad 5) = some (.inl (G.2 2, 64, .inl (xtk tb)))
/-- what lies beside -/
def xRs (w : xM) (pa ra ad : Nat → Nat) (N : Nat) (wr : xM) : Prop :=
  (∀ i, i < N → ra i ≠ ad 4 ∧ ra i ≠ ad 5) ∧ ad 4 ≠ ad 5 ∧ ∀ (a : Nat) (e : va_E), wr a = some e → w a = some e ∧ a ≠ ad 0 ∧ a ≠ ad 1 ∧ a ≠ ad 4 ∧ a ≠ ad 5 ∧ ∀ i, i < N → a ≠ pa i ∧ a ≠ ra i
def xCL (G : xG) (w : xM) (pa ra cp fr ad : Nat → Nat) (md : Nat) (ps : Nat → xP) (eo : Nat → Option Nat) (tb : Nat → Bool) (wr : xM) : Prop :=
  xSt G w pa ra cp (21 + 2 * md) ps ∧ xAd G w pa fr ad md eo tb ∧ xRs w pa ra ad (21 + 2 * md) wr ∧ (cp 0 = 4 ∧ cp 1 = 4 ∧ ∀ i, 2 ≤ i → i < 21 → cp i = 64) ∧ md ≤ 50
section XCL
variable {G : xG} {w : xM} {pa ra cp fr ad : Nat → Nat} {md : Nat} {ps : Nat → xP} {eo : Nat → Option Nat} {tb : Nat → Bool} {wr : xM}
theorem xCL.p (h : xCL G w pa ra cp fr ad md ps eo tb wr) (i : Nat) (hi : i < 21 + 2 * md) : xPoly G w (pa i) (ra i) (cp i) (ps i) := h.1.1 i hi
theorem xCL.pe (h : xCL G w pa ra cp fr ad md ps eo tb wr) (i : Nat) (hi : i < 21 + 2 * md) {f : xP} (e : ps i = f) : xPoly G w (pa i) (ra i) (cp i) f := e ▸ h.1.1 i hi
/-- a work row, with its 64 places -/
theorem xCL.pw (h : xCL G w pa ra cp fr ad md ps eo tb wr) (i : Nat) (h2 : 2 ≤ i) (hi : i < 21) {f : xP} (e : ps i = f) : xPoly G w (pa i) (ra i) 64 f := by
  have := h.pe i (by omega) e
  rw [h.2.2.2.1.2.2 i h2 hi] at this
  exact this
theorem xCL.pn (h : xCL G w pa ra cp fr ad md ps eo tb wr) {i j : Nat} (hi : i < 21 + 2 * md) (hj : j < 21 + 2 * md) (hne : i ≠ j) : pa i ≠ pa j := fun q => hne (h.1.2.1 i j hi hj q)
theorem xCL.rn (h : xCL G w pa ra cp fr ad md ps eo tb wr) {i j : Nat} (hi : i < 21 + 2 * md) (hj : j < 21 + 2 * md) (hne : i ≠ j) : ra i ≠ ra j := fun q => hne (h.1.2.2 i j hi hj q)
theorem xCL.cap (h : xCL G w pa ra cp fr ad md ps eo tb wr) {i : Nat} (h2 : 2 ≤ i) (hi : i < 21) : cp i = 64 := h.2.2.2.1.2.2 i h2 hi
theorem xCL.m50 (h : xCL G w pa ra cp fr ad md ps eo tb wr) : md ≤ 50 := h.2.2.2.2
theorem xCL.x (h : xCL G w pa ra cp fr ad md ps eo tb wr) : w (ad 0) = some (.inr (3, [.ref (pa 0), .ref (pa 1), .ref (ad 1), .int (nI md), .ref (pa 2), .ref (pa 3), .ref (pa 4), .ref (pa 5), .ref (pa 6), .ref (ad 2)])) := h.2.1.1
theorem xCL.ff (h : xCL G w pa ra cp fr ad md ps eo tb wr) : ∃ ff : Nat → Option Nat, w (ad 1) = some (.inl (G.2 4, 50, xq ff)) ∧ (∀ k, k < md → ff k = some (fr k)) ∧ ∀ k, md ≤ k → k < 50 → ff k = none := h.2.1.2.1
theorem xCL.fo (h : xCL G w pa ra cp fr ad md ps eo tb wr) (k : Nat) (hk : k < md) : w (fr k) = some (.inr (1, [.ref (pa (21 + 2 * k)), .ref (pa (22 + 2 * k))])) := h.2.1.2.2.1 k hk
theorem xCL.q (h : xCL G w pa ra cp fr ad md ps eo tb wr) : w (ad 2) = some (.inr (0, [.ref (ad 3), .ref (pa 16), .ref (pa 17), .ref (pa 18), .ref (pa 19), .ref (pa 20), .ref (ad 4), .ref (ad 5)])) := h.2.1.2.2.2.1
theorem xCL.cf (h : xCL G w pa ra cp fr ad md ps eo tb wr) : ∃ cf : Nat → Option Nat, w (ad 3) = some (.inl (G.2 3, 9, xq cf)) ∧ ∀ k, k < 9 → cf k = some (pa (7 + k)) := h.2.1.2.2.2.2.1
theorem xCL.qo (h : xCL G w pa ra cp fr ad md ps eo tb wr) : w (ad 4) = some (.inl (G.2 0, 9, .inl (xeo eo))) := h.2.1.2.2.2.2.2.1
theorem xCL.tk (h : xCL G w pa ra cp fr ad md ps eo tb wr) : w (ad 5) = some (.inl (G.2 2, 64, .inl (xtk tb))) := h.2.1.2.2.2.2.2.2
/-- a polynomial is set: nothing else changes -/
theorem xCL.set (h : xCL G w pa ra cp fr ad md ps eo tb wr) {i n : Nat} (hi : i < 21 + 2 * md) (hn : cp i = n) {f : xP} (hf : xsup f n) : xCL G (xset G w (pa i) (ra i) n f) pa ra cp fr ad md (va_up ps i f) eo tb wr := by
  subst hn
  have hp := h.p i hi
  obtain ⟨ff, f1, f2, f3⟩ := h.ff
  obtain ⟨cf, c1, c2⟩ := h.cf
  have o : ∀ a e, w a = some e → (∀ q, e ≠ .inr (2, q)) → (∀ q, e ≠ .inl (G.2 0, cp i, .inl q)) → xset G w (pa i) (ra i) (cp i) f a = some e := fun a e he h1 h2 => by
    rw [xset_o (x_ne he hp.1 (h1 _)) (x_ne he hp.2.1 (h2 _))]; exact he
  refine ⟨⟨fun j hj => ?_, h.1.2.1, h.1.2.2⟩, ⟨o _ _ h.x (fun q z => by simp at z) (fun q z => by simp at z), ⟨ff, o _ _ f1 (fun q z => by simp at z) (fun q z => by simp at z), f2, f3⟩, fun k hk => o _ _ (h.fo k hk) (fun q z => by simp at z) (fun q z => by simp at z), o _ _ h.q (fun q z => by simp at z) (fun q z => by simp at z), ⟨cf, o _ _ c1 (fun q z => by simp at z) (fun q z => by simp at z), c2⟩, ?_, ?_⟩, ⟨h.2.2.1.1, h.2.2.1.2.1, fun a e he => ?_⟩, h.2.2.2⟩
  · by_cases hij : j = i
    · subst hij; rw [va_up_self]; exact xset_s hp.ne hf hp.2.2.2
    · rw [va_up_ne _ _ hij]
      have hq := h.p j hj
      exact xset_n hq (h.pn hj hi hij) (h.rn hj hi hij) (Ne.symm (hp.ne2 hq).1) (hp.ne2 hq).2
  · rw [xset_o (x_ne h.qo hp.1 (fun z => by simp at z)) (Ne.symm (h.2.2.1.1 i hi).1)]; exact h.qo
  · rw [xset_o (x_ne h.tk hp.1 (fun z => by simp at z)) (Ne.symm (h.2.2.1.1 i hi).2)]; exact h.tk
  · obtain ⟨g1, g2, g3, g4, g5, g6⟩ := h.2.2.1.2.2 a e he
    exact ⟨by rw [xset_o (g6 i hi).1 (g6 i hi).2]; exact g1, g2, g3, g4, g5, g6⟩
/-- equationOf is set -/
theorem xCL.setE (h : xCL G w pa ra cp fr ad md ps eo tb wr) (eo' : Nat → Option Nat) : xCL G (xu w (ad 4) (.inl (G.2 0, 9, .inl (xeo eo')))) pa ra cp fr ad md ps eo' tb wr := by
  obtain ⟨ff, f1, f2, f3⟩ := h.ff
  obtain ⟨cf, c1, c2⟩ := h.cf
  have o : ∀ a e, w a = some e → (∀ q, e ≠ .inl (G.2 0, 9, .inl q)) → xu w (ad 4) (.inl (G.2 0, 9, .inl (xeo eo'))) a = some e := fun a e he h1 => by
    rw [xu_n _ _ (x_ne he h.qo (h1 _))]; exact he
  refine ⟨⟨fun j hj => ?_, h.1.2.1, h.1.2.2⟩, ⟨o _ _ h.x (fun q z => by simp at z), ⟨ff, o _ _ f1 (fun q z => by simp at z), f2, f3⟩, fun k hk => o _ _ (h.fo k hk) (fun q z => by simp at z), o _ _ h.q (fun q z => by simp at z), ⟨cf, o _ _ c1 (fun q z => by simp at z), c2⟩, xu_s _ _ _, ?_⟩, ⟨h.2.2.1.1, h.2.2.1.2.1, fun a e he => ?_⟩, h.2.2.2⟩
  · have hq := h.p j hj
    exact ⟨o _ _ hq.1 (fun q z => by simp at z), by rw [xu_n _ _ (h.2.2.1.1 j hj).1]; exact hq.2.1, hq.2.2⟩
  · rw [xu_n _ _ (Ne.symm h.2.2.1.2.1)]; exact h.tk
  · obtain ⟨g1, g2, g3, g4, g5, g6⟩ := h.2.2.1.2.2 a e he
    exact ⟨by rw [xu_n _ _ g4]; exact g1, g2, g3, g4, g5, g6⟩
/-- taken is set -/
theorem xCL.setT (h : xCL G w pa ra cp fr ad md ps eo tb wr) (tb' : Nat → Bool) : xCL G (xu w (ad 5) (.inl (G.2 2, 64, .inl (xtk tb')))) pa ra cp fr ad md ps eo tb' wr := by
  obtain ⟨ff, f1, f2, f3⟩ := h.ff
  obtain ⟨cf, c1, c2⟩ := h.cf
  have o : ∀ a e, w a = some e → (∀ q, e ≠ .inl (G.2 2, 64, .inl q)) → xu w (ad 5) (.inl (G.2 2, 64, .inl (xtk tb'))) a = some e := fun a e he h1 => by
    rw [xu_n _ _ (x_ne he h.tk (h1 _))]; exact he
  refine ⟨⟨fun j hj => ?_, h.1.2.1, h.1.2.2⟩, ⟨o _ _ h.x (fun q z => by simp at z), ⟨ff, o _ _ f1 (fun q z => by simp at z), f2, f3⟩, fun k hk => o _ _ (h.fo k hk) (fun q z => by simp at z), o _ _ h.q (fun q z => by simp at z), ⟨cf, o _ _ c1 (fun q z => by simp at z), c2⟩, ?_, xu_s _ _ _⟩, ⟨h.2.2.1.1, h.2.2.1.2.1, fun a e he => ?_⟩, h.2.2.2⟩
  · have hq := h.p j hj
    exact ⟨o _ _ hq.1 (fun q z => by simp at z), by rw [xu_n _ _ (h.2.2.1.1 j hj).2]; exact hq.2.1, hq.2.2⟩
  · rw [xu_n _ _ h.2.2.1.2.1]; exact h.qo
  · obtain ⟨g1, g2, g3, g4, g5, g6⟩ := h.2.2.1.2.2 a e he
    exact ⟨by rw [xu_n _ _ g5]; exact g1, g2, g3, g4, g5, g6⟩
end XCL
theorem xlen_sle {f : xP} {b n : Nat} (h : xsup f b) : xlen f n ≤ b := by
  cases hh : xlen f n with
  | zero => exact Nat.zero_le _
  | succ i =>
    by_cases hb : b ≤ i
    · exact absurd (h i hb) (xlen_top hh)
    · omega
theorem xtk_up (tb : Nat → Bool) (e : Nat) : upd (xtk tb) e 1 = xtk (va_up tb e true) := by
  funext t
  by_cases h : t = e
  · subst h; simp [upd, xtk, va_up]
  · simp [upd, xtk, va_up, h]
theorem xeo_up (eo : Nat → Option Nat) (k : Nat) (o : Option Nat) : upd (xeo eo) k (xeo1 o) = xeo (va_up eo k o) := by
  funext t
  by_cases h : t = k
  · subst h; simp [upd, xeo, va_up]
  · simp [upd, xeo, va_up, h]
/-- the first place that isn't taken, where f isn't 0 -/
def xfuA (tb : Nat → Bool) (f : xP) : Nat → Nat → Option Nat
  | 0, _ => none
  | d + 1, t => if tb t = false ∧ f t ≠ 0 then some t else xfuA tb f d (t + 1)
def xfu (tb : Nat → Bool) (f : xP) : Option Nat := xfuA tb f 64 0
theorem xfuA_s (tb : Nat → Bool) (f : xP) (d t : Nat) : xfuA tb f (d + 1) t = if tb t = false ∧ f t ≠ 0 then some t else xfuA tb f d (t + 1) := rfl
theorem xfuA_some {tb : Nat → Bool} {f : xP} {d t e : Nat} (h : xfuA tb f d t = some e) : t ≤ e ∧ e < t + d ∧ tb e = false ∧ f e ≠ 0 := by
  induction d generalizing t with
  | zero => cases h
  | succ d ih =>
    rw [xfuA_s] at h
    split at h
    · rename_i hh; cases h; exact ⟨Nat.le_refl _, by omega, hh.1, hh.2⟩
    · have := ih h; exact ⟨by omega, by omega, this.2.2⟩
theorem xfuA_none {tb : Nat → Bool} {f : xP} {d t : Nat} (h : xfuA tb f d t = none) : ∀ e, t ≤ e → e < t + d → tb e = true ∨ f e = 0 := by
  induction d generalizing t with
  | zero => intro e h1 h2; omega
  | succ d ih =>
    rw [xfuA_s] at h
    intro e h1 h2
    split at h
    · cases h
    · rename_i hh
      by_cases he : e = t
      · subst he
        cases ht : tb e with
        | true => exact Or.inl rfl
        | false => exact Or.inr (Classical.byContradiction fun q => hh ⟨ht, q⟩)
      · exact ih h e (by omega) (by omega)
theorem xfu_some {tb : Nat → Bool} {f : xP} {e : Nat} (h : xfu tb f = some e) : e < 64 ∧ tb e = false ∧ f e ≠ 0 := by
  have := xfuA_some h; exact ⟨by omega, this.2.2⟩
theorem xfu_none {tb : Nat → Bool} {f : xP} (h : xfu tb f = none) : ∀ e, e < 64 → tb e = true ∨ f e = 0 := fun e he => xfuA_none h e (Nat.zero_le _) (by omega)
/-- one column made by another -/
def xpi (f g : xP) (e : Nat) (iv : xF) : xP := va_up (xgat f (xO (32003 - (f e * iv).val)) g 0) e (f e * iv)
theorem xpi_sup {f g : xP} {e n : Nat} {iv : xF} (hf : xsup f n) (hg : xsup g n) (he : e < n) : xsup (xpi f g e iv) n := xsup_up (xgat_sup hf hg (by omega)) he
def xsol (ps : Nat → xP) (k e : Nat) : Nat → xP := fun i => if 7 + k < i ∧ i ≤ 16 then xpi (ps i) (ps (7 + k)) e (xinv (ps (7 + k) e)) else ps i
/-- the elimination's state: polynomials, equationOf, taken -/
abbrev xES : Type := (Nat → xP) × (Nat → Option Nat) × (Nat → Bool)
def xelS (k : Nat) (z : xES) : xES := match xfu z.2.2 (z.1 (7 + k)) with
  | none => (z.1, va_up z.2.1 k none, z.2.2)
  | some e => (xsol z.1 k e, va_up z.2.1 k (some e), va_up z.2.2 e true)
def xel : Nat → xES → xES
  | 0, z => z
  | k + 1, z => xelS k (xel k z)
/-- times n + v, k times -/
def xlit (v : xF) : Nat → xP → xP
  | 0, f => f
  | k + 1, f => xlin (xlit v k f) v
theorem xlit_sup {v : xF} {f : xP} {b : Nat} (h : xsup f b) (k : Nat) : xsup (xlit v k f) (b + k) := by
  induction k with
  | zero => exact h
  | succ k ih => exact xlin_sup ih
/-- the columns and the target out of r's top and bottom, A, B, Q and MOVED Q -/
def xgr0 (rb A Q : xP) : xP := xmul (xmul rb A) Q
def xcol (rb A B Q : xP) (k : Nat) : xP := xgat (xlit 1 k (xgr0 rb A Q)) (xO 32002) (xlit 0 k (xgr0 rb B (xmv 64 Q))) 0
def xtgt (rt B Q : xP) : xP := xmul (xmul (xmul rt B) Q) (xmv 64 Q)
theorem xmv_sup {f : xP} {n b : Nat} (h : xsup f n) (hb : xsup f b) : xsup (xmv n f) b := by
  have h1 := xlen_sle (n := n) hb
  have h2 := xpas_sup (xlen_sup h) (xlen f n) (xlen f n - 1) (Nat.le_refl _)
  exact xsup_mono h2 h1
end
section
/-! ===== pure rows for the Equations' loops ===== -/
def xsolk (ps : Nat → xP) (k e o : Nat) : Nat → xP := fun i => if 7 + k < i ∧ i < 7 + o then xpi (ps i) (ps (7 + k)) e (xinv (ps (7 + k) e)) else ps i
theorem xsolk_0 (ps : Nat → xP) (k e : Nat) : xsolk ps k e (k + 1) = ps := by
  funext i; unfold xsolk; rw [if_neg (by omega)]
theorem xsolk_s {ps : Nat → xP} {k e o : Nat} (h : k < o) : va_up (xsolk ps k e o) (7 + o) (xpi (ps (7 + o)) (ps (7 + k)) e (xinv (ps (7 + k) e))) = xsolk ps k e (o + 1) := by
  funext i
  by_cases hi : i = 7 + o
  · subst hi; rw [va_up_self]; unfold xsolk; rw [if_pos (by omega)]
  · rw [va_up_ne _ _ hi]; unfold xsolk
    by_cases h2 : 7 + k < i ∧ i < 7 + o
    · rw [if_pos h2, if_pos (by omega)]
    · rw [if_neg h2, if_neg (by omega)]
theorem xsolk_o {ps : Nat → xP} {k e o i : Nat} (h : i ≤ 7 + k ∨ 7 + o ≤ i) : xsolk ps k e o i = ps i := by unfold xsolk; rw [if_neg (by omega)]
theorem xsolk_end (ps : Nat → xP) {k e : Nat} (hk : k < 9) : va_up (xsolk ps k e 9) 16 (xpi (ps 16) (ps (7 + k)) e (xinv (ps (7 + k) e))) = xsol ps k e := by
  rw [show (16 : Nat) = 7 + 9 by rfl, xsolk_s hk]
  funext i; unfold xsolk xsol
  by_cases h2 : 7 + k < i ∧ i ≤ 16
  · rw [if_pos (by omega), if_pos h2]
  · rw [if_neg (by omega), if_neg h2]
def xtbi (tb : Nat → Bool) (i : Nat) : Nat → Bool := fun t => if t < i then false else tb t
theorem xtbi_0 (tb : Nat → Bool) : xtbi tb 0 = tb := by funext t; simp [xtbi]
theorem xtbi_e {tb : Nat → Bool} {i t : Nat} (h : t ≠ i) : xtbi tb (i + 1) t = xtbi tb i t := by
  unfold xtbi
  by_cases h2 : t < i
  · rw [if_pos h2, if_pos (show t < i + 1 by omega)]
  · rw [if_neg h2, if_neg (show ¬ t < i + 1 by omega)]
theorem xtbi_s (tb : Nat → Bool) (i : Nat) : upd (xtk (xtbi tb i)) i 0 = xtk (xtbi tb (i + 1)) := by
  funext t
  by_cases h : t = i
  · subst h
    have e : xtbi tb (t + 1) t = false := by unfold xtbi; rw [if_pos (by omega)]
    simp [upd, xtk, e]
  · simp [upd, xtk, xtbi_e h, h]
theorem xtk_z {tb : Nat → Bool} {t : Nat} : xtk tb t = 0 ↔ tb t = false := by
  unfold xtk; cases tb t <;> simp
theorem xelS_none {k : Nat} {z : xES} (h : xfu z.2.2 (z.1 (7 + k)) = none) : xelS k z = (z.1, va_up z.2.1 k none, z.2.2) := by unfold xelS; rw [h]
theorem xelS_some {k e : Nat} {z : xES} (h : xfu z.2.2 (z.1 (7 + k)) = some e) : xelS k z = (xsol z.1 k e, va_up z.2.1 k (some e), va_up z.2.2 e true) := by unfold xelS; rw [h]
/-- what writeSolution writes -/
def xom (f : xP) (o : Option Nat) : xF := match o with
  | some e => f e
  | none => 0
def xwsk (f : xP) (eo : Nat → Option Nat) (j : Nat) : xP := fun k => if k < j then xom f (eo k) else 0
theorem xwsk_0 (f : xP) (eo : Nat → Option Nat) : xwsk f eo 0 = fun _ => 0 := by funext k; simp [xwsk]
theorem xwsk_s (f : xP) (eo : Nat → Option Nat) (j : Nat) : va_up (xwsk f eo j) j (xom f (eo j)) = xwsk f eo (j + 1) := by
  funext k
  by_cases h : k = j
  · subst h; rw [va_up_self]; unfold xwsk; rw [if_pos (by omega)]
  · rw [va_up_ne _ _ h]; unfold xwsk
    by_cases h2 : k < j
    · rw [if_pos h2, if_pos (by omega)]
    · rw [if_neg h2, if_neg (by omega)]
theorem xwsk_sup (f : xP) (eo : Nat → Option Nat) {j n : Nat} (h : j ≤ n) : xsup (xwsk f eo j) n := fun k hk => by unfold xwsk; rw [if_neg (by omega)]
theorem xcf_eo (f : xP) (o : Option Nat) (h : ∀ e, o = some e → e < 2 ^ 31) : xcf f (xeo1 o) = xom f o := by
  cases o with
  | none => exact xcf_m1 f
  | some e => exact xcf_n f (h e rfl)
/-- how many of the first n are none -/
def xnn (eo : Nat → Option Nat) : Nat → Nat
  | 0 => 0
  | n + 1 => xnn eo n + (if eo n = none then 1 else 0)
theorem xnn_s (eo : Nat → Option Nat) (n : Nat) : xnn eo (n + 1) = xnn eo n + (if eo n = none then 1 else 0) := rfl
theorem xnn_no {eo : Nat → Option Nat} {n : Nat} (h : eo n ≠ none) : xnn eo (n + 1) = xnn eo n := by rw [xnn_s, if_neg h]; rfl
theorem xnn_yes {eo : Nat → Option Nat} {n : Nat} (h : eo n = none) : xnn eo (n + 1) = xnn eo n + 1 := by rw [xnn_s, if_pos h]
theorem xnn_le (eo : Nat → Option Nat) (n : Nat) : xnn eo n ≤ n := by
  induction n with
  | zero => exact Nat.le_refl _
  | succ n ih => unfold xnn; split <;> omega
theorem xeo1_ge {o : Option Nat} (h : ∀ e, o = some e → e < 2 ^ 31) : 0 ≤ xeo1 o ↔ o ≠ none := by
  cases o with
  | none => exact ⟨fun q => absurd q (by decide), fun q => absurd rfl q⟩
  | some e => exact ⟨fun _ => by simp, fun _ => nI_pos' (h e rfl)⟩
theorem xtgt_sup {rt B Q : xP} (h1 : xsup rt 21) (h2 : xsup B 4) (h3 : xsup Q 21) : xsup (xtgt rt B Q) 64 := xmul_sup (xmul_sup (xmul_sup h1 h2) h3) (xmv_sup (xsup_mono h3 (by decide)) h3)
theorem xgr0_sup {rb A Q : xP} (h1 : xsup rb 21) (h2 : xsup A 4) (h3 : xsup Q 21) : xsup (xgr0 rb A Q) 44 := xmul_sup (xmul_sup h1 h2) h3
theorem xcol_sup {rb A B Q : xP} {k : Nat} (h1 : xsup rb 21) (h2 : xsup A 4) (h2b : xsup B 4) (h3 : xsup Q 21) : xsup (xcol rb A B Q k) (44 + k) :=
  xgat_sup (xlit_sup (xgr0_sup h1 h2 h3) k) (xlit_sup (xgr0_sup h1 h2b (xmv_sup (xsup_mono h3 (by decide)) h3)) k) (Nat.le_refl _)
end
section
/-! ===== Equations, but for set and its constructor (laid by wip/whole/m_eq.py) ===== -/
abbrev rmX0_putInto : Room := { frames := 2, cells := 0, slots := 0, locals := 49 }
set_option maxHeartbeats 4000000 in
set_option maxRecDepth 100000 in
theorem kX0_putInto (l : Launch) (G : xG) (B : Nat) (w : xM) (h r n : Nat) (f : xP) (h2 r2 n2 : Nat) (g : xP) (e : Nat) (iv : xF) (hp : xPoly G w h r n f) (hq : xPoly G w h2 r2 n2 g) (hne : h2 ≠ h) (hnr : r2 ≠ r) (he : e < n) (hfit : xlen g n2 ≤ n) : Met l yX0_putInto wsX0_putInto rmX0_putInto (va_Pc [.ref h, .ref h2, .int (nI e), .int (xI iv)] (xB G B w)) (va_Qv (fun u => u = xset G w h r n (xpi f g e iv)) (xE G B) (xA B)) 0 0 (xA B) := by
  refine xw_start (own := RX0) (mn := "putInto") (cc := cX0_putInto) (nL := 5) (rt := none) (by decide) rfl rfl rfl (Nat.le_of_ble_eq_true rfl) ?_
  intro p ev s m below meth cd ls C hl hw hS
  obtain ⟨hx, hb, -, -, -, hts, -, -, -, -⟩ := id C
  have hl : lv_has ls 5 [(0, .ref h), (1, .ref h2), (2, .int (nI e)), (3, .int (xI iv))] := hl
  have hn := hp.2.2.2
  refine lv_aload_n hx hb dX0_putInto_0 rfl (lv_at hl 0 rfl) ?_
  refine lv_iload_n hx hb dX0_putInto_1 rfl (lv_at hl 2 rfl) ?_
  refine xw_ci (xw_V (n := 1) (rest := []) C hw (kX3_coefficient l G B w h r n f (nI e) hp) gX0_putInto_X3_coefficient rfl rfl rfl (by decide +kernel) ⟨Nat.le_of_ble_eq_true rfl, Nat.le_of_ble_eq_true rfl⟩ (hp).1 rfl rfl hl.1 rfl (Nat.le_of_ble_eq_true rfl) dX0_putInto_2 ⟨Nat.le_of_ble_eq_true rfl, Nat.le_of_ble_eq_true rfl⟩ hS) hS (fun ru u H locs hp hw hS => ?_)
  obtain ⟨hr, hu⟩ := hp
  rw [hu] at hw
  refine xw_ti (y := (xI (f e))) (hr.trans (by rw [xcf_n _ (by omega)])) ?_
  refine lv_iload_n hx hb dX0_putInto_5 rfl (lv_at hl 3 rfl) ?_
  refine xw_ci (xw_S (n := 2) (rest := []) C hw (kX2_product l G B w (f e) iv) gX0_putInto_X2_product rfl rfl rfl (by decide +kernel) ⟨Nat.le_of_ble_eq_true rfl, Nat.le_of_ble_eq_true rfl⟩ rfl hl.1 rfl (Nat.le_of_ble_eq_true rfl) dX0_putInto_6 ⟨Nat.le_of_ble_eq_true rfl, Nat.le_of_ble_eq_true rfl⟩ hS) hS (fun ru u H locs hp hw hS => ?_)
  obtain ⟨hr, hu⟩ := hp
  rw [hu] at hw
  refine xw_ti (y := (xI (f e * iv))) (hr) ?_
  refine lv_istore (lv' := [(4, .int (xI (f e * iv))), (0, .ref h), (1, .ref h2), (2, .int (nI e)), (3, .int (xI iv))]) hx hb dX0_putInto_9 hl (by decide) rfl (fun ls hl => ?_)
  refine lv_aload_n hx hb dX0_putInto_11 rfl (lv_at hl 1 rfl) ?_
  refine lv_aload_n hx hb dX0_putInto_12 rfl (lv_at hl 2 rfl) ?_
  refine lv_sipush (v := 32003) hx hb dX0_putInto_13 (by decide) ?_
  refine lv_iload hx hb dX0_putInto_16 (lv_at hl 0 rfl) ?_
  refine lv_isub hx hb dX0_putInto_18 ?_
  refine xw_ti (y := (nI (32003 - (f e * iv).val))) (x_P_sub _) ?_
  refine lv_iconst (v := 0) hx hb dX0_putInto_19 (by decide) ?_
  refine xw_ti (y := (nI 0)) (nI_0.symm) ?_
  refine xw_cv (xw_V (n := 3) (rest := []) C hw (kX3_gather l G B w h r n f h2 r2 n2 g hp hq hne hnr (32003 - (f e * iv).val) 0 (by omega) (by omega)) gX0_putInto_X3_gather rfl rfl rfl (by decide +kernel) ⟨Nat.le_of_ble_eq_true rfl, Nat.le_of_ble_eq_true rfl⟩ (hp).1 rfl rfl hl.1 rfl (Nat.le_of_ble_eq_true rfl) dX0_putInto_20 ⟨Nat.le_of_ble_eq_true rfl, Nat.le_of_ble_eq_true rfl⟩ hS) hS (fun u H locs hpp hw hS => ?_)
  rw [hpp] at hw
  have h0 : xPoly G (xset G w h r n (xgat f (xO (32003 - (f e * iv).val)) g 0)) h r n (xgat f (xO (32003 - (f e * iv).val)) g 0) := xset_s hp.ne (xgat_sup hp.2.2.1 (xlen_sup hq.2.2.1) (by omega)) hn
  refine lv_aload_n hx hb dX0_putInto_23 rfl (lv_at hl 1 rfl) ?_
  refine lv_iload_n hx hb dX0_putInto_24 rfl (lv_at hl 3 rfl) ?_
  refine lv_iload hx hb dX0_putInto_25 (lv_at hl 0 rfl) ?_
  refine xw_cv (xw_V (n := 2) (rest := []) C hw (kX3_put l G B _ h r n _ e (f e * iv) h0 he) gX0_putInto_X3_put rfl rfl rfl (by decide +kernel) ⟨Nat.le_of_ble_eq_true rfl, Nat.le_of_ble_eq_true rfl⟩ (h0).1 rfl rfl hl.1 rfl (Nat.le_of_ble_eq_true rfl) dX0_putInto_27 ⟨Nat.le_of_ble_eq_true rfl, Nat.le_of_ble_eq_true rfl⟩ hS) hS (fun u H locs hpp hw hS => ?_)
  rw [hpp] at hw
  rw [xset_u hp.ne] at hw
  exact xw_vret C hw hS (Nat.le_of_ble_eq_true rfl) (Nat.le_of_ble_eq_true rfl) (rfl) dX0_putInto_30

abbrev rmX0_firstUntaken : Room := { frames := 1, cells := 0, slots := 0, locals := 21 }
theorem iX0_firstUntaken_X0 : ∀ w ∈ wsX00, w ∈ wsX0_firstUntaken := by decide +kernel
set_option maxHeartbeats 4000000 in
set_option maxRecDepth 100000 in
theorem kX0_firstUntaken (l : Launch) (G : xG) (B : Nat) (w : xM) (pa ra cp fr ad : Nat → Nat) (md : Nat) (ps : Nat → xP) (eo : Nat → Option Nat) (tb : Nat → Bool) (wr : xM) (hC : xCL G w pa ra cp fr ad md ps eo tb wr) (i : Nat) (hi : i < 21 + 2 * md) : Met l yX0_firstUntaken wsX0_firstUntaken rmX0_firstUntaken (va_Pc [.ref (ad 2), .ref (pa i)] (xB G B w)) (va_Qi (fun r u => r = xeo1 (xfu tb (ps i)) ∧ u = w) (xE G B) (xA B)) 0 0 (xA B) := by
  refine xw_start (own := RX0) (mn := "firstUntaken") (cc := cX0_firstUntaken) (nL := 3) (rt := (some .int)) (by decide) rfl rfl rfl (Nat.le_of_ble_eq_true rfl) ?_
  intro p ev s m below meth cd ls C hl hw hS
  obtain ⟨hx, hb, -, -, -, hts, -, -, -, -⟩ := id C
  have hl : lv_has ls 3 [(0, .ref (ad 2)), (1, .ref (pa i))] := hl
  refine lv_iconst (v := 0) hx hb dX0_firstUntaken_0 (by decide) ?_
  refine lv_istore_n (lv' := [(2, .int 0), (0, .ref (ad 2)), (1, .ref (pa i))]) hx hb dX0_firstUntaken_1 rfl hl (by decide) rfl (fun ls hl => ?_)
  have loop : ∀ (d t : Nat) (ls : Array Slot) (H : Heap) (locs : List Loc), t + d = 64 → xfuA tb (ps i) d t = xfu tb (ps i) → xW G B w H → va_S (xA B) s.heap H locs → lv_has ls 3 [(2, .int (nI t)), (0, .ref (ad 2)), (1, .ref (pa i))] → W p l ev rmX0_firstUntaken s m [.ref (ad 2), .ref (pa i)].toArray below meth cd H locs 0 0 (MQ below (va_Qi (fun r u => r = xeo1 (xfu tb (ps i)) ∧ u = w) (xE G B) (xA B)) [.ref (ad 2), .ref (pa i)].toArray s 0 0 (xA B)) (F0 m 2 ls []) := by
    intro d
    induction d with
    | zero =>
      intro t ls H locs ht he hw hS hl
      refine lv_iload_n hx hb dX0_firstUntaken_2 rfl (lv_at hl 0 rfl) ?_
      refine lv_aload_n hx hb dX0_firstUntaken_3 rfl (lv_at hl 1 rfl) ?_
      refine xw_get C hw hC.q (ci := 0) rfl iX0_firstUntaken_X0 7 (by decide) (by decide +kernel) rfl dX0_firstUntaken_4 ?_
      refine xw_alen C hw 2 rfl hC.tk (N := 64) rfl dX0_firstUntaken_7 ?_
      refine lv_icmp_ge (tgt := 36) hx hb dX0_firstUntaken_8 (by decide) (fun _ => ?_) (fun hc => absurd ((nI_leI (by omega) (by omega)).mpr (by omega)) hc)
      refine lv_iconst (v := (-1)) hx hb dX0_firstUntaken_36 (by decide) ?_
      exact xw_iret C hw hS (Nat.le_of_ble_eq_true rfl) (Nat.le_of_ble_eq_true rfl) (⟨by rw [← he]; rfl, rfl⟩) dX0_firstUntaken_37
    | succ d ih =>
      intro t ls H locs ht he hw hS hl
      rw [xfuA_s] at he
      refine lv_iload_n hx hb dX0_firstUntaken_2 rfl (lv_at hl 0 rfl) ?_
      refine lv_aload_n hx hb dX0_firstUntaken_3 rfl (lv_at hl 1 rfl) ?_
      refine xw_get C hw hC.q (ci := 0) rfl iX0_firstUntaken_X0 7 (by decide) (by decide +kernel) rfl dX0_firstUntaken_4 ?_
      refine xw_alen C hw 2 rfl hC.tk (N := 64) rfl dX0_firstUntaken_7 ?_
      refine lv_icmp_ge (tgt := 36) hx hb dX0_firstUntaken_8 (by decide) (fun hc => absurd hc (fun q => absurd ((nI_leI (by omega) (by omega)).mp q) (by omega))) (fun _ => ?_)
      refine lv_aload_n hx hb dX0_firstUntaken_11 rfl (lv_at hl 1 rfl) ?_
      refine xw_get C hw hC.q (ci := 0) rfl iX0_firstUntaken_X0 7 (by decide) (by decide +kernel) rfl dX0_firstUntaken_12 ?_
      refine lv_iload_n hx hb dX0_firstUntaken_15 rfl (lv_at hl 0 rfl) ?_
      refine xw_zaldN C hw hC.tk (show t < 64 by omega) (by decide) dX0_firstUntaken_16 ?_
      refine lv_if_ne (tgt := 30) hx hb dX0_firstUntaken_17 (by decide) (fun hc => ?_) (fun hc => ?_)
      · skip
        refine lv_iinc (v := (nI (t + 1))) (lv' := [(2, .int (nI (t + 1))), (0, .ref (ad 2)), (1, .ref (pa i))]) hx hb dX0_firstUntaken_30 hl (k := 0) rfl (x_inc t) (by decide) rfl (fun ls hl => ?_)
        refine lv_goto (tgt := 2) hx hb dX0_firstUntaken_33 (by decide) ?_
        exact ih (t + 1) ls _ _ (by omega) (by rw [if_neg (fun q => hc (xtk_z.mpr q.1))] at he; exact he) hw hS hl
      · skip
        refine lv_aload_n hx hb dX0_firstUntaken_20 rfl (lv_at hl 2 rfl) ?_
        refine lv_iload_n hx hb dX0_firstUntaken_21 rfl (lv_at hl 0 rfl) ?_
        refine xw_ci (xw_V (n := 1) (rest := []) C hw (kX3_coefficient l G B w (pa i) (ra i) (cp i) (ps i) (nI t) (hC.p i hi)) gX0_firstUntaken_X3_coefficient rfl rfl rfl (by decide +kernel) ⟨Nat.le_of_ble_eq_true rfl, Nat.le_of_ble_eq_true rfl⟩ (hC.p i (by omega)).1 rfl rfl hl.1 rfl (Nat.le_of_ble_eq_true rfl) dX0_firstUntaken_22 ⟨Nat.le_of_ble_eq_true rfl, Nat.le_of_ble_eq_true rfl⟩ hS) hS (fun ru u H locs hp hw hS => ?_)
        obtain ⟨hr, hu⟩ := hp
        rw [hu] at hw
        refine xw_ti (y := (xI (ps i t))) (hr.trans (by rw [xcf_n _ (by omega)])) ?_
        refine lv_if_eq (tgt := 30) hx hb dX0_firstUntaken_25 (by decide) (fun hc2 => ?_) (fun hc2 => ?_)
        · skip
          refine lv_iinc (v := (nI (t + 1))) (lv' := [(2, .int (nI (t + 1))), (0, .ref (ad 2)), (1, .ref (pa i))]) hx hb dX0_firstUntaken_30 hl (k := 0) rfl (x_inc t) (by decide) rfl (fun ls hl => ?_)
          refine lv_goto (tgt := 2) hx hb dX0_firstUntaken_33 (by decide) ?_
          exact ih (t + 1) ls _ _ (by omega) (by rw [if_neg (fun q => q.2 (xI_z.mp hc2))] at he; exact he) hw hS hl
        · skip
          refine lv_iload_n hx hb dX0_firstUntaken_28 rfl (lv_at hl 0 rfl) ?_
          exact xw_iret C hw hS (Nat.le_of_ble_eq_true rfl) (Nat.le_of_ble_eq_true rfl) (⟨by rw [← he, if_pos ⟨xtk_z.mp hc, fun q => hc2 (xI_z.mpr q)⟩]; rfl, rfl⟩) dX0_firstUntaken_29
  exact loop 64 0 ls _ _ rfl rfl hw hS hl

abbrev rmX0_areSolvable : Room := { frames := 2, cells := 0, slots := 0, locals := 43 }
theorem iX0_areSolvable_X0 : ∀ w ∈ wsX00, w ∈ wsX0_areSolvable := by decide +kernel
set_option maxHeartbeats 4000000 in
set_option maxRecDepth 100000 in
theorem kX0_areSolvable (l : Launch) (G : xG) (B : Nat) (w : xM) (pa ra cp fr ad : Nat → Nat) (md : Nat) (ps : Nat → xP) (eo : Nat → Option Nat) (tb : Nat → Bool) (wr : xM) (hC : xCL G w pa ra cp fr ad md ps eo tb wr) : Met l yX0_areSolvable wsX0_areSolvable rmX0_areSolvable (va_Pc [.ref (ad 2)] (xB G B w)) (va_Qi (fun z u => ((z = 1 ∧ xfu tb (ps 16) = none) ∨ (z = 0 ∧ xfu tb (ps 16) ≠ none)) ∧ u = w) (xE G B) (xA B)) 0 0 (xA B) := by
  refine xw_start (own := RX0) (mn := "areSolvable") (cc := cX0_areSolvable) (nL := 1) (rt := (some .boolean)) (by decide) rfl rfl rfl (Nat.le_of_ble_eq_true rfl) ?_
  intro p ev s m below meth cd ls C hl hw hS
  obtain ⟨hx, hb, -, -, -, hts, -, -, -, -⟩ := id C
  have hl : lv_has ls 1 [(0, .ref (ad 2))] := hl
  refine lv_aload_n hx hb dX0_areSolvable_0 rfl (lv_at hl 0 rfl) ?_
  refine lv_aload_n hx hb dX0_areSolvable_1 rfl (lv_at hl 0 rfl) ?_
  refine xw_get C hw hC.q (ci := 0) rfl iX0_areSolvable_X0 1 (by decide) (by decide +kernel) rfl dX0_areSolvable_2 ?_
  refine xw_ci (xw_V (n := 1) (rest := []) C hw (kX0_firstUntaken l G B w pa ra cp fr ad md ps eo tb wr hC 16 (by omega)) gX0_areSolvable_X0_firstUntaken rfl rfl rfl (by decide +kernel) ⟨Nat.le_of_ble_eq_true rfl, Nat.le_of_ble_eq_true rfl⟩ hC.q rfl rfl hl.1 rfl (Nat.le_of_ble_eq_true rfl) dX0_areSolvable_5 ⟨Nat.le_of_ble_eq_true rfl, Nat.le_of_ble_eq_true rfl⟩ hS) hS (fun ru u H locs hp hw hS => ?_)
  obtain ⟨hr, hu⟩ := hp
  rw [hu] at hw
  refine xw_ti (y := (xeo1 (xfu tb (ps 16)))) (hr) ?_
  have hlt : ∀ e, xfu tb (ps 16) = some e → e < 2 ^ 31 := fun e he => by have := (xfu_some he).1; omega
  refine lv_if_ge (tgt := 15) hx hb dX0_areSolvable_8 (by decide) (fun hc => ?_) (fun hc => ?_)
  · skip
    refine lv_iconst (v := 0) hx hb dX0_areSolvable_15 (by decide) ?_
    exact xw_zret C hw hS (Nat.le_of_ble_eq_true rfl) (Nat.le_of_ble_eq_true rfl) (Or.inl rfl) (⟨Or.inr ⟨rfl, (xeo1_ge hlt).mp hc⟩, rfl⟩) dX0_areSolvable_16
  · skip
    refine lv_iconst (v := 1) hx hb dX0_areSolvable_11 (by decide) ?_
    refine lv_goto (tgt := 16) hx hb dX0_areSolvable_12 (by decide) ?_
    exact xw_zret C hw hS (Nat.le_of_ble_eq_true rfl) (Nat.le_of_ble_eq_true rfl) (Or.inr rfl) (⟨Or.inl ⟨rfl, Classical.byContradiction fun q => hc ((xeo1_ge hlt).mpr q)⟩, rfl⟩) dX0_areSolvable_16

abbrev rmX0_freeUpTo : Room := { frames := 0, cells := 0, slots := 0, locals := 0 }
theorem iX0_freeUpTo_X0 : ∀ w ∈ wsX00, w ∈ wsX0_freeUpTo := by decide +kernel
set_option maxHeartbeats 4000000 in
set_option maxRecDepth 100000 in
theorem kX0_freeUpTo (l : Launch) (G : xG) (B : Nat) (w : xM) (pa ra cp fr ad : Nat → Nat) (md : Nat) (ps : Nat → xP) (eo : Nat → Option Nat) (tb : Nat → Bool) (wr : xM) (hC : xCL G w pa ra cp fr ad md ps eo tb wr) (dd : Nat) (hd : dd < 9) (hlt : ∀ k e, eo k = some e → e < 2 ^ 31) : Met l yX0_freeUpTo wsX0_freeUpTo rmX0_freeUpTo (va_Pc [.ref (ad 2), .int (nI dd)] (xB G B w)) (va_Qi (fun r u => r = nI (xnn eo (dd + 1)) ∧ u = w) (xE G B) (xA B)) 0 0 (xA B) := by
  refine xw_start (own := RX0) (mn := "freeUpTo") (cc := cX0_freeUpTo) (nL := 4) (rt := (some .int)) (by decide) rfl rfl rfl (Nat.le_of_ble_eq_true rfl) ?_
  intro p ev s m below meth cd ls C hl hw hS
  obtain ⟨hx, hb, -, -, -, hts, -, -, -, -⟩ := id C
  have hl : lv_has ls 4 [(0, .ref (ad 2)), (1, .int (nI dd))] := hl
  refine lv_iconst (v := 0) hx hb dX0_freeUpTo_0 (by decide) ?_
  refine xw_ti (y := (nI 0)) (nI_0.symm) ?_
  refine lv_istore_n (lv' := [(2, .int (nI 0)), (0, .ref (ad 2)), (1, .int (nI dd))]) hx hb dX0_freeUpTo_1 rfl hl (by decide) rfl (fun ls hl => ?_)
  refine lv_iconst (v := 0) hx hb dX0_freeUpTo_2 (by decide) ?_
  refine lv_istore_n (lv' := [(3, .int 0), (2, .int (nI 0)), (0, .ref (ad 2)), (1, .int (nI dd))]) hx hb dX0_freeUpTo_3 rfl hl (by decide) rfl (fun ls hl => ?_)
  have loop : ∀ (d t : Nat) (ls : Array Slot) (H : Heap) (locs : List Loc), t + d = dd + 1 → xW G B w H → va_S (xA B) s.heap H locs → lv_has ls 4 [(3, .int (nI t)), (2, .int (nI (xnn eo t))), (0, .ref (ad 2)), (1, .int (nI dd))] → W p l ev rmX0_freeUpTo s m [.ref (ad 2), .int (nI dd)].toArray below meth cd H locs 0 0 (MQ below (va_Qi (fun r u => r = nI (xnn eo (dd + 1)) ∧ u = w) (xE G B) (xA B)) [.ref (ad 2), .int (nI dd)].toArray s 0 0 (xA B)) (F0 m 4 ls []) := by
    intro d
    induction d with
    | zero =>
      intro t ls H locs ht hw hS hl
      refine lv_iload_n hx hb dX0_freeUpTo_4 rfl (lv_at hl 0 rfl) ?_
      refine lv_iload_n hx hb dX0_freeUpTo_5 rfl (lv_at hl 3 rfl) ?_
      refine lv_icmp_gt (tgt := 36) hx hb dX0_freeUpTo_6 (by decide) (fun _ => ?_) (fun hc => absurd ((nI_ltI (by omega) (by omega)).mpr (by omega)) hc)
      refine lv_iload_n hx hb dX0_freeUpTo_36 rfl (lv_at hl 1 rfl) ?_
      exact xw_iret C hw hS (Nat.le_of_ble_eq_true rfl) (Nat.le_of_ble_eq_true rfl) (⟨by rw [show dd + 1 = t by omega], rfl⟩) dX0_freeUpTo_37
    | succ d ih =>
      intro t ls H locs ht hw hS hl
      refine lv_iload_n hx hb dX0_freeUpTo_4 rfl (lv_at hl 0 rfl) ?_
      refine lv_iload_n hx hb dX0_freeUpTo_5 rfl (lv_at hl 3 rfl) ?_
      refine lv_icmp_gt (tgt := 36) hx hb dX0_freeUpTo_6 (by decide) (fun hc => absurd hc (fun q => absurd ((nI_ltI (by omega) (by omega)).mp q) (by omega))) (fun _ => ?_)
      refine lv_iload_n hx hb dX0_freeUpTo_9 rfl (lv_at hl 0 rfl) ?_
      refine lv_aload_n hx hb dX0_freeUpTo_10 rfl (lv_at hl 2 rfl) ?_
      refine xw_get C hw hC.q (ci := 0) rfl iX0_freeUpTo_X0 6 (by decide) (by decide +kernel) rfl dX0_freeUpTo_11 ?_
      refine xw_alen C hw 0 rfl hC.qo (N := 9) rfl dX0_freeUpTo_14 ?_
      refine lv_icmp_ge (tgt := 36) hx hb dX0_freeUpTo_15 (by decide) (fun hc => absurd hc (fun q => absurd ((nI_leI (by omega) (by omega)).mp q) (by omega))) (fun _ => ?_)
      refine lv_aload_n hx hb dX0_freeUpTo_18 rfl (lv_at hl 2 rfl) ?_
      refine xw_get C hw hC.q (ci := 0) rfl iX0_freeUpTo_X0 6 (by decide) (by decide +kernel) rfl dX0_freeUpTo_19 ?_
      refine lv_iload_n hx hb dX0_freeUpTo_22 rfl (lv_at hl 0 rfl) ?_
      refine xw_ialdN C hw hC.qo (show t < 9 by omega) (by decide) dX0_freeUpTo_23 ?_
      refine xw_ti (y := (xeo1 (eo t))) (rfl) ?_
      refine lv_if_ge (tgt := 30) hx hb dX0_freeUpTo_24 (by decide) (fun hc => ?_) (fun hc => ?_)
      · skip
        have hc := (xeo1_ge (hlt t)).mp hc
        have hl : lv_has ls 4 [(3, .int (nI t)), (2, .int (nI (xnn eo (t + 1)))), (0, .ref (ad 2)), (1, .int (nI dd))] := by rw [← (show (nI (xnn eo t)) = (nI (xnn eo (t + 1))) from by rw [xnn_no hc])]; exact hl
        refine lv_iinc (v := (nI (t + 1))) (lv' := [(3, .int (nI (t + 1))), (2, .int (nI (xnn eo (t + 1)))), (0, .ref (ad 2)), (1, .int (nI dd))]) hx hb dX0_freeUpTo_30 hl (k := 0) rfl (x_inc t) (by decide) rfl (fun ls hl => ?_)
        refine lv_goto (tgt := 4) hx hb dX0_freeUpTo_33 (by decide) ?_
        exact ih (t + 1) ls _ _ (by omega) hw hS (lv_sub hl [0, 1, 2, 3] rfl)
      · skip
        have hc : eo t = none := Classical.byContradiction fun q => hc ((xeo1_ge (hlt t)).mpr q)
        refine lv_iinc (v := (nI (xnn eo (t + 1)))) (lv' := [(2, .int (nI (xnn eo (t + 1)))), (3, .int (nI t)), (0, .ref (ad 2)), (1, .int (nI dd))]) hx hb dX0_freeUpTo_27 hl (k := 1) rfl (by rw [x_inc, xnn_yes hc]) (by decide) rfl (fun ls hl => ?_)
        refine lv_iinc (v := (nI (t + 1))) (lv' := [(3, .int (nI (t + 1))), (2, .int (nI (xnn eo (t + 1)))), (0, .ref (ad 2)), (1, .int (nI dd))]) hx hb dX0_freeUpTo_30 hl (k := 1) rfl (x_inc t) (by decide) rfl (fun ls hl => ?_)
        refine lv_goto (tgt := 4) hx hb dX0_freeUpTo_33 (by decide) ?_
        exact ih (t + 1) ls _ _ (by omega) hw hS (lv_sub hl [0, 1, 2, 3] rfl)
  exact loop (dd + 1) 0 ls _ _ (by omega) hw hS (by rw [nI_0]; exact hl)

abbrev rmX0_writeSolution : Room := { frames := 2, cells := 0, slots := 0, locals := 44 }
theorem iX0_writeSolution_X0 : ∀ w ∈ wsX00, w ∈ wsX0_writeSolution := by decide +kernel
set_option maxHeartbeats 4000000 in
set_option maxRecDepth 100000 in
theorem kX0_writeSolution (l : Launch) (G : xG) (B : Nat) (w : xM) (pa ra cp fr ad : Nat → Nat) (md : Nat) (ps : Nat → xP) (eo : Nat → Option Nat) (tb : Nat → Bool) (wr : xM) (hC : xCL G w pa ra cp fr ad md ps eo tb wr) (hlt : ∀ k e, eo k = some e → e < 2 ^ 31) : Met l yX0_writeSolution wsX0_writeSolution rmX0_writeSolution (va_Pc [.ref (ad 2), .ref (pa 2)] (xB G B w)) (va_Qv (fun u => xCL G u pa ra cp fr ad md (va_up ps 2 (xwsk (ps 16) eo 9)) eo tb wr) (xE G B) (xA B)) 0 0 (xA B) := by
  refine xw_start (own := RX0) (mn := "writeSolution") (cc := cX0_writeSolution) (nL := 3) (rt := none) (by decide) rfl rfl rfl (Nat.le_of_ble_eq_true rfl) ?_
  intro p ev s m below meth cd ls C hl hw hS
  obtain ⟨hx, hb, -, -, -, hts, -, -, -, -⟩ := id C
  have hl : lv_has ls 3 [(0, .ref (ad 2)), (1, .ref (pa 2))] := hl
  refine lv_aload_n hx hb dX0_writeSolution_0 rfl (lv_at hl 1 rfl) ?_
  refine xw_cv (xw_V (n := 0) (rest := []) C hw (kX3_clear l G B w (pa 2) (ra 2) 64 (ps 2) (hC.pw 2 (by omega) (by omega) rfl)) gX0_writeSolution_X3_clear rfl rfl rfl (by decide +kernel) ⟨Nat.le_of_ble_eq_true rfl, Nat.le_of_ble_eq_true rfl⟩ (hC.p 2 (by omega)).1 rfl rfl hl.1 rfl (Nat.le_of_ble_eq_true rfl) dX0_writeSolution_1 ⟨Nat.le_of_ble_eq_true rfl, Nat.le_of_ble_eq_true rfl⟩ hS) hS (fun u H locs hpp hw hS => ?_)
  rw [hpp] at hw
  have hC := hC.set (i := 2) (by omega) (hC.cap (by omega) (by omega)) (f := fun _ => 0) (xsup_z _)
  refine lv_iconst (v := 0) hx hb dX0_writeSolution_4 (by decide) ?_
  refine lv_istore_n (lv' := [(2, .int 0), (0, .ref (ad 2)), (1, .ref (pa 2))]) hx hb dX0_writeSolution_5 rfl hl (by decide) rfl (fun ls hl => ?_)
  have loop : ∀ (d j : Nat) (w1 : xM) (ls : Array Slot) (H : Heap) (locs : List Loc), j + d = 9 → xCL G w1 pa ra cp fr ad md (va_up ps 2 (xwsk (ps 16) eo j)) eo tb wr → xW G B w1 H → va_S (xA B) s.heap H locs → lv_has ls 3 [(2, .int (nI j)), (0, .ref (ad 2)), (1, .ref (pa 2))] → W p l ev rmX0_writeSolution s m [.ref (ad 2), .ref (pa 2)].toArray below meth cd H locs 0 0 (MQ below (va_Qv (fun u => xCL G u pa ra cp fr ad md (va_up ps 2 (xwsk (ps 16) eo 9)) eo tb wr) (xE G B) (xA B)) [.ref (ad 2), .ref (pa 2)].toArray s 0 0 (xA B)) (F0 m 6 ls []) := by
    intro d
    induction d with
    | zero =>
      intro j w1 ls H locs hj hC hw hS hl
      refine lv_iload_n hx hb dX0_writeSolution_6 rfl (lv_at hl 0 rfl) ?_
      refine lv_aload_n hx hb dX0_writeSolution_7 rfl (lv_at hl 1 rfl) ?_
      refine xw_get C hw hC.q (ci := 0) rfl iX0_writeSolution_X0 6 (by decide) (by decide +kernel) rfl dX0_writeSolution_8 ?_
      refine xw_alen C hw 0 rfl hC.qo (N := 9) rfl dX0_writeSolution_11 ?_
      refine lv_icmp_ge (tgt := 39) hx hb dX0_writeSolution_12 (by decide) (fun _ => ?_) (fun hc => absurd ((nI_leI (by omega) (by omega)).mpr (by omega)) hc)
      exact xw_vret C hw hS (Nat.le_of_ble_eq_true rfl) (Nat.le_of_ble_eq_true rfl) (by rw [show j = 9 by omega] at hC; exact hC) dX0_writeSolution_39
    | succ d ih =>
      intro j w1 ls H locs hj hC hw hS hl
      have h2 : xPoly G w1 (pa 2) (ra 2) 64 (xwsk (ps 16) eo j) := hC.pw 2 (by omega) (by omega) (va_up_self _ _ _)
      have h16 : xPoly G w1 (pa 16) (ra 16) 64 (ps 16) := hC.pw 16 (by omega) (by omega) (va_up_ne _ _ (by omega))
      refine lv_iload_n hx hb dX0_writeSolution_6 rfl (lv_at hl 0 rfl) ?_
      refine lv_aload_n hx hb dX0_writeSolution_7 rfl (lv_at hl 1 rfl) ?_
      refine xw_get C hw hC.q (ci := 0) rfl iX0_writeSolution_X0 6 (by decide) (by decide +kernel) rfl dX0_writeSolution_8 ?_
      refine xw_alen C hw 0 rfl hC.qo (N := 9) rfl dX0_writeSolution_11 ?_
      refine lv_icmp_ge (tgt := 39) hx hb dX0_writeSolution_12 (by decide) (fun hc => absurd hc (fun q => absurd ((nI_leI (by omega) (by omega)).mp q) (by omega))) (fun _ => ?_)
      refine lv_aload_n hx hb dX0_writeSolution_15 rfl (lv_at hl 2 rfl) ?_
      refine lv_iload_n hx hb dX0_writeSolution_16 rfl (lv_at hl 0 rfl) ?_
      refine lv_aload_n hx hb dX0_writeSolution_17 rfl (lv_at hl 1 rfl) ?_
      refine xw_get C hw hC.q (ci := 0) rfl iX0_writeSolution_X0 1 (by decide) (by decide +kernel) rfl dX0_writeSolution_18 ?_
      refine lv_aload_n hx hb dX0_writeSolution_21 rfl (lv_at hl 1 rfl) ?_
      refine xw_get C hw hC.q (ci := 0) rfl iX0_writeSolution_X0 6 (by decide) (by decide +kernel) rfl dX0_writeSolution_22 ?_
      refine lv_iload_n hx hb dX0_writeSolution_25 rfl (lv_at hl 0 rfl) ?_
      refine xw_ialdN C hw hC.qo (show j < 9 by omega) (by decide) dX0_writeSolution_26 ?_
      refine xw_ti (y := (xeo1 (eo j))) (rfl) ?_
      refine xw_ci (xw_V (n := 1) (rest := [.int (nI j), .ref (pa 2)]) C hw (kX3_coefficient l G B w1 (pa 16) (ra 16) 64 (ps 16) (xeo1 (eo j)) h16) gX0_writeSolution_X3_coefficient rfl rfl rfl (by decide +kernel) ⟨Nat.le_of_ble_eq_true rfl, Nat.le_of_ble_eq_true rfl⟩ h16.1 rfl rfl hl.1 rfl (Nat.le_of_ble_eq_true rfl) dX0_writeSolution_27 ⟨Nat.le_of_ble_eq_true rfl, Nat.le_of_ble_eq_true rfl⟩ hS) hS (fun ru u H locs hp hw hS => ?_)
      obtain ⟨hr, hu⟩ := hp
      rw [hu] at hw
      refine xw_ti (y := (xI (xom (ps 16) (eo j)))) (hr.trans (by rw [xcf_eo _ _ (hlt j)])) ?_
      refine xw_cv (xw_V (n := 2) (rest := []) C hw (kX3_put l G B w1 (pa 2) (ra 2) 64 _ j (xom (ps 16) (eo j)) h2 (by omega)) gX0_writeSolution_X3_put rfl rfl rfl (by decide +kernel) ⟨Nat.le_of_ble_eq_true rfl, Nat.le_of_ble_eq_true rfl⟩ h2.1 rfl rfl hl.1 rfl (Nat.le_of_ble_eq_true rfl) dX0_writeSolution_30 ⟨Nat.le_of_ble_eq_true rfl, Nat.le_of_ble_eq_true rfl⟩ hS) hS (fun u H locs hpp hw hS => ?_)
      rw [hpp] at hw
      have hC := hC.set (i := 2) (by omega) (hC.cap (by omega) (by omega)) (xsup_up (v := xom (ps 16) (eo j)) h2.2.2.1 (show j < 64 by omega))
      rw [bx_uu, xwsk_s] at hC
      rw [xwsk_s] at hw
      refine lv_iinc (v := (nI (j + 1))) (lv' := [(2, .int (nI (j + 1))), (0, .ref (ad 2)), (1, .ref (pa 2))]) hx hb dX0_writeSolution_33 hl (k := 0) rfl (x_inc j) (by decide) rfl (fun ls hl => ?_)
      refine lv_goto (tgt := 6) hx hb dX0_writeSolution_36 (by decide) ?_
      exact ih (j + 1) _ ls _ _ (by omega) hC hw hS hl
  exact loop 9 0 _ ls _ _ rfl (by rw [xwsk_0]; exact hC) hw hS hl

abbrev rmX0_solveFor : Room := { frames := 3, cells := 0, slots := 0, locals := 73 }
theorem iX0_solveFor_X0 : ∀ w ∈ wsX00, w ∈ wsX0_solveFor := by decide +kernel
set_option maxHeartbeats 4000000 in
set_option maxRecDepth 100000 in
theorem kX0_solveFor (l : Launch) (G : xG) (B : Nat) (w : xM) (pa ra cp fr ad : Nat → Nat) (md : Nat) (ps : Nat → xP) (eo : Nat → Option Nat) (tb : Nat → Bool) (wr : xM) (hC : xCL G w pa ra cp fr ad md ps eo tb wr) (k e : Nat) (hk : k < 9) (he : e < 64) : Met l yX0_solveFor wsX0_solveFor rmX0_solveFor (va_Pc [.ref (ad 2), .int (nI k), .int (nI e)] (xB G B w)) (va_Qv (fun u => xCL G u pa ra cp fr ad md (xsol ps k e) eo tb wr) (xE G B) (xA B)) 0 0 (xA B) := by
  refine xw_start (own := RX0) (mn := "solveFor") (cc := cX0_solveFor) (nL := 5) (rt := none) (by decide) rfl rfl rfl (Nat.le_of_ble_eq_true rfl) ?_
  intro p ev s m below meth cd ls C hl hw hS
  obtain ⟨hx, hb, -, -, -, hts, -, -, -, -⟩ := id C
  have hl : lv_has ls 5 [(0, .ref (ad 2)), (1, .int (nI k)), (2, .int (nI e))] := hl
  obtain ⟨cf, hcf, hcf2⟩ := hC.cf
  refine lv_aload_n hx hb dX0_solveFor_0 rfl (lv_at hl 0 rfl) ?_
  refine xw_get C hw hC.q (ci := 0) rfl iX0_solveFor_X0 0 (by decide) (by decide +kernel) rfl dX0_solveFor_1 ?_
  refine lv_iload_n hx hb dX0_solveFor_4 rfl (lv_at hl 1 rfl) ?_
  refine xw_aaldN C hw 3 rfl hcf hk (by decide) (v := .ref (pa (7 + k))) (by rw [hcf2 _ hk]; rfl) dX0_solveFor_5 ?_
  refine lv_iload_n hx hb dX0_solveFor_6 rfl (lv_at hl 2 rfl) ?_
  refine xw_ci (xw_V (n := 1) (rest := []) C hw (kX3_coefficient l G B w (pa (7 + k)) (ra (7 + k)) (cp (7 + k)) (ps (7 + k)) (nI e) (hC.p (7 + k) (by omega))) gX0_solveFor_X3_coefficient rfl rfl rfl (by decide +kernel) ⟨Nat.le_of_ble_eq_true rfl, Nat.le_of_ble_eq_true rfl⟩ (hC.p (7 + k) (by omega)).1 rfl rfl hl.1 rfl (Nat.le_of_ble_eq_true rfl) dX0_solveFor_7 ⟨Nat.le_of_ble_eq_true rfl, Nat.le_of_ble_eq_true rfl⟩ hS) hS (fun ru u H locs hp hw hS => ?_)
  obtain ⟨hr, hu⟩ := hp
  rw [hu] at hw
  refine xw_ti (y := (xI (ps (7 + k) e))) (hr.trans (by rw [xcf_n _ (by omega)])) ?_
  refine xw_ci (xw_S (n := 1) (rest := []) C hw (kX2_inverse l G B w (ps (7 + k) e)) gX0_solveFor_X2_inverse rfl rfl rfl (by decide +kernel) ⟨Nat.le_of_ble_eq_true rfl, Nat.le_of_ble_eq_true rfl⟩ rfl hl.1 rfl (Nat.le_of_ble_eq_true rfl) dX0_solveFor_10 ⟨Nat.le_of_ble_eq_true rfl, Nat.le_of_ble_eq_true rfl⟩ hS) hS (fun ru u H locs hp hw hS => ?_)
  obtain ⟨hr, hu⟩ := hp
  rw [hu] at hw
  refine xw_ti (y := (xI (xinv (ps (7 + k) e)))) (hr) ?_
  refine lv_istore_n (lv' := [(3, .int (xI (xinv (ps (7 + k) e)))), (0, .ref (ad 2)), (1, .int (nI k)), (2, .int (nI e))]) hx hb dX0_solveFor_13 rfl hl (by decide) rfl (fun ls hl => ?_)
  refine lv_iload_n hx hb dX0_solveFor_14 rfl (lv_at hl 2 rfl) ?_
  refine lv_iconst (v := 1) hx hb dX0_solveFor_15 (by decide) ?_
  refine lv_iadd hx hb dX0_solveFor_16 ?_
  refine xw_ti (y := (nI (k + 1))) (nI_1 k) ?_
  refine lv_istore (lv' := [(4, .int (nI (k + 1))), (3, .int (xI (xinv (ps (7 + k) e)))), (0, .ref (ad 2)), (1, .int (nI k)), (2, .int (nI e))]) hx hb dX0_solveFor_17 hl (by decide) rfl (fun ls hl => ?_)
  have loop : ∀ (d o : Nat) (w1 : xM) (ls : Array Slot) (H : Heap) (locs : List Loc), o + d = 9 → k < o → xCL G w1 pa ra cp fr ad md (xsolk ps k e o) eo tb wr → xW G B w1 H → va_S (xA B) s.heap H locs → lv_has ls 5 [(4, .int (nI o)), (3, .int (xI (xinv (ps (7 + k) e)))), (0, .ref (ad 2)), (1, .int (nI k)), (2, .int (nI e))] → W p l ev rmX0_solveFor s m [.ref (ad 2), .int (nI k), .int (nI e)].toArray below meth cd H locs 0 0 (MQ below (va_Qv (fun u => xCL G u pa ra cp fr ad md (xsol ps k e) eo tb wr) (xE G B) (xA B)) [.ref (ad 2), .int (nI k), .int (nI e)].toArray s 0 0 (xA B)) (F0 m 19 ls []) := by
    intro d
    induction d with
    | zero =>
      intro o w1 ls H locs ho hko hC hw hS hl
      obtain ⟨cf, hcf, hcf2⟩ := hC.cf
      refine lv_iload hx hb dX0_solveFor_19 (lv_at hl 0 rfl) ?_
      refine lv_aload_n hx hb dX0_solveFor_21 rfl (lv_at hl 2 rfl) ?_
      refine xw_get C hw hC.q (ci := 0) rfl iX0_solveFor_X0 0 (by decide) (by decide +kernel) rfl dX0_solveFor_22 ?_
      refine xw_alen C hw 3 rfl hcf (N := 9) rfl dX0_solveFor_25 ?_
      refine lv_icmp_ge (tgt := 53) hx hb dX0_solveFor_26 (by decide) (fun _ => ?_) (fun hc => absurd ((nI_leI (by omega) (by omega)).mpr (by omega)) hc)
      refine lv_aload_n hx hb dX0_solveFor_53 rfl (lv_at hl 2 rfl) ?_
      refine xw_get C hw hC.q (ci := 0) rfl iX0_solveFor_X0 1 (by decide) (by decide +kernel) rfl dX0_solveFor_54 ?_
      refine lv_aload_n hx hb dX0_solveFor_57 rfl (lv_at hl 2 rfl) ?_
      refine xw_get C hw hC.q (ci := 0) rfl iX0_solveFor_X0 0 (by decide) (by decide +kernel) rfl dX0_solveFor_58 ?_
      refine lv_iload_n hx hb dX0_solveFor_61 rfl (lv_at hl 3 rfl) ?_
      refine xw_aaldN C hw 3 rfl hcf hk (by decide) (v := .ref (pa (7 + k))) (by rw [hcf2 _ hk]; rfl) dX0_solveFor_62 ?_
      refine lv_iload_n hx hb dX0_solveFor_63 rfl (lv_at hl 4 rfl) ?_
      refine lv_iload_n hx hb dX0_solveFor_64 rfl (lv_at hl 1 rfl) ?_
      have h9 : o = 9 := by omega
      subst h9
      have h1 : xPoly G w1 (pa 16) (ra 16) 64 (ps 16) := hC.pw 16 (by omega) (by omega) (xsolk_o (by omega))
      have h2 : xPoly G w1 (pa (7 + k)) (ra (7 + k)) 64 (ps (7 + k)) := hC.pw (7 + k) (by omega) (by omega) (xsolk_o (by omega))
      refine xw_cv (xw_S (n := 4) (rest := []) C hw (kX0_putInto l G B w1 (pa 16) (ra 16) 64 (ps 16) (pa (7 + k)) (ra (7 + k)) 64 (ps (7 + k)) e (xinv (ps (7 + k) e)) h1 h2 (hC.pn (by omega) (by omega) (by omega)) (hC.rn (by omega) (by omega) (by omega)) he (xlen_le _ _)) gX0_solveFor_X0_putInto rfl rfl rfl (by decide +kernel) ⟨Nat.le_of_ble_eq_true rfl, Nat.le_of_ble_eq_true rfl⟩ rfl hl.1 rfl (Nat.le_of_ble_eq_true rfl) dX0_solveFor_65 ⟨Nat.le_of_ble_eq_true rfl, Nat.le_of_ble_eq_true rfl⟩ hS) hS (fun u H locs hpp hw hS => ?_)
      rw [hpp] at hw
      have hC := hC.set (i := 16) (by omega) (hC.cap (by omega) (by omega)) (xpi_sup (iv := xinv (ps (7 + k) e)) h1.2.2.1 h2.2.2.1 he)
      exact xw_vret C hw hS (Nat.le_of_ble_eq_true rfl) (Nat.le_of_ble_eq_true rfl) (by rw [xsolk_end ps hk] at hC; exact hC) dX0_solveFor_68
    | succ d ih =>
      intro o w1 ls H locs ho hko hC hw hS hl
      obtain ⟨cf, hcf, hcf2⟩ := hC.cf
      refine lv_iload hx hb dX0_solveFor_19 (lv_at hl 0 rfl) ?_
      refine lv_aload_n hx hb dX0_solveFor_21 rfl (lv_at hl 2 rfl) ?_
      refine xw_get C hw hC.q (ci := 0) rfl iX0_solveFor_X0 0 (by decide) (by decide +kernel) rfl dX0_solveFor_22 ?_
      refine xw_alen C hw 3 rfl hcf (N := 9) rfl dX0_solveFor_25 ?_
      refine lv_icmp_ge (tgt := 53) hx hb dX0_solveFor_26 (by decide) (fun hc => absurd hc (fun q => absurd ((nI_leI (by omega) (by omega)).mp q) (by omega))) (fun _ => ?_)
      refine lv_aload_n hx hb dX0_solveFor_29 rfl (lv_at hl 2 rfl) ?_
      refine xw_get C hw hC.q (ci := 0) rfl iX0_solveFor_X0 0 (by decide) (by decide +kernel) rfl dX0_solveFor_30 ?_
      refine lv_iload hx hb dX0_solveFor_33 (lv_at hl 0 rfl) ?_
      refine xw_aaldN C hw 3 rfl hcf (show o < 9 by omega) (by decide) (v := .ref (pa (7 + o))) (by rw [hcf2 _ (show o < 9 by omega)]; rfl) dX0_solveFor_35 ?_
      refine lv_aload_n hx hb dX0_solveFor_36 rfl (lv_at hl 2 rfl) ?_
      refine xw_get C hw hC.q (ci := 0) rfl iX0_solveFor_X0 0 (by decide) (by decide +kernel) rfl dX0_solveFor_37 ?_
      refine lv_iload_n hx hb dX0_solveFor_40 rfl (lv_at hl 3 rfl) ?_
      refine xw_aaldN C hw 3 rfl hcf hk (by decide) (v := .ref (pa (7 + k))) (by rw [hcf2 _ hk]; rfl) dX0_solveFor_41 ?_
      refine lv_iload_n hx hb dX0_solveFor_42 rfl (lv_at hl 4 rfl) ?_
      refine lv_iload_n hx hb dX0_solveFor_43 rfl (lv_at hl 1 rfl) ?_
      have h1 : xPoly G w1 (pa (7 + o)) (ra (7 + o)) 64 (ps (7 + o)) := hC.pw (7 + o) (by omega) (by omega) (xsolk_o (by omega))
      have h2 : xPoly G w1 (pa (7 + k)) (ra (7 + k)) 64 (ps (7 + k)) := hC.pw (7 + k) (by omega) (by omega) (xsolk_o (by omega))
      refine xw_cv (xw_S (n := 4) (rest := []) C hw (kX0_putInto l G B w1 (pa (7 + o)) (ra (7 + o)) 64 (ps (7 + o)) (pa (7 + k)) (ra (7 + k)) 64 (ps (7 + k)) e (xinv (ps (7 + k) e)) h1 h2 (hC.pn (by omega) (by omega) (by omega)) (hC.rn (by omega) (by omega) (by omega)) he (xlen_le _ _)) gX0_solveFor_X0_putInto rfl rfl rfl (by decide +kernel) ⟨Nat.le_of_ble_eq_true rfl, Nat.le_of_ble_eq_true rfl⟩ rfl hl.1 rfl (Nat.le_of_ble_eq_true rfl) dX0_solveFor_44 ⟨Nat.le_of_ble_eq_true rfl, Nat.le_of_ble_eq_true rfl⟩ hS) hS (fun u H locs hpp hw hS => ?_)
      rw [hpp] at hw
      have hC := hC.set (i := 7 + o) (by omega) (hC.cap (by omega) (by omega)) (xpi_sup (iv := xinv (ps (7 + k) e)) h1.2.2.1 h2.2.2.1 he)
      rw [xsolk_s hko] at hC
      refine lv_iinc (v := (nI (o + 1))) (lv' := [(4, .int (nI (o + 1))), (3, .int (xI (xinv (ps (7 + k) e)))), (0, .ref (ad 2)), (1, .int (nI k)), (2, .int (nI e))]) hx hb dX0_solveFor_47 hl (k := 0) rfl (x_inc o) (by decide) rfl (fun ls hl => ?_)
      refine lv_goto (tgt := 19) hx hb dX0_solveFor_50 (by decide) ?_
      exact ih (o + 1) _ ls _ _ (by omega) (by omega) hC hw hS (lv_sub hl [0, 1, 2, 3, 4] rfl)
  exact loop (9 - (k + 1)) (k + 1) w ls _ _ (by omega) (by omega) (by rw [xsolk_0]; exact hC) hw hS hl

abbrev rmX0_eliminate : Room := { frames := 4, cells := 0, slots := 0, locals := 97 }
theorem iX0_eliminate_X0 : ∀ w ∈ wsX00, w ∈ wsX0_eliminate := by decide +kernel
set_option maxHeartbeats 4000000 in
set_option maxRecDepth 100000 in
theorem kX0_eliminate (l : Launch) (G : xG) (B : Nat) (w : xM) (pa ra cp fr ad : Nat → Nat) (md : Nat) (ps : Nat → xP) (eo : Nat → Option Nat) (tb : Nat → Bool) (wr : xM) (hC : xCL G w pa ra cp fr ad md ps eo tb wr) : Met l yX0_eliminate wsX0_eliminate rmX0_eliminate (va_Pc [.ref (ad 2)] (xB G B w)) (va_Qv (fun u => xCL G u pa ra cp fr ad md (xel 9 (ps, eo, xtbi tb 64)).1 (xel 9 (ps, eo, xtbi tb 64)).2.1 (xel 9 (ps, eo, xtbi tb 64)).2.2 wr) (xE G B) (xA B)) 0 0 (xA B) := by
  refine xw_start (own := RX0) (mn := "eliminate") (cc := cX0_eliminate) (nL := 3) (rt := none) (by decide) rfl rfl rfl (Nat.le_of_ble_eq_true rfl) ?_
  intro p ev s m below meth cd ls C hl hw hS
  obtain ⟨hx, hb, -, -, -, hts, -, -, -, -⟩ := id C
  have hl : lv_has ls 3 [(0, .ref (ad 2))] := hl
  refine lv_iconst (v := 0) hx hb dX0_eliminate_0 (by decide) ?_
  refine lv_istore_n (lv' := [(1, .int 0), (0, .ref (ad 2))]) hx hb dX0_eliminate_1 rfl hl (by decide) rfl (fun ls hl => ?_)
  have loop2 : ∀ (d k : Nat) (w1 : xM) (ls : Array Slot) (H : Heap) (locs : List Loc), k + d = 9 → xCL G w1 pa ra cp fr ad md (xel k (ps, eo, xtbi tb 64)).1 (xel k (ps, eo, xtbi tb 64)).2.1 (xel k (ps, eo, xtbi tb 64)).2.2 wr → xW G B w1 H → va_S (xA B) s.heap H locs → lv_has ls 3 [(1, .int (nI k)), (0, .ref (ad 2))] → W p l ev rmX0_eliminate s m [.ref (ad 2)].toArray below meth cd H locs 0 0 (MQ below (va_Qv (fun u => xCL G u pa ra cp fr ad md (xel 9 (ps, eo, xtbi tb 64)).1 (xel 9 (ps, eo, xtbi tb 64)).2.1 (xel 9 (ps, eo, xtbi tb 64)).2.2 wr) (xE G B) (xA B)) [.ref (ad 2)].toArray s 0 0 (xA B)) (F0 m 26 ls []) := by
    intro d
    induction d with
    | zero =>
      intro k w1 ls H locs hk hC hw hS hl
      obtain ⟨cf, hcf, hcf2⟩ := hC.cf
      refine lv_iload_n hx hb dX0_eliminate_26 rfl (lv_at hl 0 rfl) ?_
      refine lv_aload_n hx hb dX0_eliminate_27 rfl (lv_at hl 1 rfl) ?_
      refine xw_get C hw hC.q (ci := 0) rfl iX0_eliminate_X0 0 (by decide) (by decide +kernel) rfl dX0_eliminate_28 ?_
      refine xw_alen C hw 3 rfl hcf (N := 9) rfl dX0_eliminate_31 ?_
      refine lv_icmp_ge (tgt := 76) hx hb dX0_eliminate_32 (by decide) (fun _ => ?_) (fun hc => absurd ((nI_leI (by omega) (by omega)).mpr (by omega)) hc)
      exact xw_vret C hw hS (Nat.le_of_ble_eq_true rfl) (Nat.le_of_ble_eq_true rfl) (by rw [show k = 9 by omega] at hC; exact hC) dX0_eliminate_76
    | succ d ih =>
      intro k w1 ls H locs hk hC hw hS hl
      obtain ⟨z, hz⟩ : ∃ z, z = (xel k (ps, eo, xtbi tb 64)) := ⟨_, rfl⟩
      rw [← hz] at hC
      have hz1 : (xel (k + 1) (ps, eo, xtbi tb 64)) = xelS k z := by rw [hz]; rfl
      obtain ⟨cf, hcf, hcf2⟩ := hC.cf
      refine lv_iload_n hx hb dX0_eliminate_26 rfl (lv_at hl 0 rfl) ?_
      refine lv_aload_n hx hb dX0_eliminate_27 rfl (lv_at hl 1 rfl) ?_
      refine xw_get C hw hC.q (ci := 0) rfl iX0_eliminate_X0 0 (by decide) (by decide +kernel) rfl dX0_eliminate_28 ?_
      refine xw_alen C hw 3 rfl hcf (N := 9) rfl dX0_eliminate_31 ?_
      refine lv_icmp_ge (tgt := 76) hx hb dX0_eliminate_32 (by decide) (fun hc => absurd hc (fun q => absurd ((nI_leI (by omega) (by omega)).mp q) (by omega))) (fun _ => ?_)
      refine lv_aload_n hx hb dX0_eliminate_35 rfl (lv_at hl 1 rfl) ?_
      refine lv_aload_n hx hb dX0_eliminate_36 rfl (lv_at hl 1 rfl) ?_
      refine xw_get C hw hC.q (ci := 0) rfl iX0_eliminate_X0 0 (by decide) (by decide +kernel) rfl dX0_eliminate_37 ?_
      refine lv_iload_n hx hb dX0_eliminate_40 rfl (lv_at hl 0 rfl) ?_
      refine xw_aaldN C hw 3 rfl hcf (show k < 9 by omega) (by decide) (v := .ref (pa (7 + k))) (by rw [hcf2 _ (show k < 9 by omega)]; rfl) dX0_eliminate_41 ?_
      refine xw_ci (xw_V (n := 1) (rest := []) C hw (kX0_firstUntaken l G B w1 pa ra cp fr ad md z.1 z.2.1 z.2.2 wr hC (7 + k) (by omega)) gX0_eliminate_X0_firstUntaken rfl rfl rfl (by decide +kernel) ⟨Nat.le_of_ble_eq_true rfl, Nat.le_of_ble_eq_true rfl⟩ hC.q rfl rfl hl.1 rfl (Nat.le_of_ble_eq_true rfl) dX0_eliminate_42 ⟨Nat.le_of_ble_eq_true rfl, Nat.le_of_ble_eq_true rfl⟩ hS) hS (fun ru u H locs hp hw hS => ?_)
      obtain ⟨hr, hu⟩ := hp
      rw [hu] at hw
      refine xw_ti (y := (xeo1 (xfu z.2.2 (z.1 (7 + k))))) (hr) ?_
      refine lv_istore_n (lv' := [(2, .int (xeo1 (xfu z.2.2 (z.1 (7 + k))))), (1, .int (nI k)), (0, .ref (ad 2))]) hx hb dX0_eliminate_45 rfl hl (by decide) rfl (fun ls hl => ?_)
      refine lv_aload_n hx hb dX0_eliminate_46 rfl (lv_at hl 2 rfl) ?_
      refine xw_get C hw hC.q (ci := 0) rfl iX0_eliminate_X0 6 (by decide) (by decide +kernel) rfl dX0_eliminate_47 ?_
      refine lv_iload_n hx hb dX0_eliminate_50 rfl (lv_at hl 1 rfl) ?_
      refine lv_iload_n hx hb dX0_eliminate_51 rfl (lv_at hl 0 rfl) ?_
      refine xw_iastN C hw hS hC.qo (show k < 9 by omega) (by decide) dX0_eliminate_52 (fun H locs hw hS => ?_)
      have hw : xW G B (xu w1 (ad 4) (.inl (G.2 0, 9, .inl (xeo (va_up z.2.1 k (xfu z.2.2 (z.1 (7 + k)))))))) H := by rw [← xeo_up]; exact hw
      have hC := hC.setE (va_up z.2.1 k (xfu z.2.2 (z.1 (7 + k))))
      cases hfu : xfu z.2.2 (z.1 (7 + k)) with
      | none =>
        rw [hfu] at hl hC hw
        refine lv_iload_n hx hb dX0_eliminate_53 rfl (lv_at hl 0 rfl) ?_
        refine lv_if_lt (tgt := 70) hx hb dX0_eliminate_54 (by decide) (fun _ => ?_) (fun hc => absurd (by decide) hc)
        refine lv_iinc (v := (nI (k + 1))) (lv' := [(1, .int (nI (k + 1))), (2, .int (xeo1 (none))), (0, .ref (ad 2))]) hx hb dX0_eliminate_70 hl (k := 1) rfl (x_inc k) (by decide) rfl (fun ls hl => ?_)
        refine lv_goto (tgt := 26) hx hb dX0_eliminate_73 (by decide) ?_
        exact ih (k + 1) _ ls _ _ (by omega) (by rw [hz1, xelS_none hfu]; exact hC) hw hS (lv_sub hl [0, 2] rfl)
      | some e =>
        rw [hfu] at hl hC hw
        have he := (xfu_some hfu).1
        have hl : lv_has ls 3 [(2, .int (nI e)), (1, .int (nI k)), (0, .ref (ad 2))] := hl
        refine lv_iload_n hx hb dX0_eliminate_53 rfl (lv_at hl 0 rfl) ?_
        refine lv_if_lt (tgt := 70) hx hb dX0_eliminate_54 (by decide) (fun hc => absurd hc (nI_pos (by omega))) (fun _ => ?_)
        refine lv_aload_n hx hb dX0_eliminate_57 rfl (lv_at hl 2 rfl) ?_
        refine xw_get C hw hC.q (ci := 0) rfl iX0_eliminate_X0 7 (by decide) (by decide +kernel) rfl dX0_eliminate_58 ?_
        refine lv_iload_n hx hb dX0_eliminate_61 rfl (lv_at hl 0 rfl) ?_
        refine lv_iconst (v := 1) hx hb dX0_eliminate_62 (by decide) ?_
        refine xw_zastN C hw hS hC.tk rfl he (by decide) dX0_eliminate_63 (fun H locs hw hS => ?_)
        have hw : xW G B (xu (xu w1 (ad 4) (.inl (G.2 0, 9, .inl (xeo (va_up z.2.1 k (some e)))))) (ad 5) (.inl (G.2 2, 64, .inl (xtk (va_up z.2.2 e true))))) H := by rw [← xtk_up]; exact hw
        have hC := hC.setT (va_up z.2.2 e true)
        refine lv_aload_n hx hb dX0_eliminate_64 rfl (lv_at hl 2 rfl) ?_
        refine lv_iload_n hx hb dX0_eliminate_65 rfl (lv_at hl 1 rfl) ?_
        refine lv_iload_n hx hb dX0_eliminate_66 rfl (lv_at hl 0 rfl) ?_
        refine xw_cv (xw_V (n := 2) (rest := []) C hw (kX0_solveFor l G B _ pa ra cp fr ad md z.1 _ _ wr hC k e (by omega) he) gX0_eliminate_X0_solveFor rfl rfl rfl (by decide +kernel) ⟨Nat.le_of_ble_eq_true rfl, Nat.le_of_ble_eq_true rfl⟩ hC.q rfl rfl hl.1 rfl (Nat.le_of_ble_eq_true rfl) dX0_eliminate_67 ⟨Nat.le_of_ble_eq_true rfl, Nat.le_of_ble_eq_true rfl⟩ hS) hS (fun u9 H locs hC hw hS => ?_)
        refine lv_iinc (v := (nI (k + 1))) (lv' := [(1, .int (nI (k + 1))), (2, .int (nI e)), (0, .ref (ad 2))]) hx hb dX0_eliminate_70 hl (k := 1) rfl (x_inc k) (by decide) rfl (fun ls hl => ?_)
        refine lv_goto (tgt := 26) hx hb dX0_eliminate_73 (by decide) ?_
        exact ih (k + 1) _ ls _ _ (by omega) (by rw [hz1, xelS_some hfu]; exact hC) hw hS (lv_sub hl [0, 2] rfl)
  have loop : ∀ (d i : Nat) (w1 : xM) (ls : Array Slot) (H : Heap) (locs : List Loc), i + d = 64 → xCL G w1 pa ra cp fr ad md ps eo (xtbi tb i) wr → xW G B w1 H → va_S (xA B) s.heap H locs → lv_has ls 3 [(1, .int (nI i)), (0, .ref (ad 2))] → W p l ev rmX0_eliminate s m [.ref (ad 2)].toArray below meth cd H locs 0 0 (MQ below (va_Qv (fun u => xCL G u pa ra cp fr ad md (xel 9 (ps, eo, xtbi tb 64)).1 (xel 9 (ps, eo, xtbi tb 64)).2.1 (xel 9 (ps, eo, xtbi tb 64)).2.2 wr) (xE G B) (xA B)) [.ref (ad 2)].toArray s 0 0 (xA B)) (F0 m 2 ls []) := by
    intro d
    induction d with
    | zero =>
      intro i w1 ls H locs hi hC hw hS hl
      refine lv_iload_n hx hb dX0_eliminate_2 rfl (lv_at hl 0 rfl) ?_
      refine lv_aload_n hx hb dX0_eliminate_3 rfl (lv_at hl 1 rfl) ?_
      refine xw_get C hw hC.q (ci := 0) rfl iX0_eliminate_X0 7 (by decide) (by decide +kernel) rfl dX0_eliminate_4 ?_
      refine xw_alen C hw 2 rfl hC.tk (N := 64) rfl dX0_eliminate_7 ?_
      refine lv_icmp_ge (tgt := 24) hx hb dX0_eliminate_8 (by decide) (fun _ => ?_) (fun hc => absurd ((nI_leI (by omega) (by omega)).mpr (by omega)) hc)
      refine lv_iconst (v := 0) hx hb dX0_eliminate_24 (by decide) ?_
      refine xw_ti (y := (nI 0)) (nI_0.symm) ?_
      refine lv_istore_n (lv' := [(1, .int (nI 0)), (0, .ref (ad 2))]) hx hb dX0_eliminate_25 rfl hl (by decide) rfl (fun ls hl => ?_)
      exact loop2 9 0 w1 ls _ _ rfl (by rw [show i = 64 by omega] at hC; exact hC) hw hS hl
    | succ d ih =>
      intro i w1 ls H locs hi hC hw hS hl
      refine lv_iload_n hx hb dX0_eliminate_2 rfl (lv_at hl 0 rfl) ?_
      refine lv_aload_n hx hb dX0_eliminate_3 rfl (lv_at hl 1 rfl) ?_
      refine xw_get C hw hC.q (ci := 0) rfl iX0_eliminate_X0 7 (by decide) (by decide +kernel) rfl dX0_eliminate_4 ?_
      refine xw_alen C hw 2 rfl hC.tk (N := 64) rfl dX0_eliminate_7 ?_
      refine lv_icmp_ge (tgt := 24) hx hb dX0_eliminate_8 (by decide) (fun hc => absurd hc (fun q => absurd ((nI_leI (by omega) (by omega)).mp q) (by omega))) (fun _ => ?_)
      refine lv_aload_n hx hb dX0_eliminate_11 rfl (lv_at hl 1 rfl) ?_
      refine xw_get C hw hC.q (ci := 0) rfl iX0_eliminate_X0 7 (by decide) (by decide +kernel) rfl dX0_eliminate_12 ?_
      refine lv_iload_n hx hb dX0_eliminate_15 rfl (lv_at hl 0 rfl) ?_
      refine lv_iconst (v := 0) hx hb dX0_eliminate_16 (by decide) ?_
      refine xw_zastN C hw hS hC.tk rfl (show i < 64 by omega) (by decide) dX0_eliminate_17 (fun H locs hw hS => ?_)
      have hw : xW G B (xu w1 (ad 5) (.inl (G.2 2, 64, .inl (xtk (xtbi tb (i + 1)))))) H := by rw [← xtbi_s]; exact hw
      have hC := hC.setT (xtbi tb (i + 1))
      refine lv_iinc (v := (nI (i + 1))) (lv' := [(1, .int (nI (i + 1))), (0, .ref (ad 2))]) hx hb dX0_eliminate_18 hl (k := 0) rfl (x_inc i) (by decide) rfl (fun ls hl => ?_)
      refine lv_goto (tgt := 2) hx hb dX0_eliminate_21 (by decide) ?_
      exact ih (i + 1) _ ls _ _ (by omega) hC hw hS hl
  exact loop 64 0 w ls _ _ rfl (by rw [xtbi_0]; exact hC) hw hS (by rw [nI_0]; exact hl)
end
