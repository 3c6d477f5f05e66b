/-! ===== the law's own methods around a call: a body with a table of handlers ===== -/
section XL
variable {p : Program} {l : Launch} {e : Env} {R : Room} {s : State} {m : MethodId} {args : Array Value} {below : List Frame} {meth : Method} {c : Code} {H : Heap} {locs : List Loc} {cells slots : Nat} {Q : State → Prop}
variable {cc : ByteArray} {nL pc : Nat} {rt : Option FieldType} {Ts : List Cond} {own mn : String} {G : xG} {B : Nat} {w u : xM} {ls : Array Slot} {rest st0 : List Value} {a : Nat} {mc ms mc2 ms2 : Nat} {pE : String → xM → Prop}
theorem xl_start {y : MethodName} {ws' : List Cond} {rm : Room} {As : List Value} {Qc : Array Value → State → Outcome → State → Prop} {hh : List (Nat × Nat × Nat × Nat)} (hy : plainName y.cls = true) (hcls : y.cls = own) (hnm : y.name = mn) (hw : Ts = Cond.codeWith y cc nL rt hh :: ws') (hn : (lg_sl As).length ≤ nL)
    (body : ∀ (p : Program) (e : Env) (s : State) (m : MethodId) (below : List Frame) (meth : Method) (c : Code) (ls : Array Slot), xC p s m As.toArray meth c cc nL rt Ts own mn G B → lv_has ls nL (lv_args 0 As) → xW G B w s.heap → va_S (xA B) s.heap s.heap [] → xZ B s → c.exceptionTable.toList = tableOf hh →
      W p l e rm s m As.toArray below meth c s.heap [] 0 0 (MQ below Qc As.toArray s mc ms (xA B)) (F0 m 0 ls [])) : Met l y Ts rm (va_Pc As (xBz G B w)) Qc mc ms (xA B) := by
  refine MetFree.of_bodyS (code := cc) (maxLocals := nL) (ret := rt) hy ?_ ?_
  · intro args s m h hn
    obtain ⟨m9, meth, c, hn9, h1, h2, h3, h4, -, h5, h6, -⟩ := Cond.codeWith_spec (atoms_spec (ws := Ts) h _ (by rw [hw]; exact List.mem_cons_self))
    cases hn.symm.trans hn9
    exact ⟨meth, c, h1, h2, h3, h4, h5, h6⟩
  · intro p e s m args below meth c s₁ Bd hml hP _
    have hh0 : s₁.heap = s.heap := by rw [Bd.state]; rfl
    have htab : c.exceptionTable.toList = tableOf hh := vx_table (x := y) Bd (atoms_spec (ws := Ts) Bd.pre _ (by rw [hw]; exact List.mem_cons_self))
    obtain ⟨rfl, ⟨hB, hW, hK⟩, hz⟩ := hP
    have hl := lv_entry As (n := nL) hn
    have K : W p l e rm s m As.toArray below meth c s.heap [] 0 0 (MQ below Qc As.toArray s mc ms (xA B)) (entryFrame m As.toArray nL) := by
      rw [lg_entry_eq]
      subst hcls
      subst hnm
      exact body p e s m below meth c _ ⟨Bd.exec, Bd.bytes, Bd.returns, hml, findClass_of_methodNamed Bd.named, atoms_spec (ws := Ts) Bd.pre, hK, hB, Bd.notSynchronized, (name_of_methodNamed Bd.named Bd.method).1⟩ hl hW va_S.rf hz htab
    obtain ⟨t, a1, o, b1, b2, b3⟩ := K s₁ hh0 (Stand.of_body Bd)
    exact ⟨t, o, a1, b1, b2, b3⟩
/-- a call that may throw, in a body that looks at what was thrown -/
theorem xl_ci {aa : Array Value} {post : Int32 → xM → Prop} (hr : vx_Run p l e R s m args below meth c H locs cells slots mc ms (F0 m pc ls st0) rest (va_Qi post (xE G B) (xA B) aa) (xXC G B pE) (xA B)) (hS : va_S (xA B) s.heap H locs)
    (kx : ∀ (E : String) (u : xM) (H1 : Heap) (locs1 : List Loc) (q9 : Addr) (ce : Cell), pE E u → xW G B u H1 → va_S (xA B) s.heap H1 locs1 → H1[q9]? = some ce → ce.vm = .none → s.vm.findClass E = some ce.cls → vx_W p l e R s m args below meth c H1 locs1 (cells + mc) (slots + ms) Q (F0 m pc ls rest) q9)
    (kk : ∀ (r : Int32) (u : xM) (H1 : Heap) (locs1 : List Loc), post r u → xW G B u H1 → va_S (xA B) s.heap H1 locs1 → W p l e R s m args below meth c H1 locs1 (cells + mc) (slots + ms) Q (F0 m (pc + 3) ls (.int r :: rest))) : W p l e R s m args below meth c H locs cells slots Q (F0 m pc ls st0) :=
  vx_calli hr hS (fun _ _ h => h) (fun _ h => h) (fun _ _ h => h) (fun E ce q9 u t H1 locs1 ht _ _ hB _ _ hS1 h1 h2 h3 => kx E u H1 locs1 q9 ce hB.1 (by rw [← ht]; exact hB.2.1) hS1 h1 h2 h3)
    (fun r u t H1 locs1 ht _ hp hB _ _ hS1 => kk r u H1 locs1 hp (by rw [← ht]; exact hB.1) hS1)
/-- caught by a row of the table; the rows ahead name other classes -/
theorem xl_catch (C : xC p s m args meth c cc nL rt Ts own mn G B) (hz : xZ B s) {E : String} (hE : E ∈ xEs) (pre : List (Nat × Nat × Nat × Nat)) (x : Nat × Nat × Nat × Nat) (suf : List (Nat × Nat × Nat × Nat)) (htab : c.exceptionTable.toList = tableOf (pre ++ x :: suf))
    (hpre : ∀ z ∈ pre, z.2.2.2 ≠ 0 ∧ ∃ F ∈ xEs, E ≠ F ∧ Cond.classLink own z.2.2.2 F ∈ Ts) (hx : covers ⟨x.1, x.2.1, x.2.2.1, x.2.2.2⟩ pc = true) (h0 : x.2.2.2 ≠ 0) (hlink : Cond.classLink own x.2.2.2 E ∈ Ts) {ce : Cell} {q : Addr} (hcell : H[q]? = some ce) (hv : ce.vm = .none) (hcl : s.vm.findClass E = some ce.cls)
    (kk : W p l e R s m args below meth c H locs cells slots Q (F0 m x.2.2.1 ls [.ref q])) : vx_W p l e R s m args below meth c H locs cells slots Q (F0 m pc ls rest) q := by
  obtain ⟨hx9, hb, hr, hml, hown, hts, hK, hB, hlk, hmn⟩ := C
  obtain ⟨z1, z2, z3, z4, z5, z6⟩ := hz
  refine vx_catch (own := own) (name := E) (E := E) hown (tableOf pre) ⟨x.1, x.2.1, x.2.2.1, x.2.2.2⟩ (tableOf suf) (by rw [htab]; unfold tableOf; rw [List.map_append, List.map_cons]) (fun z hz9 => ?_) hx h0 (hts _ hlink) (va_Nw.use rfl (z4 E hE)) hcell hv hcl kk
  obtain ⟨y, hy, rfl⟩ := List.mem_map.mp hz9
  obtain ⟨h1, F, hF, hne, hl⟩ := hpre y hy
  exact Or.inr ⟨h1, F, hts _ hl, z6 E hE F hF hne⟩
theorem xSub.out {wr u0 : xM} {O : Nat} {e : va_E} (h : xSub wr u0) : ∀ (a : Nat) (x : va_E), wr a = some x → a ≠ O → xu u0 O e a = some x := fun a x hx hne => (xu_n _ _ hne).trans (h a x hx)
end XL
