/-! ===== throws: what the tables and the start give of Throwable and of the texts; contracts of methods that may throw ===== -/
abbrev eA : String := "java/lang/ArithmeticException"
abbrev eG : String := "java/lang/IllegalArgumentException"
abbrev eS : String := "java/lang/IllegalStateException"
abbrev eI : String := "java/lang/IndexOutOfBoundsException"
abbrev eNm : List String := ["java/lang/RuntimeException", "java/lang/Exception"]
abbrev xTx : List (Nat × String) := [(59, "the ratio has the powers 0 to 3"), (101, "the divisor is 0"), (169, "there is no such function"), (174, "there is no room for one more function"), (177, "the bottom of the ratio is 0"), (179, "the denominator is 0"), (181, "a certificate's degree is bounded by 0 to 8"), (192, "the function is too great")]
abbrev xEs : List String := [eA, eG, eS, eI]
abbrev xDs : List MethodName := [⟨"java/lang/RuntimeException", "<init>", "(Ljava/lang/String;)V"⟩, ⟨"java/lang/Exception", "<init>", "(Ljava/lang/String;)V"⟩, ⟨"java/lang/Throwable", "<init>", "(Ljava/lang/String;)V"⟩]
def xZ (B : Nat) (U : State) : Prop :=
  vx_Zq Bundle.tN "UNASSIGNED_STACK" Bundle.steD (xA B) U U.heap ∧ vx_Zq Bundle.tN "SUPPRESSED_SENTINEL" Bundle.listD (xA B) U U.heap ∧
  (∀ q ∈ xTx, ∃ sa, vk_R RX4 q.1 q.2 sa U) ∧ (∀ E ∈ xEs, va_Nw (.castable E E) U) ∧ (∀ y ∈ xDs, va_Nw (.declares y) U) ∧ ∀ E ∈ xEs, ∀ F ∈ xEs, E ≠ F → va_Nc E F U
theorem xZ.go {B : Nat} {s U : State} (h : xZ B s) (hW : s.WarmedH U.vm) (hk : ∀ q : Nat, q < s.heap.size → ¬ xA B q → U.heap[q]? = s.heap[q]?) : xZ B U := by
  obtain ⟨h1, h2, h3, h4, h5, h6⟩ := h
  exact ⟨(h1.moved hW.alike).kept hk, (h2.moved hW.alike).kept hk, fun q hq => by obtain ⟨sa, hs⟩ := h3 q hq; exact ⟨sa, hs.warm hW⟩, fun E hE => (h4 E hE).warmC hW, fun y hy => (h5 y hy).warmD hW, fun E hE F hF hne => (h6 E hE F hF hne).moved hW.alike⟩
theorem xW.grow {G : xG} {B : Nat} {w : xM} {H H1 : Heap} (h : xW G B w H) (hk : ∀ q : Nat, q < H.size → H1[q]? = H[q]?) : xW G B w H1 := fun a e he => ⟨(h a e he).1, (h a e he).2.kept (hk a (h a e he).2.lt)⟩
abbrev xBz (G : xG) (B : Nat) (w : xM) (U : State) : Prop := xB G B w U ∧ xZ B U
/-- how a method may end by a throw: the exception's class, the world -/
abbrev xXC (G : xG) (B : Nat) (pE : String → xM → Prop) : String → State → State → Prop := vx_X (S := xM) (fun _ => True) (fun E u t => pE E u ∧ xE G B u t) (xA B)
theorem x_blindz {As : List Value} {G : xG} {B : Nat} {w : xM} : FrameBlind (va_Pc As (xBz G B w)) := fun a U g mk q => by
  obtain ⟨q0, ⟨q1, q2, q3⟩, q4⟩ := q
  refine ⟨q0, ⟨q1, q2, xK.moved (u := U) (U := U.calling g mk a) (Vm.Alike.refl U.vm) q3⟩, ?_⟩
  obtain ⟨h1, h2, h3, h4, h5, h6⟩ := q4
  exact ⟨h1.moved (Vm.Alike.refl U.vm), h2.moved (Vm.Alike.refl U.vm), fun q hq => by obtain ⟨sa, hs⟩ := h3 q hq; exact ⟨sa, hs.same rfl⟩, fun E hE => (h4 E hE).same rfl rfl, fun y hy => (h5 y hy).same rfl rfl, fun E hE F hF hne => (h6 E hE F hF hne).moved (Vm.Alike.refl U.vm)⟩
section XX
variable {p : Program} {l : Launch} {e : Env} {R : Room} {s : State} {m : MethodId} {args : Array Value} {below : List Frame} {meth : Method} {c : Code} {H : Heap} {locs : List Loc} {cells slots : Nat} {Q : State → Prop}
variable {cc : ByteArray} {nL pc : Nat} {rt : Option FieldType} {Ts : List Cond} {own mn : String} {G : xG} {B : Nat} {w u : xM} {ls : Array Slot} {rest st0 : List Value} {a : Nat} {mc ms mc2 ms2 : Nat} {pE pE2 : String → xM → Prop} {Qc Qc2 : Array Value → State → Outcome → State → Prop}
theorem xx_start {y : MethodName} {ws' : List Cond} {rm : Room} {As : List Value} (hy : plainName y.cls = true) (hcls : y.cls = own) (hnm : y.name = mn) (hw : Ts = Cond.code y cc nL rt :: ws') (hn : (lg_sl As).length ≤ nL)
    (body : ∀ (p : Program) (e : Env) (s : State) (m : MethodId) (below : List Frame) (meth : Method) (c : Code) (ls : Array Slot), xC p s m As.toArray meth c cc nL rt Ts own mn G B → lv_has ls nL (lv_args 0 As) → xW G B w s.heap → va_S (xA B) s.heap s.heap [] → xZ B s → (∀ x ∈ c.exceptionTable.toList, False) →
      W p l e rm s m As.toArray below meth c s.heap [] 0 0 (vx_MQ below Qc (xXC G B pE) As.toArray s mc ms (xA B)) (F0 m 0 ls [])) : vx_Met l y Ts rm (va_Pc As (xBz G B w)) Qc (xXC G B pE) mc ms (xA B) := by
  refine vx_ofW (cc := cc) (maxL := nL) (ret := rt) hy hw ?_
  intro p e s m args below meth c s₁ Bd hml hno hv
  obtain ⟨rfl, ⟨hB, hW, hK⟩, hz⟩ := hv
  have hl := lv_entry As (n := nL) hn
  rw [lg_entry_eq]
  subst hcls
  subst hnm
  exact body p e s m below meth c _ ⟨Bd.exec, Bd.bytes, Bd.returns, hml, findClass_of_methodNamed Bd.named, atoms_spec (ws := Ts) Bd.pre, hK, hB, Bd.notSynchronized, (name_of_methodNamed Bd.named Bd.method).1⟩ hl hW va_S.rf hz hno
theorem xx_pre {As : List Value} (C : xC p s m args meth c cc nL rt Ts own mn G B) (hw : xW G B w H) (hS : va_S (xA B) s.heap H locs) (hz : xZ B s) : ∀ U : State, U.heap = H → s.WarmedH U.vm → va_Pc As (xBz G B w) As.toArray U := by
  obtain ⟨hx, hb, hr, hml, hown, hts, hK, hB, hlk, hmn⟩ := C
  intro U hU hW
  exact ⟨rfl, ⟨by rw [hU]; exact Nat.le_trans hB hS.1, by rw [hU]; exact hw, xK.moved hW.alike hK⟩, hz.go hW (by rw [hU]; exact hS.2.1)⟩
theorem xx_V {y : MethodName} {bytes : ByteArray} {maxL n index : Nat} {ret : Option FieldType} {ws ws' : List Cond} {rm : Room} {Cn : String} {b : Nat} {As : List Value} (C : xC p s m args meth c cc nL rt Ts own mn G B) (hw : xW G B w H) (hz : xZ B s)
    (hM : vx_Met l y ws rm (va_Pc (.ref b :: As) (xBz G B w)) Qc (xXC G B pE) mc ms (xA B)) (hG : GoodIn Ts (wsV own index Cn y ws)) (hws : ws = Cond.code y bytes maxL ret :: ws') (hrc : rm.cells = mc) (hrs : rm.slots = ms)
    (hd : y.cls = Cn ∧ y.cls ≠ "java/lang/invoke/MethodHandle" ∧ y.cls ≠ "java/lang/invoke/VarHandle" ∧ (parseMethodDescriptor y.desc).map (fun d => d.parameters.length) = some n) (hR : rm.frames + 1 ≤ R.frames ∧ 8 + (maxL + 11) + rm.locals ≤ R.locals)
    {ci : Nat} {fs : List Value} (he : w b = some (.inr (ci, fs))) {T : u_T} {N : Nat} (hc : vwCl[ci]? = some (Cn, T, N)) (hn : As.length = n) (hl : ls.size = nL) (hst : st0 = As.reverse ++ .ref b :: rest) (hrm : (rest.map fun v => v.category).sum ≤ 8) (hdg : decode cc pc = .ok (.invokevirtual index, 3)) (hf : cells + mc ≤ R.cells ∧ slots + ms ≤ R.slots) (hS : va_S (xA B) s.heap H locs) :
    vx_Run p l e R s m args below meth c H locs cells slots mc ms (F0 m pc ls st0) rest (Qc (Value.ref b :: As).toArray) (xXC G B pE) (xA B) := by
  have hp := xx_pre (As := .ref b :: As) C hw hS hz
  obtain ⟨hx, hb, hr, hml, hown, hts, hK, hB, hlk, hmn⟩ := C
  exact vx_runV ⟨hx, hb, hml, hown, hts⟩ hM (cwV n hts hG hws hrc hrs hd hR) ⟨x_blindz, va_recv hK (hw.one he) hc (q0 := 0) rfl, hp⟩ rfl hn hl hst (lv_room hrm) hdg hf
theorem xx_S {y : MethodName} {bytes : ByteArray} {maxL n index : Nat} {ret : Option FieldType} {ws ws' : List Cond} {rm : Room} {As : List Value} (C : xC p s m args meth c cc nL rt Ts own mn G B) (hw : xW G B w H) (hz : xZ B s)
    (hM : vx_Met l y ws rm (va_Pc As (xBz G B w)) Qc (xXC G B pE) mc ms (xA B)) (hG : GoodIn Ts (va_wsS own index y ws)) (hws : ws = Cond.code y bytes maxL ret :: ws') (hrc : rm.cells = mc) (hrs : rm.slots = ms)
    (hd : y.cls ≠ "java/lang/invoke/MethodHandle" ∧ y.cls ≠ "java/lang/invoke/VarHandle" ∧ (parseMethodDescriptor y.desc).map (fun d => d.parameters.length) = some n) (hR : rm.frames + 1 ≤ R.frames ∧ 8 + (maxL + 11) + rm.locals ≤ R.locals)
    (hn : As.length = n) (hl : ls.size = nL) (hst : st0 = As.reverse ++ rest) (hrm : (rest.map fun v => v.category).sum ≤ 8) (hdg : decode cc pc = .ok (.invokestatic index, 3)) (hf : cells + mc ≤ R.cells ∧ slots + ms ≤ R.slots) (hS : va_S (xA B) s.heap H locs) :
    vx_Run p l e R s m args below meth c H locs cells slots mc ms (F0 m pc ls st0) rest (Qc As.toArray) (xXC G B pE) (xA B) := by
  have hp := xx_pre (As := As) C hw hS hz
  obtain ⟨hx, hb, hr, hml, hown, hts, hK, hB, hlk, hmn⟩ := C
  exact vx_runS ⟨hx, hb, hml, hown, hts⟩ hM (va_cwS n hts hG hws hrc hrs hd hR) ⟨x_blindz, hp⟩ rfl hn hl hst (lv_room hrm) hdg hf
/-- a throw goes on to the caller -/
theorem xx_out {E : String} {ce : Cell} {q : Addr} (C : xC p s m args meth c cc nL rt Ts own mn G B) (hno : ∀ x ∈ c.exceptionTable.toList, False) (hcell : H[q]? = some ce) (hv : ce.vm = .none) (hcl : s.vm.findClass E = some ce.cls) (hw : xW G B u H) (hS : va_S (xA B) s.heap H locs) (hp : pE E u) (hc : cells ≤ mc) (hs : slots ≤ ms) :
    vx_W p l e R s m args below meth c H locs cells slots (vx_MQ below Qc (xXC G B pE) args s mc ms (xA B)) (F0 m pc ls rest) q := by
  obtain ⟨hx, hb, hr, hml, hown, hts, hK, hB, hlk, hmn⟩ := C
  exact vx_out (fun x hx => absurd (hno x hx) id) hlk hcell hv hcl (fun t ht ha => ⟨u, trivial, ⟨hp, by rw [ht]; exact hw, xK.moved ha hK⟩, hS.F ht⟩) hS.2.2 hc hs
theorem xx_ci {aa : Array Value} {post : Int32 → xM → Prop} (C : xC p s m args meth c cc nL rt Ts own mn G B) (hno : ∀ x ∈ c.exceptionTable.toList, False) (hr : vx_Run p l e R s m args below meth c H locs cells slots mc ms (F0 m pc ls st0) rest (va_Qi post (xE G B) (xA B) aa) (xXC G B pE) (xA B)) (hS : va_S (xA B) s.heap H locs) (hcc : cells + mc ≤ mc2) (hss : slots + ms ≤ ms2) (hprop : ∀ E u, pE E u → pE2 E u)
    (kk : ∀ (r : Int32) (u : xM) (H1 : Heap) (locs1 : List Loc), post r u → xW G B u H1 → va_S (xA B) s.heap H1 locs1 → W p l e R s m args below meth c H1 locs1 (cells + mc) (slots + ms) (vx_MQ below Qc (xXC G B pE2) args s mc2 ms2 (xA B)) (F0 m (pc + 3) ls (.int r :: rest))) : W p l e R s m args below meth c H locs cells slots (vx_MQ below Qc (xXC G B pE2) args s mc2 ms2 (xA B)) (F0 m pc ls st0) :=
  vx_calli hr hS (fun _ _ h => h) (fun _ h => h) (fun _ _ h => h) (fun E ce q9 u t H1 locs1 ht _ _ hB _ _ hS1 h1 h2 h3 => xx_out C hno h1 h2 h3 (by rw [← ht]; exact hB.2.1) hS1 (hprop E u hB.1) hcc hss)
    (fun r u t H1 locs1 ht _ hp hB _ _ hS1 => kk r u H1 locs1 hp (by rw [← ht]; exact hB.1) hS1)
theorem xx_cv {aa : Array Value} {post : xM → Prop} (C : xC p s m args meth c cc nL rt Ts own mn G B) (hno : ∀ x ∈ c.exceptionTable.toList, False) (hr : vx_Run p l e R s m args below meth c H locs cells slots mc ms (F0 m pc ls st0) rest (va_Qv post (xE G B) (xA B) aa) (xXC G B pE) (xA B)) (hS : va_S (xA B) s.heap H locs) (hcc : cells + mc ≤ mc2) (hss : slots + ms ≤ ms2) (hprop : ∀ E u, pE E u → pE2 E u)
    (kk : ∀ (u : xM) (H1 : Heap) (locs1 : List Loc), post u → xW G B u H1 → va_S (xA B) s.heap H1 locs1 → W p l e R s m args below meth c H1 locs1 (cells + mc) (slots + ms) (vx_MQ below Qc (xXC G B pE2) args s mc2 ms2 (xA B)) (F0 m (pc + 3) ls rest)) : W p l e R s m args below meth c H locs cells slots (vx_MQ below Qc (xXC G B pE2) args s mc2 ms2 (xA B)) (F0 m pc ls st0) :=
  vx_callv hr hS (fun _ _ h => h) (fun _ h => h) (fun _ _ h => h) (fun E ce q9 u t H1 locs1 ht _ _ hB _ _ hS1 h1 h2 h3 => xx_out C hno h1 h2 h3 (by rw [← ht]; exact hB.2.1) hS1 (hprop E u hB.1) hcc hss)
    (fun u t H1 locs1 ht _ hp hB _ _ hS1 => kk u H1 locs1 hp (by rw [← ht]; exact hB.1) hS1)
theorem xx_cr {aa : Array Value} {post : Nat → xM → Prop} (C : xC p s m args meth c cc nL rt Ts own mn G B) (hno : ∀ x ∈ c.exceptionTable.toList, False) (hr : vx_Run p l e R s m args below meth c H locs cells slots mc ms (F0 m pc ls st0) rest (xQr G B post aa) (xXC G B pE) (xA B)) (hS : va_S (xA B) s.heap H locs) (hcc : cells + mc ≤ mc2) (hss : slots + ms ≤ ms2) (hprop : ∀ E u, pE E u → pE2 E u)
    (kk : ∀ (r : Nat) (u : xM) (H1 : Heap) (locs1 : List Loc), post r u → xW G B u H1 → va_S (xA B) s.heap H1 locs1 → W p l e R s m args below meth c H1 locs1 (cells + mc) (slots + ms) (vx_MQ below Qc (xXC G B pE2) args s mc2 ms2 (xA B)) (F0 m (pc + 3) ls (.ref r :: rest))) : W p l e R s m args below meth c H locs cells slots (vx_MQ below Qc (xXC G B pE2) args s mc2 ms2 (xA B)) (F0 m pc ls st0) := by
  intro T hT X
  rcases hr T hT X with ⟨v, st₀, t, T', L, h0, X', hL, e1, e2, ⟨⟨z, ra, hv, hp, hb⟩, hF⟩, st⟩ | ⟨q, st₀, t, T', L, E, ce, h0, X', hL, e1, e2, ⟨u, hp, hb, hF⟩, hce, hcv, hcl, st⟩
  · cases hv
    obtain ⟨k1, k2, k3⟩ := vx_keep h0 e1 hS (fun _ _ h => h) (fun _ h => h) hL hF
    obtain ⟨u, r⟩ := z
    obtain ⟨h1, h2, h3⟩ := hb
    dsimp only at h1 h2 hp
    subst h1
    obtain ⟨t2, a1, b1⟩ := kk r u T'.heap (locs ++ L) hp (by rw [e1]; exact h2) k3 T' rfl X'
    exact ⟨t2, st t2 a1, b1⟩
  · obtain ⟨k1, k2, k3⟩ := vx_keep h0 e1 hS (fun _ _ h => h) (fun _ h => h) hL hF
    obtain ⟨t2, a1, b1⟩ := xx_out (pc := pc) (ls := ls) (rest := rest) C hno (by rw [e1]; exact hce) hcv hcl (by rw [e1]; exact hb.2.1) k3 (hprop E u hb.1) hcc hss T' rfl X'
    exact ⟨t2, st.trans a1, b1⟩
/-- throw new E("text") -/
theorem xx_throw (C : xC p s m args meth c cc nL rt Ts RX4 mn G B) (hno : ∀ x ∈ c.exceptionTable.toList, False) (hl9 : l.stackTraces = false) (hz : xZ B s) (hw : xW G B u H) (hS : va_S (xA B) s.heap H locs) (hsize : ls.size = nL) {cls text : String} {ik is ic : Nat} (hE : cls ∈ xEs) (hfit : Bundle.fit cls = true) (hk : Cond.classLink RX4 ik cls ∈ Ts) (hini : Cond.initialized cls ∈ Ts) (hstr : (is, text) ∈ xTx)
    (hat : ∀ w ∈ (vx_atS RX4 ic cls eNm).filter goodWord, w ∈ Ts) (hbad : ∀ w ∈ (vx_atS RX4 ic cls eNm).filter (fun w => !goodWord w), w ∈ Cond.castable cls cls :: xDs.map Cond.declares) (hgood : ∀ w ∈ Cond.classLink RX4 ik cls :: Cond.initialized cls :: vx_atS RX4 ic cls eNm, vx_ot w = true)
    (d0 : decode cc pc = .ok (.new ik, 3)) (d3 : decode cc (pc + 3) = .ok (.dup, 1)) (d4 : decode cc (pc + 4) = .ok (.ldc is, 2)) (d6 : decode cc (pc + 6) = .ok (.invokespecial ic, 3)) (d9 : decode cc (pc + 9) = .ok (.athrow, 1))
    (hRframes : 5 < R.frames) (hRlocals : (rest.map fun v => v.category).sum + 82 ≤ R.locals) (hRcells : cells + 1 ≤ R.cells) (hRslots : slots + 6 ≤ R.slots) (hc : cells + 1 ≤ mc) (hs : slots + 6 ≤ ms) (hp : pE cls u) :
    W p l e R s m args below meth c H locs cells slots (vx_MQ below Qc (xXC G B pE) args s mc ms (xA B)) (F0 m pc ls rest) := by
  obtain ⟨hx, hb, hr, hml, hown, hts, hK, hB, hlk, hmn⟩ := C
  obtain ⟨z1, z2, z3, z4, z5, z6⟩ := hz
  obtain ⟨sa, hsa⟩ := z3 _ hstr
  have hB9 : ∀ w ∈ Cond.castable cls cls :: xDs.map Cond.declares, w.before args s = true := by
    intro w h
    rcases List.mem_cons.mp h with h | h
    · rw [h]; exact va_Nw.use rfl (z4 cls hE)
    · obtain ⟨y, hy, rfl⟩ := List.mem_map.mp h
      exact va_Nw.use rfl (z5 y hy)
  exact vx_throwS (own := RX4) (cls := cls) (names := eNm) hx hb hl9 hown hfit (by decide +kernel) (hts _ hk) (hts _ hini) hsa (vx_hat (fun w hw => hts w (hat w hw)) hbad hB9) hgood z1 z2 hS (hsize.trans hml.symm) d0 d3 d4 d6 d9 (fun x hx => absurd (hno x hx) id) hRframes hRlocals hRcells hRslots hlk
    (fun t ha hsz hk => ⟨u, trivial, ⟨hp, hw.grow hk, xK.moved ha hK⟩, Nat.le_trans hS.1 hsz, fun q h1 h2 => (hk q (Nat.lt_of_lt_of_le h1 hS.1)).trans (hS.2.1 q h1 h2)⟩) hS.2.2 hc hs
end XX
