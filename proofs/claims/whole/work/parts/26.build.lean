/-! ===== what the constructors build, step by step ===== -/
/-- N polynomials are made; the object h is under construction; wr: what else there is -/
def xBd (G : xG) (h : Nat) (w wr : xM) (pa ra cp : Nat → Nat) (ps : Nat → xP) (N : Nat) : Prop :=
  (∀ i, i < N → xPoly G w (pa i) (ra i) (cp i) (ps i)) ∧ (∀ i j, i < N → j < N → pa i = pa j → i = j) ∧ (∀ i j, i < N → j < N → ra i = ra j → i = j) ∧
  (∀ i, i < N → h ≠ pa i ∧ h ≠ ra i) ∧ ∀ (a : Nat) (e : va_E), wr a = some e → w a = some e ∧ a ≠ h ∧ ∀ i, i < N → a ≠ pa i ∧ a ≠ ra i
section XBD
variable {G : xG} {h : Nat} {w wr : xM} {pa ra cp : Nat → Nat} {ps : Nat → xP} {N : Nat}
theorem xBd.start (hr : ∀ (a : Nat) (e : va_E), wr a = some e → w a = some e ∧ a ≠ h) : xBd G h w wr pa ra cp ps 0 :=
  ⟨fun i hi => absurd hi (by omega), fun i j hi => absurd hi (by omega), fun i j hi => absurd hi (by omega), fun i hi => absurd hi (by omega), fun a e he => ⟨(hr a e he).1, (hr a e he).2, fun i hi => absurd hi (by omega)⟩⟩
theorem xBd.r (b : xBd G h w wr pa ra cp ps N) {a : Nat} {e : va_E} (he : wr a = some e) : w a = some e := (b.2.2.2.2 a e he).1
/-- the object's own cell is written -/
theorem xBd.put (b : xBd G h w wr pa ra cp ps N) (e : va_E) : xBd G h (xu w h e) wr pa ra cp ps N := by
  refine ⟨fun i hi => ?_, b.2.1, b.2.2.1, b.2.2.2.1, fun a f hf => ?_⟩
  · have q := b.1 i hi
    have z := b.2.2.2.1 i hi
    exact ⟨(xu_n _ _ (Ne.symm z.1)).trans q.1, (xu_n _ _ (Ne.symm z.2)).trans q.2.1, q.2.2⟩
  · have z := b.2.2.2.2 a f hf
    exact ⟨(xu_n _ _ z.2.1).trans z.1, z.2⟩
theorem xBd.put2 (b : xBd G h w wr pa ra cp ps N) (e : va_E) : xBd G h (xu w h e) wr pa ra cp ps N ∧ xu w h e h = some e := ⟨b.put e, xu_s _ _ _⟩
/-- another cell is made -/
theorem xBd.arr (b : xBd G h w wr pa ra cp ps N) {a : Nat} (ha : w a = none) (hh : a ≠ h) (e : va_E) : xBd G h (xu w a e) (xu wr a e) pa ra cp ps N := by
  refine ⟨fun i hi => (b.1 i hi).xu ha, b.2.1, b.2.2.1, b.2.2.2.1, fun q f hf => ?_⟩
  by_cases hq : q = a
  · subst hq
    rw [xu_s] at hf ⊢
    exact ⟨hf, hh, fun i hi => ⟨Ne.symm (x_nn (b.1 i hi).1 ha), Ne.symm (x_nn (b.1 i hi).2.1 ha)⟩⟩
  · rw [xu_n _ _ hq] at hf
    have z := b.2.2.2.2 q f hf
    exact ⟨(xu_n _ _ hq).trans z.1, z.2⟩
/-- another cell is written -/
theorem xBd.set (b : xBd G h w wr pa ra cp ps N) {a : Nat} {e0 : va_E} (ha : wr a = some e0) (e : va_E) : xBd G h (xu w a e) (xu wr a e) pa ra cp ps N := by
  have y := b.2.2.2.2 a e0 ha
  refine ⟨fun i hi => ?_, b.2.1, b.2.2.1, b.2.2.2.1, fun q f hf => ?_⟩
  · have q := b.1 i hi
    exact ⟨(xu_n _ _ (Ne.symm (y.2.2 i hi).1)).trans q.1, (xu_n _ _ (Ne.symm (y.2.2 i hi).2)).trans q.2.1, q.2.2⟩
  · by_cases hq : q = a
    · subst hq
      rw [xu_s] at hf ⊢
      exact ⟨hf, y.2⟩
    · rw [xu_n _ _ hq] at hf
      have z := b.2.2.2.2 q f hf
      exact ⟨(xu_n _ _ hq).trans z.1, z.2⟩
/-- a polynomial is made -/
theorem xBd.add (b : xBd G h w wr pa ra cp ps N) {p1 r1 n : Nat} {f : xP} (hp : w p1 = none) (hr : w r1 = none) (hne : r1 ≠ p1) {e : va_E} (hh : w h = some e) (hf : xsup f n) (hn : n ≤ 64) : xBd G h (xset G w p1 r1 n f) wr (va_up pa N p1) (va_up ra N r1) (va_up cp N n) (va_up ps N f) (N + 1) := by
  have old : ∀ i, i < N → pa i ≠ p1 ∧ pa i ≠ r1 ∧ ra i ≠ p1 ∧ ra i ≠ r1 := fun i hi => ⟨x_nn (b.1 i hi).1 hp, x_nn (b.1 i hi).1 hr, x_nn (b.1 i hi).2.1 hp, x_nn (b.1 i hi).2.1 hr⟩
  refine ⟨fun i hi => ?_, fun i j hi hj hij => ?_, fun i j hi hj hij => ?_, fun i hi => ?_, fun a f1 hf1 => ?_⟩
  · by_cases hN : i = N
    · subst hN; rw [va_up_self, va_up_self, va_up_self, va_up_self]; exact xset_s hne hf hn
    · rw [va_up_ne _ _ hN, va_up_ne _ _ hN, va_up_ne _ _ hN, va_up_ne _ _ hN]
      have o := old i (by omega)
      exact xset_n (b.1 i (by omega)) o.1 o.2.2.2 o.2.1 o.2.2.1
  · by_cases h1 : i = N <;> by_cases h2 : j = N
    · omega
    · rw [h1, va_up_self, va_up_ne _ _ h2] at hij; exact absurd hij.symm (old j (by omega)).1
    · rw [h2, va_up_self, va_up_ne _ _ h1] at hij; exact absurd hij (old i (by omega)).1
    · rw [va_up_ne _ _ h1, va_up_ne _ _ h2] at hij; exact b.2.1 i j (by omega) (by omega) hij
  · by_cases h1 : i = N <;> by_cases h2 : j = N
    · omega
    · rw [h1, va_up_self, va_up_ne _ _ h2] at hij; exact absurd hij.symm (old j (by omega)).2.2.2
    · rw [h2, va_up_self, va_up_ne _ _ h1] at hij; exact absurd hij (old i (by omega)).2.2.2
    · rw [va_up_ne _ _ h1, va_up_ne _ _ h2] at hij; exact b.2.2.1 i j (by omega) (by omega) hij
  · by_cases h1 : i = N
    · subst h1; rw [va_up_self, va_up_self]; exact ⟨x_nn hh hp, x_nn hh hr⟩
    · rw [va_up_ne _ _ h1, va_up_ne _ _ h1]; exact b.2.2.2.1 i (by omega)
  · have z := b.2.2.2.2 a f1 hf1
    have k1 := x_nn z.1 hp
    have k2 := x_nn z.1 hr
    refine ⟨(xset_o k1 k2).trans z.1, z.2.1, fun i hi => ?_⟩
    by_cases h1 : i = N
    · subst h1; rw [va_up_self, va_up_self]; exact ⟨k1, k2⟩
    · rw [va_up_ne _ _ h1, va_up_ne _ _ h1]; exact z.2.2 i (by omega)
/-- a polynomial is set -/
theorem xBd.poly (b : xBd G h w wr pa ra cp ps N) {i n : Nat} (hi : i < N) (hn : cp i = n) {f : xP} (hf : xsup f n) : xBd G h (xset G w (pa i) (ra i) n f) wr pa ra cp (va_up ps i f) N := by
  subst hn
  have hp := b.1 i hi
  refine ⟨fun j hj => ?_, b.2.1, b.2.2.1, b.2.2.2.1, fun a f1 hf1 => ?_⟩
  · by_cases hij : j = i
    · subst hij; rw [va_up_self]; exact xset_s hp.ne hf hp.2.2.2
    · rw [va_up_ne _ _ hij]
      have hq := b.1 j hj
      exact xset_n hq (fun z => hij (b.2.1 j i hj hi z)) (fun z => hij (b.2.2.1 j i hj hi z)) (Ne.symm (hp.ne2 hq).1) (hp.ne2 hq).2
  · have z := b.2.2.2.2 a f1 hf1
    exact ⟨(xset_o (z.2.2 i hi).1 (z.2.2 i hi).2).trans z.1, z.2⟩
theorem xBd.abs {B : Nat} {H : Heap} (b : xBd G h w wr pa ra cp ps N) {e : va_E} (hh : w h = some e) (hw : xW G B w H) : ∃ w9 : xM, xBd G h w9 wr pa ra cp ps N ∧ w9 h = some e ∧ xW G B w9 H := ⟨w, b, hh, hw⟩
end XBD
/-! the array classes of the class's own classes are known from the start -/
abbrev xAO (U : State) : Prop := va_AO RX1 U ∧ va_AO RX3 U
abbrev xBq (G : xG) (B : Nat) (w : xM) (U : State) : Prop := xB G B w U ∧ xAO U
theorem x_blindq {As : List Value} {G : xG} {B : Nat} {w : xM} : FrameBlind (va_Pc As (xBq G B w)) := fun a U g mk q => by
  obtain ⟨q0, ⟨q1, q2, q3⟩, q4, q5⟩ := q
  exact ⟨q0, ⟨q1, q2, xK.moved (u := U) (U := U.calling g mk a) (Vm.Alike.refl U.vm) q3⟩, va_AO.moved (u := U) (U := U.calling g mk a) (Vm.Alike.refl U.vm) q4, va_AO.moved (u := U) (U := U.calling g mk a) (Vm.Alike.refl U.vm) q5⟩
section XQ
variable {p : Program} {l : Launch} {e : Env} {R : Room} {s : State} {m : MethodId} {args : Array Value} {below : List Frame} {meth : Method} {c : Code} {H : Heap} {locs : List Loc} {cells slots : Nat} {Q : State → Prop}
variable {cc : ByteArray} {nL pc : Nat} {rt : Option FieldType} {Ts : List Cond} {own mn : String} {G : xG} {B : Nat} {w u : xM} {ls : Array Slot} {rest st0 : List Value} {a : Nat} {mc ms : Nat}
theorem xq_start {y : MethodName} {ws' : List Cond} {rm : Room} {As : List Value} {Qc : Array Value → State → Outcome → State → Prop} (hy : plainName y.cls = true) (hcls : y.cls = own) (hnm : y.name = mn) (hw : Ts = Cond.code y cc nL rt :: ws') (hn : (lg_sl As).length ≤ nL)
    (body : ∀ (p : Program) (e : Env) (s : State) (m : MethodId) (below : List Frame) (meth : Method) (c : Code) (ls : Array Slot), xC p s m As.toArray meth c cc nL rt Ts own mn G B → lv_has ls nL (lv_args 0 As) → xW G B w s.heap → va_S (xA B) s.heap s.heap [] → xAO s →
      W p l e rm s m As.toArray below meth c s.heap [] 0 0 (MQ below Qc As.toArray s mc ms (xA B)) (F0 m 0 ls [])) : Met l y Ts rm (va_Pc As (xBq G B w)) Qc mc ms (xA B) := by
  refine Met.ofW (cc := cc) (maxL := nL) (ret := rt) hy hw ?_
  intro p e s m args below meth c s₁ Bd hml hv
  obtain ⟨rfl, ⟨hB, hW, hK⟩, hao⟩ := hv
  have hl := lv_entry As (n := nL) hn
  rw [lg_entry_eq]
  subst hcls
  subst hnm
  exact body p e s m below meth c _ ⟨Bd.exec, Bd.bytes, Bd.returns, hml, findClass_of_methodNamed Bd.named, atoms_spec (ws := Ts) Bd.pre, hK, hB, Bd.notSynchronized, (name_of_methodNamed Bd.named Bd.method).1⟩ hl hW va_S.rf hao
theorem xq_newq (C : xC p s m args meth c cc nL rt Ts own mn G B) (hw : xW G B w H) (hS : va_S (xA B) s.heap H locs) (t0 : Nat) {cT : ClassId} {Cn : String} {index : Nat} (hclink : Cond.classLink own index Cn ∈ Ts) (hover : va_AO Cn s) (ht : (xTys G)[t0]? = some (cT, .object Cn))
    {n : Int32} {N' : Nat} (hn : ¬ n < 0) (hN : n.toNatClampNeg = N') (hbytes : N' * 4 ≤ 536870912) (hcells : cells + 1 ≤ R.cells) (hslots : slots + N' ≤ R.slots) (hdg : decode cc pc = .ok (.anewarray index, 3))
    (kk : ∀ (q : Nat) (H1 : Heap), w q = none → xW G B (xu w q (.inl (cT, N', .inr (.inr (.inr (.inr (fun _ => none))))))) H1 → va_S (xA B) s.heap H1 locs → W p l e R s m args below meth c H1 locs (cells + 1) (slots + N') Q (F0 m (pc + 3) ls (.ref q :: rest))) : W p l e R s m args below meth c H locs cells slots Q (F0 m pc ls (.int n :: rest)) := by
  obtain ⟨hx, hb, hr, hml, hown, hts, hK, hB, hlk, hmn⟩ := C
  subst hN
  refine W.anew hx hb hown (hts _ hclink) (va_AO.use hover) rfl hdg rfl hn hbytes hcells hslots fun cA kA comp f1 f2 f3 f4 => ?_
  generalize hH1 : H.push ({ cls := cA, slots := Array.replicate n.toNatClampNeg .null, vm := .none } : Cell) = H1
  have z1 : H1.size = H.size + 1 := by rw [← hH1, Array.size_push]
  have e1 : H1[H.size]? = some (arrV cA n.toNatClampNeg (fun _ => .null)) := by rw [← hH1, Array.getElem?_push_size, ← arrV_new]
  have o1 : ∀ q : Nat, q < H.size → H1[q]? = H[q]? := fun q hq => by rw [← hH1, Array.getElem?_push, if_neg (Nat.ne_of_lt hq)]
  obtain ⟨kT, cpT, j1, j2, j3, j4⟩ := (hK.2 t0 _ ht).2
  have hcA : cA = cT := Option.some.inj (f1.symm.trans j4)
  subst hcA
  obtain ⟨h1, h2⟩ := hw.push (H1 := H1) (e := .inl (cA, n.toNatClampNeg, .inr (.inr (.inr (.inr (fun _ => none)))))) (Nat.le_trans hB hS.1) (by show H1[H.size]? = some (vp_cell _ _); rw [vp_cell_q]; exact e1) o1
  exact kk H.size H1 h1 h2 ⟨Nat.le_trans hS.1 (by omega), fun x h1 h2 => (o1 x (Nat.lt_of_lt_of_le h1 hS.1)).trans (hS.2.1 x h1 h2), hS.2.2⟩
theorem xq_I {y : MethodName} {bytes : ByteArray} {maxL n index : Nat} {ws ws' : List Cond} {rm : Room} {b : Nat} {As : List Value} {Qc : Array Value → State → Outcome → State → Prop} (C : xC p s m args meth c cc nL rt Ts own mn G B) (hw : xW G B w H) (hao : xAO s)
    (hM : Met l y ws rm (va_Pc (.ref b :: As) (xBq G B w)) Qc mc ms (xA B)) (hG : GoodIn Ts ws) (hws : ws = Cond.code y bytes maxL none :: ws') (hrc : rm.cells = mc) (hrs : rm.slots = ms) (hini : Cond.initialized y.cls ∈ Ts) (hlk : Cond.methodLink own index y ∈ Ts) (hinm : Cond.instanceMethod y ∈ Ts) (hnm : y.name = "<init>")
    (hd : y.cls ≠ "java/lang/invoke/MethodHandle" ∧ y.cls ≠ "java/lang/invoke/VarHandle" ∧ (parseMethodDescriptor y.desc).map (fun d => d.parameters.length) = some n) (hR : rm.frames + 1 ≤ R.frames ∧ 8 + (maxL + 11) + rm.locals ≤ R.locals)
    (hn : As.length = n) (hl : ls.size = nL) (hst : st0 = As.reverse ++ .ref b :: rest) (hrm : (rest.map fun v => v.category).sum ≤ 8) (hdg : decode cc pc = .ok (.invokespecial index, 3)) (hf : cells + mc ≤ R.cells ∧ slots + ms ≤ R.slots) (hS : va_S (xA B) s.heap H locs) :
    va_Run p l e R s m args below meth c H locs cells slots mc ms (F0 m pc ls st0) rest (Qc (Value.ref b :: As).toArray) (xA B) := by
  obtain ⟨hx, hb, hr, hml, hown, hts, hK, hB, hlk2, hmn⟩ := C
  exact va_runI ⟨hx, hb, hml, hown, hts⟩ hM (cwI n hts hG hws hrc hrs (hts _ hini) (hts _ hlk) (hts _ hinm) hnm hd hR) ⟨x_blindq, fun U hU hW => ⟨rfl, ⟨by rw [hU]; exact Nat.le_trans hB hS.1, by rw [hU]; exact hw, xK.moved hW.alike hK⟩, va_AO.moved hW.alike hao.1, va_AO.moved hW.alike hao.2⟩⟩ rfl hn hl hst (lv_room hrm) hdg hf
end XQ
theorem xz_i (n : Nat) : ∀ cA : ClassId, vp_cell cA (n, .inl (fun _ => 0)) = arrV cA n (fun _ => defaultValue (newarray.typeOf .int)) := fun _ => rfl
theorem xz_z (n : Nat) : ∀ cA : ClassId, vp_cell cA (n, .inl (fun _ => 0)) = arrV cA n (fun _ => defaultValue (newarray.typeOf .boolean)) := fun _ => rfl
theorem xz_l (n : Nat) : ∀ cA : ClassId, vp_cell cA (n, .inr (.inl (fun _ => 0))) = arrV cA n (fun _ => defaultValue (newarray.typeOf .long)) := fun _ => rfl
/-- the whole object, as its constructor leaves it -/
theorem xCL.make {G : xG} {h fa he qa ea ta : Nat} {wr wr1 w9 u wr9 : xM} {pa1 ra1 cp1 pa2 ra2 cp2 : Nat → Nat} {ps1 ps2 : Nat → xP} {cf : Nat → Option Nat} {e0 : List Value} {eh : va_E}
    (b1 : xBd G h w9 wr1 pa1 ra1 cp1 ps1 7) (hh : w9 h = some eh) (hfa : wr1 fa = some (.inl (G.2 4, 50, xq (fun _ => none)))) (hhe : wr1 he = some (.inr (0, e0))) (hwr : ∀ a e, wr a = some e → wr1 a = some e ∧ a ≠ he ∧ a ≠ fa)
    (h9 : ∀ a e, w9 a = some e → a ≠ he → wr9 a = some e)
    (b2 : xBd G he u (xu (xu (xu wr9 qa (.inl (G.2 3, 9, xq cf))) ea (.inl (G.2 0, 9, .inl (fun _ => 0)))) ta (.inl (G.2 2, 64, .inl (fun _ => 0)))) pa2 ra2 cp2 ps2 14) (hcf : ∀ k, k < 9 → cf k = some (pa2 k)) (hcp : ∀ k, k < 14 → cp2 k = 64 ∧ ps2 k = fun _ => 0) (hqa : w9 qa = none) (hea : w9 ea = none) (hta : w9 ta = none)
    (hno : ∀ k, k < 14 → w9 (pa2 k) = none ∧ w9 (ra2 k) = none) (hu : u he = some (.inr (0, [.ref qa, .ref (pa2 9), .ref (pa2 10), .ref (pa2 11), .ref (pa2 12), .ref (pa2 13), .ref ea, .ref ta])))
    (hc1 : cp1 0 = 4 ∧ cp1 1 = 4 ∧ ∀ i, 2 ≤ i → i < 7 → cp1 i = 64) (d1 : qa ≠ ea) (d2 : qa ≠ ta) (d3 : ea ≠ ta) :
    ∃ (pa ra cp fr ad : Nat → Nat) (ps : Nat → xP) (eo : Nat → Option Nat) (tb : Nat → Bool), ad 0 = h ∧ ps 0 = ps1 0 ∧ ps 1 = ps1 1 ∧
      xCL G (xu u h (.inr (3, [.ref (pa1 0), .ref (pa1 1), .ref fa, .int 0, .ref (pa1 2), .ref (pa1 3), .ref (pa1 4), .ref (pa1 5), .ref (pa1 6), .ref he]))) pa ra cp fr ad 0 ps eo tb wr := by
  have c1 : ∀ a e, w9 a = some e → a ≠ he → u a = some e := fun a e ha hne => b2.r (by
    rw [xu_n _ _ (x_nn ha hta), xu_n _ _ (x_nn ha hea), xu_n _ _ (x_nn ha hqa)]; exact h9 a e ha hne)
  have z1 := b1.2.2.2.2 he _ hhe
  have zf := b1.2.2.2.2 fa _ hfa
  have hfe : fa ≠ he := x_ne hfa hhe (fun z => by simp at z)
  have hn2 : ∀ k, k < 14 → pa2 k ≠ h ∧ ra2 k ≠ h := fun k hk => ⟨Ne.symm (x_nn hh (hno k hk).1), Ne.symm (x_nn hh (hno k hk).2)⟩
  have p1 : ∀ i, i < 7 → xPoly G (xu u h (.inr (3, [.ref (pa1 0), .ref (pa1 1), .ref fa, .int 0, .ref (pa1 2), .ref (pa1 3), .ref (pa1 4), .ref (pa1 5), .ref (pa1 6), .ref he]))) (pa1 i) (ra1 i) (cp1 i) (ps1 i) := fun i hi => by
    have q := b1.1 i hi
    have y := b1.2.2.2.1 i hi
    exact ⟨(xu_n _ _ (Ne.symm y.1)).trans (c1 _ _ q.1 (Ne.symm (z1.2.2 i hi).1)), (xu_n _ _ (Ne.symm y.2)).trans (c1 _ _ q.2.1 (Ne.symm (z1.2.2 i hi).2)), q.2.2⟩
  have p2 : ∀ i, i < 14 → xPoly G (xu u h (.inr (3, [.ref (pa1 0), .ref (pa1 1), .ref fa, .int 0, .ref (pa1 2), .ref (pa1 3), .ref (pa1 4), .ref (pa1 5), .ref (pa1 6), .ref he]))) (pa2 i) (ra2 i) (cp2 i) (ps2 i) := fun i hi => by
    have q := b2.1 i hi
    exact ⟨(xu_n _ _ (hn2 i hi).1).trans q.1, (xu_n _ _ (hn2 i hi).2).trans q.2.1, q.2.2⟩
  have cr : ∀ i j, i < 7 → j < 14 → pa1 i ≠ pa2 j ∧ ra1 i ≠ ra2 j := fun i j hi hj => ⟨x_nn (b1.1 i hi).1 (hno j hj).1, x_nn (b1.1 i hi).2.1 (hno j hj).2⟩
  have uq : u qa = some (.inl (G.2 3, 9, xq cf)) := b2.r (by rw [xu_n _ _ d2, xu_n _ _ d1, xu_s])
  have ue : u ea = some (.inl (G.2 0, 9, .inl (fun _ => 0))) := b2.r (by rw [xu_n _ _ d3, xu_s])
  have ut : u ta = some (.inl (G.2 2, 64, .inl (fun _ => 0))) := b2.r (xu_s _ _ _)
  have we := b2.2.2.2.2 ea _ (by rw [xu_n _ _ d3, xu_s])
  have wt := b2.2.2.2.2 ta _ (xu_s _ _ _)
  refine ⟨fun i => if i < 7 then pa1 i else pa2 (i - 7), fun i => if i < 7 then ra1 i else ra2 (i - 7), fun i => if i < 7 then cp1 i else cp2 (i - 7), fun _ => 0, fun i => match i with | 0 => h | 1 => fa | 2 => he | 3 => qa | 4 => ea | _ => ta, fun i => if i < 7 then ps1 i else ps2 (i - 7), fun _ => some 0, fun _ => false, rfl, rfl, rfl, ⟨⟨fun i hi => ?_, fun i j hi hj hij => ?_, fun i j hi hj hij => ?_⟩, ⟨?_, ⟨fun _ => none, ?_, fun k hk => absurd hk (by omega), fun _ _ _ => rfl⟩, fun k hk => absurd hk (by omega), ?_, ⟨cf, ?_, fun k hk => ?_⟩, ?_, ?_⟩, ⟨fun i hi => ?_, d3, fun a e hae => ?_⟩, ⟨hc1.1, hc1.2.1, fun i h1 h2 => ?_⟩, by omega⟩⟩
  · dsimp only
    by_cases h7 : i < 7
    · rw [if_pos h7, if_pos h7, if_pos h7, if_pos h7]; exact p1 i h7
    · rw [if_neg h7, if_neg h7, if_neg h7, if_neg h7]; exact p2 (i - 7) (by omega)
  · dsimp only at hij
    by_cases h7 : i < 7 <;> by_cases j7 : j < 7
    · rw [if_pos h7, if_pos j7] at hij; exact b1.2.1 i j h7 j7 hij
    · rw [if_pos h7, if_neg j7] at hij; exact absurd hij (cr i (j - 7) h7 (by omega)).1
    · rw [if_neg h7, if_pos j7] at hij; exact absurd hij.symm (cr j (i - 7) j7 (by omega)).1
    · rw [if_neg h7, if_neg j7] at hij; have := b2.2.1 (i - 7) (j - 7) (by omega) (by omega) hij; omega
  · dsimp only at hij
    by_cases h7 : i < 7 <;> by_cases j7 : j < 7
    · rw [if_pos h7, if_pos j7] at hij; exact b1.2.2.1 i j h7 j7 hij
    · rw [if_pos h7, if_neg j7] at hij; exact absurd hij (cr i (j - 7) h7 (by omega)).2
    · rw [if_neg h7, if_pos j7] at hij; exact absurd hij.symm (cr j (i - 7) j7 (by omega)).2
    · rw [if_neg h7, if_neg j7] at hij; have := b2.2.2.1 (i - 7) (j - 7) (by omega) (by omega) hij; omega
  · exact xu_s _ _ _
  · exact (xu_n _ _ zf.2.1).trans (c1 _ _ zf.1 hfe)
  · exact (xu_n _ _ z1.2.1).trans hu
  · exact (xu_n _ _ (Ne.symm (x_nn hh hqa))).trans uq
  · dsimp only; rw [if_neg (by omega), show 7 + k - 7 = k by omega]; exact hcf k hk
  · exact (xu_n _ _ (Ne.symm (x_nn hh hea))).trans (ue.trans (by congr 4))
  · exact (xu_n _ _ (Ne.symm (x_nn hh hta))).trans (ut.trans (by congr 4))
  · dsimp only
    by_cases h7 : i < 7
    · rw [if_pos h7]; exact ⟨x_nn (b1.1 i h7).2.1 hea, x_nn (b1.1 i h7).2.1 hta⟩
    · rw [if_neg h7]; exact ⟨Ne.symm (we.2.2 (i - 7) (by omega)).2, Ne.symm (wt.2.2 (i - 7) (by omega)).2⟩
  · obtain ⟨y1, y2, y3⟩ := hwr a e hae
    obtain ⟨y4, y5, y6⟩ := b1.2.2.2.2 a e y1
    refine ⟨(xu_n _ _ y5).trans (c1 a e y4 y2), y5, y3, x_nn y4 hea, x_nn y4 hta, fun i hi => ?_⟩
    dsimp only
    by_cases h7 : i < 7
    · rw [if_pos h7, if_pos h7]; exact y6 i h7
    · rw [if_neg h7, if_neg h7]; exact ⟨x_nn y4 (hno (i - 7) (by omega)).1, x_nn y4 (hno (i - 7) (by omega)).2⟩
  · dsimp only
    by_cases h7 : i < 7
    · rw [if_pos h7]; exact hc1.2.2 i h1 h7
    · rw [if_neg h7]; exact (hcp (i - 7) (by omega)).1
def xwo (w : xM) (h : Nat) : xM := fun a => if a = h then none else w a
theorem xwo_1 {w : xM} {h : Nat} : ∀ (a : Nat) (e : va_E), xwo w h a = some e → w a = some e ∧ a ≠ h := fun a e hae => by
  unfold xwo at hae
  by_cases hah : a = h
  · rw [if_pos hah] at hae; cases hae
  · rw [if_neg hah] at hae; exact ⟨hae, hah⟩
theorem xwo_2 {w : xM} {h : Nat} : ∀ (a : Nat) (e : va_E), w a = some e → a ≠ h → xwo w h a = some e := fun a e hae hah => by unfold xwo; rw [if_neg hah]; exact hae
