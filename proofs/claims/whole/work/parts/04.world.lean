/-! ===== THE WORLDS OF THIS PROOF: a map from addresses to cells; every contract speaks of the whole map, so that no frame rule is wanted ===== -/
/-- the classes' numbers and slots, and the array classes: 0 int, 1 long, 2 boolean, 3 Polynomial, 4 Fraction -/
abbrev xG : Type := va_G × (Nat → ClassId)
abbrev xTys (G : xG) : List (ClassId × FieldType) := [(G.2 0, .int), (G.2 1, .long), (G.2 2, .boolean), (G.2 3, .object RX3), (G.2 4, .object RX1)]
def xK (G : xG) (U : State) : Prop := va_K G.1 vwCl (xTys G) U
theorem xK.moved {G : xG} {u U : State} (hvm : u.vm.Alike U.vm) (h : xK G u) : xK G U := va_K.moved hvm h
abbrev xM : Type := Nat → Option va_E
def xW (G : xG) (B : Nat) (w : xM) (H : Heap) : Prop := ∀ (a : Nat) (e : va_E), w a = some e → B ≤ a ∧ va_at G.1 vwCl (a, e) H
def xu (w : xM) (a : Nat) (e : va_E) : xM := fun q => if q = a then some e else w q
theorem xu_s (w : xM) (a : Nat) (e : va_E) : xu w a e a = some e := by simp [xu]
theorem xu_n (w : xM) {a b : Nat} (e : va_E) (h : b ≠ a) : xu w a e b = w b := by simp [xu, h]
theorem xu_u (w : xM) (a : Nat) (e f : va_E) : xu (xu w a e) a f = xu w a f := by
  funext q; by_cases h : q = a <;> simp [xu, h]
theorem xu_c (w : xM) {a b : Nat} (e f : va_E) (h : a ≠ b) : xu (xu w a e) b f = xu (xu w b f) a e := by
  funext q
  by_cases h1 : q = a
  · subst h1; simp [xu, h]
  · by_cases h2 : q = b
    · subst h2; simp [xu, h1]
    · simp [xu, h1, h2]
theorem xu_id (w : xM) {a : Nat} {e : va_E} (h : w a = some e) : xu w a e = w := by
  funext q; by_cases h1 : q = a
  · subst h1; simp [xu, h]
  · simp [xu, h1]
theorem xW.one {G : xG} {B : Nat} {w : xM} {H : Heap} {a : Nat} {e : va_E} (h : xW G B w H) (he : w a = some e) : va_P G.1 vwCl [(a, e)] H := fun k q hk => by
  match k, hk with
  | 0, hk => cases hk; exact (h a e he).2
  | k + 1, hk => simp at hk
theorem xW.set {G : xG} {B : Nat} {w : xM} {H H1 : Heap} {a : Nat} {e0 e : va_E} (h : xW G B w H) (ha : w a = some e0) (he : va_at G.1 vwCl (a, e) H1) (oq : ∀ q : Nat, q ≠ a → H1[q]? = H[q]?) : xW G B (xu w a e) H1 := by
  intro q f hq
  by_cases hqa : q = a
  · subst hqa; rw [xu_s] at hq; cases hq; exact ⟨(h q e0 ha).1, he⟩
  · rw [xu_n _ _ hqa] at hq
    exact ⟨(h q f hq).1, (h q f hq).2.kept (oq q hqa)⟩
theorem xW.push {G : xG} {B : Nat} {w : xM} {H H1 : Heap} {e : va_E} (h : xW G B w H) (hB : B ≤ H.size) (he : va_at G.1 vwCl (H.size, e) H1) (oq : ∀ q : Nat, q < H.size → H1[q]? = H[q]?) : w H.size = none ∧ xW G B (xu w H.size e) H1 := by
  have hn : w H.size = none := by
    cases hw : w H.size with
    | none => rfl
    | some f => exact absurd (h _ f hw).2.lt (Nat.lt_irrefl _)
  refine ⟨hn, fun q f hq => ?_⟩
  by_cases hqa : q = H.size
  · subst hqa; rw [xu_s] at hq; cases hq; exact ⟨hB, he⟩
  · rw [xu_n _ _ hqa] at hq
    exact ⟨(h q f hq).1, (h q f hq).2.kept (oq q (h q f hq).2.lt)⟩
theorem x_ne {w : xM} {a b : Nat} {e f : va_E} (ha : w a = some e) (hb : w b = some f) (h : e ≠ f) : a ≠ b := fun q => by
  subst q; rw [ha] at hb; exact h (Option.some.inj hb)
abbrev xA (B : Nat) : Nat → Prop := fun q => B ≤ q
abbrev xB (G : xG) (B : Nat) (w : xM) (U : State) : Prop := B ≤ U.heap.size ∧ xW G B w U.heap ∧ xK G U
abbrev xE (G : xG) (B : Nat) (u : xM) (t : State) : Prop := xW G B u t.heap ∧ xK G t
theorem x_blind {As : List Value} {G : xG} {B : Nat} {w : xM} : FrameBlind (va_Pc As (xB G B w)) := fun a U g mk q => by
  obtain ⟨q0, q1, q2, q3⟩ := q
  exact ⟨q0, q1, q2, xK.moved (u := U) (U := U.calling g mk a) (Vm.Alike.refl U.vm) q3⟩
/-- what a body knows of its call: the machine, its code, its words, the tables -/
def xC (p : Program) (s : State) (m : MethodId) (args : Array Value) (meth : Method) (c : Code) (cc : ByteArray) (nL : Nat) (rt : Option FieldType) (Ts : List Cond) (own mn : String) (G : xG) (B : Nat) : Prop :=
  p.tables.exec = Jvm.exec ∧ c.code = cc ∧ meth.sig.returnType = rt ∧ c.maxLocals = nL ∧ s.vm.findClass own = some m.cls ∧ (∀ w ∈ Ts, w.before args s = true) ∧ xK G s ∧ B ≤ s.heap.size ∧ meth.locks = false ∧ meth.name = mn
section XW
variable {p : Program} {l : Launch} {e : Env} {R : Room} {s : State} {m : MethodId} {args : Array Value} {below : List Frame} {meth : Method} {c : Code} {H : Heap} {locs : List Loc} {cells slots : Nat} {Q : State → Prop}
variable {cc : ByteArray} {nL pc : Nat} {rt : Option FieldType} {Ts : List Cond} {own mn : String} {G : xG} {B : Nat} {w u : xM} {ls : Array Slot} {rest st0 : List Value} {a : Nat} {mc ms : Nat}
theorem xw_start {y : MethodName} {ws' : List Cond} {rm : Room} {As : List Value} {Qc : Array Value → State → Outcome → State → Prop} (hy : plainName y.cls = true) (hcls : y.cls = own) (hnm : y.name = mn) (hw : Ts = Cond.code y cc nL rt :: ws') (hn : (lg_sl As).length ≤ nL)
    (body : ∀ (p : Program) (e : Env) (s : State) (m : MethodId) (below : List Frame) (meth : Method) (c : Code) (ls : Array Slot), xC p s m As.toArray meth c cc nL rt Ts own mn G B → lv_has ls nL (lv_args 0 As) → xW G B w s.heap → va_S (xA B) s.heap s.heap [] →
      W p l e rm s m As.toArray below meth c s.heap [] 0 0 (MQ below Qc As.toArray s mc ms (xA B)) (F0 m 0 ls [])) : Met l y Ts rm (va_Pc As (xB G B w)) Qc mc ms (xA B) := by
  refine Met.ofW (cc := cc) (maxL := nL) (ret := rt) hy hw ?_
  intro p e s m args below meth c s₁ Bd hml hv
  obtain ⟨rfl, hB, hW, hK⟩ := hv
  have hl := lv_entry As (n := nL) hn
  rw [lg_entry_eq]
  subst hcls
  subst hnm
  exact body p e s m below meth c _ ⟨Bd.exec, Bd.bytes, Bd.returns, hml, findClass_of_methodNamed Bd.named, atoms_spec (ws := Ts) Bd.pre, hK, hB, Bd.notSynchronized, (name_of_methodNamed Bd.named Bd.method).1⟩ hl hW va_S.rf
theorem xw_get (C : xC p s m args meth c cc nL rt Ts own mn G B) (hw : xW G B w H) {ci : Nat} {fs : List Value} (he : w a = some (.inr (ci, fs))) {Cn : String} {T : u_T} {N index : Nat} (hc : vwCl[ci]? = some (Cn, T, N)) (hin : ∀ w ∈ u_ws Cn T N, w ∈ Ts) (k : Nat) (hk : k < N) (hlink : Cond.fieldLink own index (T k).1 (T k).2.1 (T k).2.2.1 ∈ Ts) {v : Value} (hv : fs[k]? = some v) (hdg : decode cc pc = .ok (.getfield index, 3))
    (kk : W p l e R s m args below meth c H locs cells slots Q (F0 m (pc + 3) ls (v :: rest))) : W p l e R s m args below meth c H locs cells slots Q (F0 m pc ls (.ref a :: rest)) := by
  obtain ⟨hx, hb, hr, hml, hown, hts, hK, hB, hlk, hmn⟩ := C
  exact va_get (D := G.1) (ci := ci) (ref := (T k).1) hx hb hts hin hown hK (hw.one he) 0 rfl hc k hk (hts _ hlink) (fun _ h => h) hv hdg kk
theorem xw_put (C : xC p s m args meth c cc nL rt Ts own mn G B) (hw : xW G B w H) (hS0 : va_S (xA B) s.heap H locs) {ci : Nat} {fs : List Value} (he : w a = some (.inr (ci, fs))) {Cn : String} {T : u_T} {N index : Nat} (hc : vwCl[ci]? = some (Cn, T, N)) (hin : ∀ w ∈ u_ws Cn T N, w ∈ Ts) (ty0 : Nat → FieldType) (hty : ∀ k, k < N → parseFieldDescriptor (T k).2.2.1 = some (ty0 k)) (hnm : ∀ a, a < N → ∀ b, b < N → a ≠ b → (T a).2.1 ≠ (T b).2.1) (k : Nat) (hk : k < N) (hlink : Cond.fieldLink own index (T k).1 (T k).2.1 (T k).2.2.1 ∈ Ts) (hfin : (T k).2.2.2 = false) {ty : FieldType} {v : Value} (hd : parseFieldDescriptor (T k).2.2.1 = some ty) (hn : narrow ty v = v) (hfit : fits ty v = true) (hl : k < fs.length)
    (hdg : decode cc pc = .ok (.putfield index, 3)) (kk : ∀ (H1 : Heap) (locs1 : List Loc), xW G B (xu w a (.inr (ci, fs.set k v))) H1 → va_S (xA B) s.heap H1 locs1 → W p l e R s m args below meth c H1 locs1 cells slots Q (F0 m (pc + 3) ls rest)) : W p l e R s m args below meth c H locs cells slots Q (F0 m pc ls (v :: .ref a :: rest)) := by
  obtain ⟨hx, hb, hr, hml, hown, hts, hK, hB, hlk, hmn⟩ := C
  have hap := va_apart (own := own) hts hin ty0 hty hnm hK hc
  obtain ⟨r, h1, cell, q1, q2, q3, q4⟩ := (hw a _ he).2
  have hr : r = (Cn, T, N) := Option.some.inj (h1.symm.trans hc)
  subst hr
  obtain ⟨hS, hfc, kC, hkC, hkind⟩ := hK.1 ci _ hc
  obtain ⟨cf, kf, fi, f, hi, hsl⟩ := hS k hk
  have hlay := hts _ (hin _ (u_in_lay hk))
  unfold u_lay at hlay
  rw [if_neg (by rw [hfin]; decide)] at hlay
  have hst := (u_facts hfc hkC (u_lays hts hin hk) hi).1
  have h6 := u_store hfc hkC hkind hlay hi hd hn hfit
  refine W.putK hx hb (f := f) ⟨hown, hts _ hlink, ⟨_, _, _, hi⟩, hst⟩ (by rw [q2]; exact h6) q1 q3 (by rw [hsl]; exact k2_hasslot (q4 k hk)) rfl rfl hdg fun H' e1 e2 e3 => ?_
  rw [hsl] at e1 ⊢
  exact kk H' _ (hw.set he ⟨_, hc, t_OB.to (V := updV (vp_V fs) k v) ⟨_, e1, q2, q3, t_set q4 hap hk v⟩ (fun j _ => vp_updV_set hl v j)⟩ e3) (hS0.put e2 e3 (hw a _ he).1)
theorem xw_putF (C : xC p s m args meth c cc nL rt Ts own mn G B) (hw : xW G B w H) (hS0 : va_S (xA B) s.heap H locs) {ci : Nat} {fs : List Value} (he : w a = some (.inr (ci, fs))) {Cn : String} {T : u_T} {N index : Nat} (hc : vwCl[ci]? = some (Cn, T, N)) (hin : ∀ w ∈ u_ws Cn T N, w ∈ Ts) (ty0 : Nat → FieldType) (hty : ∀ k, k < N → parseFieldDescriptor (T k).2.2.1 = some (ty0 k)) (hnm : ∀ a, a < N → ∀ b, b < N → a ≠ b → (T a).2.1 ≠ (T b).2.1) (k : Nat) (hk : k < N) (hlink : Cond.fieldLink own index (T k).1 (T k).2.1 (T k).2.2.1 ∈ Ts) (hfin : (T k).2.2.2 = true) (hmn : mn = "<init>") (hdecl : (T k).1 = own) {ty : FieldType} {v : Value} (hd : parseFieldDescriptor (T k).2.2.1 = some ty) (hn : narrow ty v = v) (hfit : fits ty v = true) (hl : k < fs.length)
    (hdg : decode cc pc = .ok (.putfield index, 3)) (kk : ∀ (H1 : Heap) (locs1 : List Loc), xW G B (xu w a (.inr (ci, fs.set k v))) H1 → va_S (xA B) s.heap H1 locs1 → W p l e R s m args below meth c H1 locs1 cells slots Q (F0 m (pc + 3) ls rest)) : W p l e R s m args below meth c H locs cells slots Q (F0 m pc ls (v :: .ref a :: rest)) := by
  obtain ⟨hx, hb, hr, hml, hown, hts, hK, hB, hlk, hmn'⟩ := C
  have hap := va_apart (own := own) hts hin ty0 hty hnm hK hc
  obtain ⟨r, h1, cell, q1, q2, q3, q4⟩ := (hw a _ he).2
  have hr : r = (Cn, T, N) := Option.some.inj (h1.symm.trans hc)
  subst hr
  obtain ⟨hS, hfc, kC, hkC, hkind⟩ := hK.1 ci _ hc
  obtain ⟨cf, kf, fi, f, hi, hsl⟩ := hS k hk
  have hlay := hts _ (hin _ (u_in_lay hk))
  unfold u_lay at hlay
  rw [if_pos hfin] at hlay
  have hst := (u_facts hfc hkC (u_lays hts hin hk) hi).1
  have hcf : m.cls = cf := by
    obtain ⟨_, _, c', _, _, _, -, -, hf', -, -, -, hown2, -⟩ := Cond.laysFinal_spec hlay
    have e1 : c' = cf := by have := hi.symm.trans hf'; simp at this; exact this.1.symm
    rw [hdecl] at hown2
    rw [← e1]; exact Option.some.inj (hown.symm.trans hown2)
  have h6 := u_fits hfc hkC hkind (Or.inr hlay) hi hd hn hfit
  refine W.putFinK hx hb hown (hts _ hlink) hi hst hcf (hmn'.trans hmn) (by rw [q2]; exact h6) q1 q3 (by rw [hsl]; exact k2_hasslot (q4 k hk)) rfl rfl hdg fun H' e1 e2 e3 => ?_
  rw [hsl] at e1 ⊢
  exact kk H' _ (hw.set he ⟨_, hc, t_OB.to (V := updV (vp_V fs) k v) ⟨_, e1, q2, q3, t_set q4 hap hk v⟩ (fun j _ => vp_updV_set hl v j)⟩ e3) (hS0.put e2 e3 (hw a _ he).1)
theorem xw_iald (C : xC p s m args meth c cc nL rt Ts own mn G B) (hw : xW G B w H) {n : Nat} {f : Nat → Int32} (he : w a = some (.inl (G.2 0, n, .inl f))) {i : Int32} (hin : vp_in i n) (hdg : decode cc pc = .ok (.iaload, 1))
    (kk : W p l e R s m args below meth c H locs cells slots Q (F0 m (pc + 1) ls (.int (f i.toNatClampNeg) :: rest))) : W p l e R s m args below meth c H locs cells slots Q (F0 m pc ls (.int i :: .ref a :: rest)) := by
  obtain ⟨hx, hb, hr, hml, hown, hts, hK, hB, hlk, hmn⟩ := C
  exact va_iald (tys := xTys G) hx hb hK (hw.one he) 0 0 rfl rfl hin hdg kk
theorem xw_lald (C : xC p s m args meth c cc nL rt Ts own mn G B) (hw : xW G B w H) {n : Nat} {f : Nat → Int64} (he : w a = some (.inl (G.2 1, n, .inr (.inl f)))) {i : Int32} (hin : vp_in i n) (hdg : decode cc pc = .ok (.laload, 1))
    (kk : W p l e R s m args below meth c H locs cells slots Q (F0 m (pc + 1) ls (.long (f i.toNatClampNeg) :: rest))) : W p l e R s m args below meth c H locs cells slots Q (F0 m pc ls (.int i :: .ref a :: rest)) := by
  obtain ⟨hx, hb, hr, hml, hown, hts, hK, hB, hlk, hmn⟩ := C
  exact va_lald (tys := xTys G) hx hb hK (hw.one he) 0 1 rfl rfl hin hdg kk
theorem xw_zald (C : xC p s m args meth c cc nL rt Ts own mn G B) (hw : xW G B w H) {n : Nat} {f : Nat → Int32} (he : w a = some (.inl (G.2 2, n, .inl f))) {i : Int32} (hin : vp_in i n) (hdg : decode cc pc = .ok (.baload, 1))
    (kk : W p l e R s m args below meth c H locs cells slots Q (F0 m (pc + 1) ls (.int (f i.toNatClampNeg) :: rest))) : W p l e R s m args below meth c H locs cells slots Q (F0 m pc ls (.int i :: .ref a :: rest)) := by
  obtain ⟨hx, hb, hr, hml, hown, hts, hK, hB, hlk, hmn⟩ := C
  exact va_zald (tys := xTys G) hx hb hK (hw.one he) 0 2 rfl rfl hin hdg kk
theorem xw_aald (C : xC p s m args meth c cc nL rt Ts own mn G B) (hw : xW G B w H) (t0 : Nat) {cA : ClassId} {Cn : String} {n : Nat} {f : Nat → Option Nat} (ht : (xTys G)[t0]? = some (cA, .object Cn)) (he : w a = some (.inl (cA, n, .inr (.inr (.inr (.inr f)))))) {i : Int32} (hin : vp_in i n) (hdg : decode cc pc = .ok (.aaload, 1))
    (kk : W p l e R s m args below meth c H locs cells slots Q (F0 m (pc + 1) ls (va_rf (f i.toNatClampNeg) :: rest))) : W p l e R s m args below meth c H locs cells slots Q (F0 m pc ls (.int i :: .ref a :: rest)) := by
  obtain ⟨hx, hb, hr, hml, hown, hts, hK, hB, hlk, hmn⟩ := C
  exact va_aldq (tys := xTys G) hx hb hK (hw.one he) 0 t0 rfl ht hin hdg kk
theorem xw_alen (C : xC p s m args meth c cc nL rt Ts own mn G B) (hw : xW G B w H) (t0 : Nat) {cA : ClassId} {x : vp_A} {ty : FieldType} (ht : (xTys G)[t0]? = some (cA, ty)) (he : w a = some (.inl (cA, x))) {N : Nat} (hN : x.1 = N) (hdg : decode cc pc = .ok (.arraylength, 1))
    (kk : W p l e R s m args below meth c H locs cells slots Q (F0 m (pc + 1) ls (.int (nI N) :: rest))) : W p l e R s m args below meth c H locs cells slots Q (F0 m pc ls (.ref a :: rest)) := by
  obtain ⟨hx, hb, hr, hml, hown, hts, hK, hB, hlk, hmn⟩ := C
  subst hN
  exact va_alen (tys := xTys G) hx hb hK (hw.one he) 0 t0 rfl ht (v := nI x.1) rfl hdg kk
theorem xw_iast (C : xC p s m args meth c cc nL rt Ts own mn G B) (hw : xW G B w H) (hS : va_S (xA B) s.heap H locs) {n : Nat} {f : Nat → Int32} (he : w a = some (.inl (G.2 0, n, .inl f))) {i x : Int32} (hin : vp_in i n) (hdg : decode cc pc = .ok (.iastore, 1))
    (kk : ∀ (H1 : Heap) (locs1 : List Loc), xW G B (xu w a (.inl (G.2 0, n, .inl (upd f i.toNatClampNeg x)))) H1 → va_S (xA B) s.heap H1 locs1 → W p l e R s m args below meth c H1 locs1 cells slots Q (F0 m (pc + 1) ls rest)) : W p l e R s m args below meth c H locs cells slots Q (F0 m pc ls (.int x :: .int i :: .ref a :: rest)) := by
  obtain ⟨hx, hb, hr, hml, hown, hts, hK, hB, hlk, hmn⟩ := C
  refine W.iast hx hb (hw a _ he).2 ((hK.2 0 _ rfl).1 n (fun j => .int (f j))) (fun q => by cases q) (by show ¬ (i < 0 ∨ (arrV _ _ _).slots.size ≤ _); rw [arrV_size]; exact hin) rfl rfl hdg fun H1 e z oq => ?_
  refine kk H1 _ (hw.set he ?_ oq) (hS.put z oq (hw a _ he).1)
  show H1[a]? = some (vp_cell _ _)
  rw [e]
  show some ((vp_cell _ _).setSlot _ _) = _
  rw [vp_cell_i, vp_cell_i, arrV_store]
  congr 2
  funext q
  by_cases hq : q = i.toNatClampNeg
  · subst hq
    simp [updV, upd]
  · simp [updV, upd, hq]
theorem xw_last (C : xC p s m args meth c cc nL rt Ts own mn G B) (hw : xW G B w H) (hS : va_S (xA B) s.heap H locs) {n : Nat} {f : Nat → Int64} (he : w a = some (.inl (G.2 1, n, .inr (.inl f)))) {i : Int32} {x : Int64} (hin : vp_in i n) (hdg : decode cc pc = .ok (.lastore, 1))
    (kk : ∀ (H1 : Heap) (locs1 : List Loc), xW G B (xu w a (.inl (G.2 1, n, .inr (.inl (vp_updL f i.toNatClampNeg x))))) H1 → va_S (xA B) s.heap H1 locs1 → W p l e R s m args below meth c H1 locs1 cells slots Q (F0 m (pc + 1) ls rest)) : W p l e R s m args below meth c H locs cells slots Q (F0 m pc ls (.long x :: .int i :: .ref a :: rest)) := by
  obtain ⟨hx, hb, hr, hml, hown, hts, hK, hB, hlk, hmn⟩ := C
  refine W.last hx hb (hw a _ he).2 ((hK.2 1 _ rfl).1 n (fun j => .long (f j))) (fun q => by cases q) (by show ¬ (i < 0 ∨ (arrV _ _ _).slots.size ≤ _); rw [arrV_size]; exact hin) rfl rfl hdg fun H1 e z oq => ?_
  refine kk H1 _ (hw.set he ?_ oq) (hS.put z oq (hw a _ he).1)
  show H1[a]? = some (vp_cell _ _)
  rw [e]
  show some ((vp_cell _ _).setSlot _ _) = _
  rw [vp_cell_l, vp_cell_l, arrV_store]
  congr 2
  funext q
  by_cases hq : q = i.toNatClampNeg
  · subst hq
    simp [updV, vp_updL]
  · simp [updV, vp_updL, hq]
theorem xw_zast (C : xC p s m args meth c cc nL rt Ts own mn G B) (hw : xW G B w H) (hS : va_S (xA B) s.heap H locs) {n : Nat} {f : Nat → Int32} (he : w a = some (.inl (G.2 2, n, .inl f))) {i x : Int32} (hin : vp_in i n) (hdg : decode cc pc = .ok (.bastore, 1))
    (kk : ∀ (H1 : Heap) (locs1 : List Loc), xW G B (xu w a (.inl (G.2 2, n, .inl (upd f i.toNatClampNeg (vp_nar .boolean x))))) H1 → va_S (xA B) s.heap H1 locs1 → W p l e R s m args below meth c H1 locs1 cells slots Q (F0 m (pc + 1) ls rest)) : W p l e R s m args below meth c H locs cells slots Q (F0 m pc ls (.int x :: .int i :: .ref a :: rest)) := by
  obtain ⟨hx, hb, hr, hml, hown, hts, hK, hB, hlk, hmn⟩ := C
  refine W.zast hx hb (hw a _ he).2 ((hK.2 2 _ rfl).1 n (fun j => .int (f j))) (fun q => by cases q) (by show ¬ (i < 0 ∨ (arrV _ _ _).slots.size ≤ _); rw [arrV_size]; exact hin) rfl rfl hdg fun H1 e z oq => ?_
  refine kk H1 _ (hw.set he ?_ oq) (hS.put z oq (hw a _ he).1)
  show H1[a]? = some (vp_cell _ _)
  rw [e]
  show some ((vp_cell _ _).setSlot _ _) = _
  rw [vp_cell_i, vp_cell_i, arrV_store]
  congr 2
  funext q
  by_cases hq : q = i.toNatClampNeg
  · subst hq
    simp [updV, upd, vp_nar]
    try rfl
  · simp [updV, upd, hq]
theorem xw_aast (C : xC p s m args meth c cc nL rt Ts own mn G B) (hw : xW G B w H) (hS : va_S (xA B) s.heap H locs) (t0 ci : Nat) {cA : ClassId} {r : vw_C} {n v : Nat} {vs : List Value} {f : Nat → Option Nat} (ht : (xTys G)[t0]? = some (cA, .object r.1)) (he : w a = some (.inl (cA, n, .inr (.inr (.inr (.inr f)))))) (hv : w v = some (.inr (ci, vs))) (hc : vwCl[ci]? = some r) {i : Int32} (hin : vp_in i n) (hdg : decode cc pc = .ok (.aastore, 1))
    (kk : ∀ (H1 : Heap) (locs1 : List Loc), xW G B (xu w a (.inl (cA, n, .inr (.inr (.inr (.inr (va_up f i.toNatClampNeg (some v)))))))) H1 → va_S (xA B) s.heap H1 locs1 → W p l e R s m args below meth c H1 locs1 cells slots Q (F0 m (pc + 1) ls rest)) : W p l e R s m args below meth c H locs cells slots Q (F0 m pc ls (.ref v :: .int i :: .ref a :: rest)) := by
  obtain ⟨hx, hb, hr, hml, hown, hts, hK, hB, hlk, hmn⟩ := C
  have hlt : i.toNatClampNeg < n := Nat.not_le.mp fun q => hin (Or.inr q)
  have h0 : ¬ i < 0 := fun q => hin (Or.inl q)
  obtain ⟨r', hr', cellV, g1, g2, g3, -⟩ := (hw v _ hv).2
  have hcls := (hK.1 ci r hc).2
  obtain ⟨kA, comp, k1, k2, k3, -⟩ := (hK.2 t0 _ ht).2
  have hcomp : comp = G.1.1 ci := Option.some.inj (k3.symm.trans hcls.1)
  subst hcomp
  obtain ⟨kC, hkC, hkk⟩ := hcls.2
  refine W.aast hx hb (hw a _ he).2 (fun q h => by cases h) (fun h => by cases h) k1 k2 rfl hkC ⟨h0, by show _ < (arrV _ _ _).slots.size; rw [arrV_size]; exact hlt⟩ g1 (fun q h => by rw [g3] at h; cases h) (by rw [g2]; exact hkC) (by rw [g2]; exact va_assign hcls) rfl rfl hdg fun H1 e z oq => ?_
  refine kk H1 _ (hw.set he ?_ oq) (hS.put z oq (hw a _ he).1)
  show H1[a]? = some (vp_cell _ _)
  rw [e]
  show some ((vp_cell _ _).setSlot _ _) = _
  rw [vp_cell_q, vp_cell_q, arrV_store]
  congr 2
  funext q
  by_cases hq : q = i.toNatClampNeg
  · subst hq
    simp [updV, va_up, va_rf]
  · simp [updV, va_up, hq]
theorem xw_new (C : xC p s m args meth c cc nL rt Ts own mn G B) (hw : xW G B w H) (hS : va_S (xA B) s.heap H locs) {ci : Nat} {Cn : String} {T : u_T} {N index : Nat} (hc : vwCl[ci]? = some (Cn, T, N)) (hin : ∀ w ∈ u_ws Cn T N, w ∈ Ts) (ty : Nat → FieldType) (hty : ∀ k, k < N → parseFieldDescriptor (T k).2.2.1 = some (ty k)) (hcl : Cond.classLink own index Cn ∈ Ts) (hinst : Cond.instantiable Cn N ∈ Ts) (hini : Cond.initialized Cn ∈ Ts)
    {fs : List Value} (hfs : ∀ j, j < N → defaultValue (ty j) = vp_V fs j) (hcells : cells + 1 ≤ R.cells) (hslots : slots + N ≤ R.slots) (hdg : decode cc pc = .ok (.new index, 3))
    (kk : ∀ (q : Nat) (H1 : Heap), w q = none → xW G B (xu w q (.inr (ci, fs))) H1 → va_S (xA B) s.heap H1 locs → W p l e R s m args below meth c H1 locs (cells + 1) (slots + N) Q (F0 m (pc + 3) ls (.ref q :: rest))) : W p l e R s m args below meth c H locs cells slots Q (F0 m pc ls rest) := by
  obtain ⟨hx, hb, hr, hml, hown, hts, hK, hB, hlk, hmn⟩ := C
  have hKn := hK.1 ci _ hc
  refine W.newcK hx hb hown (hts _ hcl) (hts _ hinst) (hts _ hini) rfl hdg hcells hslots hKn.2.1 rfl fun H1 kC hkC e1 z1 o1 => ?_
  obtain ⟨h1, h2⟩ := hw.push (H1 := H1) (e := .inr (ci, fs)) (Nat.le_trans hB hS.1) ⟨_, hc, (u_born ty hts hin hKn hkC e1 hty).to hfs⟩ o1
  exact kk H.size H1 h1 h2 ⟨Nat.le_trans hS.1 (by omega), fun x h1 h2 => (o1 x (Nat.lt_of_lt_of_le h1 hS.1)).trans (hS.2.1 x h1 h2), hS.2.2⟩
theorem xw_newa (C : xC p s m args meth c cc nL rt Ts own mn G B) (hw : xW G B w H) (hS : va_S (xA B) s.heap H locs) (t0 : Nat) {atype : ArrayType} {cT : ClassId} (harr : Cond.arrayClass (newarray.typeOf atype) ∈ Ts) (ht : (xTys G)[t0]? = some (cT, newarray.typeOf atype))
    {n : Int32} {N' : Nat} {a0 : vp_A} (ha : ∀ cA : ClassId, vp_cell cA a0 = arrV cA N' (fun _ => defaultValue (newarray.typeOf atype))) (hn : ¬ n < 0) (hN : n.toNatClampNeg = N') (hbytes : N' * componentBytes (newarray.typeOf atype) ≤ 536870912) (hcells : cells + 1 ≤ R.cells) (hslots : slots + N' ≤ R.slots) (hdg : decode cc pc = .ok (.newarray atype, 2))
    (kk : ∀ (q : Nat) (H1 : Heap), w q = none → xW G B (xu w q (.inl (cT, a0))) H1 → va_S (xA B) s.heap H1 locs → W p l e R s m args below meth c H1 locs (cells + 1) (slots + N') Q (F0 m (pc + 2) ls (.ref q :: rest))) : W p l e R s m args below meth c H locs cells slots Q (F0 m pc ls (.int n :: rest)) := by
  obtain ⟨hx, hb, hr, hml, hown, hts, hK, hB, hlk, hmn⟩ := C
  refine va_newaK hx hb (hts _ harr) rfl hdg rfl hn hN hbytes hcells hslots rfl fun H1 cA e1 z1 o1 hAr hNm => ?_
  have hR := (hK.2 t0 _ ht).2
  have hR2 : s.vm.findClass ("[" ++ (newarray.typeOf atype).toString) = some cT := by cases atype <;> exact hR
  have hcA : cA = cT := Option.some.inj (hNm.symm.trans hR2)
  subst hcA
  obtain ⟨h1, h2⟩ := hw.push (H1 := H1) (e := .inl (cA, a0)) (Nat.le_trans hB hS.1) (by show H1[H.size]? = some (vp_cell _ _); rw [ha]; exact e1) o1
  exact kk H.size H1 h1 h2 ⟨Nat.le_trans hS.1 (by omega), fun x h1 h2 => (o1 x (Nat.lt_of_lt_of_le h1 hS.1)).trans (hS.2.1 x h1 h2), hS.2.2⟩
theorem xw_newq (C : xC p s m args meth c cc nL rt Ts own mn G B) (hw : xW G B w H) (hS : va_S (xA B) s.heap H locs) (t0 : Nat) {cT : ClassId} {Cn : String} {index : Nat} (hclink : Cond.classLink own index Cn ∈ Ts) (hover : Cond.arrayOver (.object Cn) ∈ Ts) (ht : (xTys G)[t0]? = some (cT, .object Cn))
    {n : Int32} {N' : Nat} (hn : ¬ n < 0) (hN : n.toNatClampNeg = N') (hbytes : N' * 4 ≤ 536870912) (hcells : cells + 1 ≤ R.cells) (hslots : slots + N' ≤ R.slots) (hdg : decode cc pc = .ok (.anewarray index, 3))
    (kk : ∀ (q : Nat) (H1 : Heap), w q = none → xW G B (xu w q (.inl (cT, N', .inr (.inr (.inr (.inr (fun _ => none))))))) H1 → va_S (xA B) s.heap H1 locs → W p l e R s m args below meth c H1 locs (cells + 1) (slots + N') Q (F0 m (pc + 3) ls (.ref q :: rest))) : W p l e R s m args below meth c H locs cells slots Q (F0 m pc ls (.int n :: rest)) := by
  obtain ⟨hx, hb, hr, hml, hown, hts, hK, hB, hlk, hmn⟩ := C
  subst hN
  refine W.anew hx hb hown (hts _ hclink) (hts _ hover) rfl hdg rfl hn hbytes hcells hslots fun cA kA comp f1 f2 f3 f4 => ?_
  generalize hH1 : H.push ({ cls := cA, slots := Array.replicate n.toNatClampNeg .null, vm := .none } : Cell) = H1
  have z1 : H1.size = H.size + 1 := by rw [← hH1, Array.size_push]
  have e1 : H1[H.size]? = some (arrV cA n.toNatClampNeg (fun _ => .null)) := by rw [← hH1, Array.getElem?_push_size, ← arrV_new]
  have o1 : ∀ q : Nat, q < H.size → H1[q]? = H[q]? := fun q hq => by rw [← hH1, Array.getElem?_push, if_neg (Nat.ne_of_lt hq)]
  obtain ⟨kT, cpT, j1, j2, j3, j4⟩ := (hK.2 t0 _ ht).2
  have hcA : cA = cT := Option.some.inj (f1.symm.trans j4)
  subst hcA
  obtain ⟨h1, h2⟩ := hw.push (H1 := H1) (e := .inl (cA, n.toNatClampNeg, .inr (.inr (.inr (.inr (fun _ => none)))))) (Nat.le_trans hB hS.1) (by show H1[H.size]? = some (vp_cell _ _); rw [vp_cell_q]; exact e1) o1
  exact kk H.size H1 h1 h2 ⟨Nat.le_trans hS.1 (by omega), fun x h1 h2 => (o1 x (Nat.lt_of_lt_of_le h1 hS.1)).trans (hS.2.1 x h1 h2), hS.2.2⟩
/-! returns -/
theorem xw_iret {v : Int32} {post : Int32 → xM → Prop} (C : xC p s m args meth c cc nL (some .int) Ts own mn G B) (hw : xW G B u H) (hS : va_S (xA B) s.heap H locs) (hc : cells ≤ mc) (hs : slots ≤ ms) (hp : post v u) (hdg : decode cc pc = .ok (.ireturn, 1)) :
    W p l e R s m args below meth c H locs cells slots (MQ below (va_Qi post (xE G B) (xA B)) args s mc ms (xA B)) (F0 m pc ls [.int v]) := by
  obtain ⟨hx, hb, hr, hml, hown, hts, hK, hB, hlk, hmn⟩ := C
  refine W.widen hc hs ?_
  exact W.iret hx hb hr (fun t ht hW => ⟨⟨v, u, rfl, hp, by rw [ht]; exact hw, xK.moved hW.alike hK⟩, hS.F ht⟩) hS.2.2 hdg hlk
theorem xw_zret {v : Int32} {post : Int32 → xM → Prop} (C : xC p s m args meth c cc nL (some .boolean) Ts own mn G B) (hw : xW G B u H) (hS : va_S (xA B) s.heap H locs) (hc : cells ≤ mc) (hs : slots ≤ ms) (hv : v = 0 ∨ v = 1) (hp : post v u) (hdg : decode cc pc = .ok (.ireturn, 1)) :
    W p l e R s m args below meth c H locs cells slots (MQ below (va_Qi post (xE G B) (xA B)) args s mc ms (xA B)) (F0 m pc ls [.int v]) := by
  obtain ⟨hx, hb, hr, hml, hown, hts, hK, hB, hlk, hmn⟩ := C
  refine W.widen hc hs ?_
  exact W.zret hx hb hr (by rcases hv with rfl | rfl <;> rfl) (fun t ht hW => ⟨⟨v, u, rfl, hp, by rw [ht]; exact hw, xK.moved hW.alike hK⟩, hS.F ht⟩) hS.2.2 hdg hlk
theorem xw_lret {v : Int64} {post : Int64 → xM → Prop} (C : xC p s m args meth c cc nL (some .long) Ts own mn G B) (hw : xW G B u H) (hS : va_S (xA B) s.heap H locs) (hc : cells ≤ mc) (hs : slots ≤ ms) (hp : post v u) (hdg : decode cc pc = .ok (.lreturn, 1)) :
    W p l e R s m args below meth c H locs cells slots (MQ below (va_Ql post (xE G B) (xA B)) args s mc ms (xA B)) (F0 m pc ls [.long v]) := by
  obtain ⟨hx, hb, hr, hml, hown, hts, hK, hB, hlk, hmn⟩ := C
  refine W.widen hc hs ?_
  exact W.lret hx hb hr (fun t ht hW => ⟨⟨v, u, rfl, hp, by rw [ht]; exact hw, xK.moved hW.alike hK⟩, hS.F ht⟩) hS.2.2 hdg hlk
theorem xw_vret {post : xM → Prop} (C : xC p s m args meth c cc nL none Ts own mn G B) (hw : xW G B u H) (hS : va_S (xA B) s.heap H locs) (hc : cells ≤ mc) (hs : slots ≤ ms) (hp : post u) (hdg : decode cc pc = .ok (.return_, 1)) :
    W p l e R s m args below meth c H locs cells slots (MQ below (va_Qv post (xE G B) (xA B)) args s mc ms (xA B)) (F0 m pc ls []) := by
  obtain ⟨hx, hb, hr, hml, hown, hts, hK, hB, hlk, hmn⟩ := C
  refine W.widen hc hs ?_
  exact W.vret hx hb hr (fun t ht hW => ⟨⟨u, rfl, hp, by rw [ht]; exact hw, xK.moved hW.alike hK⟩, hS.F ht⟩) hS.2.2 hdg hlk
/-- an answer that is a cell's address -/
abbrev xQr (G : xG) (B : Nat) (post : Nat → xM → Prop) : Array Value → State → Outcome → State → Prop := va_Qr (S := xM × Nat) (fun z => post z.2 z.1) (fun z a t => z.2 = a ∧ xE G B z.1 t) (xA B)
theorem xw_aret {v : Nat} {post : Nat → xM → Prop} {Cn : String} (C : xC p s m args meth c cc nL (some (.object Cn)) Ts own mn G B) (hw : xW G B u H) (hS : va_S (xA B) s.heap H locs) (hc : cells ≤ mc) (hs : slots ≤ ms) (hp : post v u) (hdg : decode cc pc = .ok (.areturn, 1)) :
    W p l e R s m args below meth c H locs cells slots (MQ below (xQr G B post) args s mc ms (xA B)) (F0 m pc ls [.ref v]) := by
  obtain ⟨hx, hb, hr, hml, hown, hts, hK, hB, hlk, hmn⟩ := C
  refine W.widen hc hs ?_
  exact W.aret hx hb hr (Or.inl ⟨_, rfl⟩) (Or.inr ⟨_, rfl⟩) (fun t ht hW => ⟨⟨(u, v), v, rfl, hp, rfl, by rw [ht]; exact hw, xK.moved hW.alike hK⟩, hS.F ht⟩) hS.2.2 hdg hlk
/-! calls -/
theorem xw_V {y : MethodName} {bytes : ByteArray} {maxL n index : Nat} {ret : Option FieldType} {ws ws' : List Cond} {rm : Room} {Cn : String} {b : Nat} {As : List Value} {Qc : Array Value → State → Outcome → State → Prop} (C : xC p s m args meth c cc nL rt Ts own mn G B) (hw : xW G B w H)
    (hM : Met l y ws rm (va_Pc (.ref b :: As) (xB G B w)) Qc mc ms (xA B)) (hG : GoodIn Ts (wsV own index Cn y ws)) (hws : ws = Cond.code y bytes maxL ret :: ws') (hrc : rm.cells = mc) (hrs : rm.slots = ms)
    (hd : y.cls = Cn ∧ y.cls ≠ "java/lang/invoke/MethodHandle" ∧ y.cls ≠ "java/lang/invoke/VarHandle" ∧ (parseMethodDescriptor y.desc).map (fun d => d.parameters.length) = some n) (hR : rm.frames + 1 ≤ R.frames ∧ 8 + (maxL + 11) + rm.locals ≤ R.locals)
    {ci : Nat} {fs : List Value} (he : w b = some (.inr (ci, fs))) {T : u_T} {N : Nat} (hc : vwCl[ci]? = some (Cn, T, N)) (hn : As.length = n) (hl : ls.size = nL) (hst : st0 = As.reverse ++ .ref b :: rest) (hrm : (rest.map fun v => v.category).sum ≤ 8) (hdg : decode cc pc = .ok (.invokevirtual index, 3)) (hf : cells + mc ≤ R.cells ∧ slots + ms ≤ R.slots) (hS : va_S (xA B) s.heap H locs) :
    va_Run p l e R s m args below meth c H locs cells slots mc ms (F0 m pc ls st0) rest (Qc (Value.ref b :: As).toArray) (xA B) := by
  obtain ⟨hx, hb, hr, hml, hown, hts, hK, hB, hlk, hmn⟩ := C
  exact va_runV ⟨hx, hb, hml, hown, hts⟩ hM (cwV n hts hG hws hrc hrs hd hR) ⟨x_blind, va_recv hK (hw.one he) hc (q0 := 0) rfl, fun U hU hW => ⟨rfl, by rw [hU]; exact Nat.le_trans hB hS.1, by rw [hU]; exact hw, xK.moved hW.alike hK⟩⟩ rfl hn hl hst (lv_room hrm) hdg hf
theorem xw_S {y : MethodName} {bytes : ByteArray} {maxL n index : Nat} {ret : Option FieldType} {ws ws' : List Cond} {rm : Room} {As : List Value} {Qc : Array Value → State → Outcome → State → Prop} (C : xC p s m args meth c cc nL rt Ts own mn G B) (hw : xW G B w H)
    (hM : Met l y ws rm (va_Pc As (xB G B w)) Qc mc ms (xA B)) (hG : GoodIn Ts (va_wsS own index y ws)) (hws : ws = Cond.code y bytes maxL ret :: ws') (hrc : rm.cells = mc) (hrs : rm.slots = ms)
    (hd : y.cls ≠ "java/lang/invoke/MethodHandle" ∧ y.cls ≠ "java/lang/invoke/VarHandle" ∧ (parseMethodDescriptor y.desc).map (fun d => d.parameters.length) = some n) (hR : rm.frames + 1 ≤ R.frames ∧ 8 + (maxL + 11) + rm.locals ≤ R.locals)
    (hn : As.length = n) (hl : ls.size = nL) (hst : st0 = As.reverse ++ rest) (hrm : (rest.map fun v => v.category).sum ≤ 8) (hdg : decode cc pc = .ok (.invokestatic index, 3)) (hf : cells + mc ≤ R.cells ∧ slots + ms ≤ R.slots) (hS : va_S (xA B) s.heap H locs) :
    va_Run p l e R s m args below meth c H locs cells slots mc ms (F0 m pc ls st0) rest (Qc As.toArray) (xA B) := by
  obtain ⟨hx, hb, hr, hml, hown, hts, hK, hB, hlk, hmn⟩ := C
  exact va_runS ⟨hx, hb, hml, hown, hts⟩ hM (va_cwS n hts hG hws hrc hrs hd hR) ⟨x_blind, fun U hU hW => ⟨rfl, by rw [hU]; exact Nat.le_trans hB hS.1, by rw [hU]; exact hw, xK.moved hW.alike hK⟩⟩ rfl hn hl hst (lv_room hrm) hdg hf
theorem xw_I {y : MethodName} {bytes : ByteArray} {maxL n index : Nat} {ws ws' : List Cond} {rm : Room} {b : Nat} {As : List Value} {Qc : Array Value → State → Outcome → State → Prop} (C : xC p s m args meth c cc nL rt Ts own mn G B) (hw : xW G B w H)
    (hM : Met l y ws rm (va_Pc (.ref b :: As) (xB G B w)) Qc mc ms (xA B)) (hG : GoodIn Ts ws) (hws : ws = Cond.code y bytes maxL none :: ws') (hrc : rm.cells = mc) (hrs : rm.slots = ms) (hini : Cond.initialized y.cls ∈ Ts) (hlk : Cond.methodLink own index y ∈ Ts) (hinm : Cond.instanceMethod y ∈ Ts) (hnm : y.name = "<init>")
    (hd : y.cls ≠ "java/lang/invoke/MethodHandle" ∧ y.cls ≠ "java/lang/invoke/VarHandle" ∧ (parseMethodDescriptor y.desc).map (fun d => d.parameters.length) = some n) (hR : rm.frames + 1 ≤ R.frames ∧ 8 + (maxL + 11) + rm.locals ≤ R.locals)
    (hn : As.length = n) (hl : ls.size = nL) (hst : st0 = As.reverse ++ .ref b :: rest) (hrm : (rest.map fun v => v.category).sum ≤ 8) (hdg : decode cc pc = .ok (.invokespecial index, 3)) (hf : cells + mc ≤ R.cells ∧ slots + ms ≤ R.slots) (hS : va_S (xA B) s.heap H locs) :
    va_Run p l e R s m args below meth c H locs cells slots mc ms (F0 m pc ls st0) rest (Qc (Value.ref b :: As).toArray) (xA B) := by
  obtain ⟨hx, hb, hr, hml, hown, hts, hK, hB, hlk2, hmn⟩ := C
  exact va_runI ⟨hx, hb, hml, hown, hts⟩ hM (cwI n hts hG hws hrc hrs (hts _ hini) (hts _ hlk) (hts _ hinm) hnm hd hR) ⟨x_blind, fun U hU hW => ⟨rfl, by rw [hU]; exact Nat.le_trans hB hS.1, by rw [hU]; exact hw, xK.moved hW.alike hK⟩⟩ rfl hn hl hst (lv_room hrm) hdg hf
theorem xw_ci {aa : Array Value} {post : Int32 → xM → Prop} (hr : va_Run p l e R s m args below meth c H locs cells slots mc ms (F0 m pc ls st0) rest (va_Qi post (xE G B) (xA B) aa) (xA B)) (hS : va_S (xA B) s.heap H locs)
    (kk : ∀ (r : Int32) (u : xM) (H1 : Heap) (locs1 : List Loc), post r u → xW G B u H1 → va_S (xA B) s.heap H1 locs1 → W p l e R s m args below meth c H1 locs1 (cells + mc) (slots + ms) Q (F0 m (pc + 3) ls (.int r :: rest))) : W p l e R s m args below meth c H locs cells slots Q (F0 m pc ls st0) :=
  va_calli hr hS (fun _ _ h => h) (fun _ h => h) (fun r u t H1 locs1 ht _ hp hB _ _ hS1 => kk r u H1 locs1 hp (by rw [← ht]; exact hB.1) hS1)
theorem xw_cl {aa : Array Value} {post : Int64 → xM → Prop} (hr : va_Run p l e R s m args below meth c H locs cells slots mc ms (F0 m pc ls st0) rest (va_Ql post (xE G B) (xA B) aa) (xA B)) (hS : va_S (xA B) s.heap H locs)
    (kk : ∀ (r : Int64) (u : xM) (H1 : Heap) (locs1 : List Loc), post r u → xW G B u H1 → va_S (xA B) s.heap H1 locs1 → W p l e R s m args below meth c H1 locs1 (cells + mc) (slots + ms) Q (F0 m (pc + 3) ls (.long r :: rest))) : W p l e R s m args below meth c H locs cells slots Q (F0 m pc ls st0) :=
  va_calll hr hS (fun _ _ h => h) (fun _ h => h) (fun r u t H1 locs1 ht _ hp hB _ _ hS1 => kk r u H1 locs1 hp (by rw [← ht]; exact hB.1) hS1)
theorem xw_cv {aa : Array Value} {post : xM → Prop} (hr : va_Run p l e R s m args below meth c H locs cells slots mc ms (F0 m pc ls st0) rest (va_Qv post (xE G B) (xA B) aa) (xA B)) (hS : va_S (xA B) s.heap H locs)
    (kk : ∀ (u : xM) (H1 : Heap) (locs1 : List Loc), post u → xW G B u H1 → va_S (xA B) s.heap H1 locs1 → W p l e R s m args below meth c H1 locs1 (cells + mc) (slots + ms) Q (F0 m (pc + 3) ls rest)) : W p l e R s m args below meth c H locs cells slots Q (F0 m pc ls st0) :=
  va_callv hr hS (fun _ _ h => h) (fun _ h => h) (fun u t H1 locs1 ht _ hp hB _ _ hS1 => kk u H1 locs1 hp (by rw [← ht]; exact hB.1) hS1)
theorem xw_cr {aa : Array Value} {post : Nat → xM → Prop} (hr : va_Run p l e R s m args below meth c H locs cells slots mc ms (F0 m pc ls st0) rest (xQr G B post aa) (xA B)) (hS : va_S (xA B) s.heap H locs)
    (kk : ∀ (r : Nat) (u : xM) (H1 : Heap) (locs1 : List Loc), post r u → xW G B u H1 → va_S (xA B) s.heap H1 locs1 → W p l e R s m args below meth c H1 locs1 (cells + mc) (slots + ms) Q (F0 m (pc + 3) ls (.ref r :: rest))) : W p l e R s m args below meth c H locs cells slots Q (F0 m pc ls st0) :=
  va_callr hr hS (fun _ _ h => h) (fun _ h => h) (fun z ra t H1 locs1 ht _ hp hB _ _ hS1 => by
    obtain ⟨u, r⟩ := z
    obtain ⟨h1, h2, h3⟩ := hB
    dsimp only at h1 h2 hp
    subst h1
    exact kk r u H1 locs1 hp (by rw [← ht]; exact h2) hS1)
end XW
