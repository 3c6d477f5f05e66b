/-! ===== rows of the law: its script, its calls ===== -/
theorem wL_79 : Cond.constantLong RL 79 4294967295 ∈ wsL_law := by decide +kernel
theorem xl_p1 (i : Nat) : nI i + 1 = nI (i + 1) := nI_add i 1
theorem xl_p2 (i : Nat) : nI i + 2 = nI (i + 2) := nI_add i 2
theorem xl_p3 (i : Nat) : nI i + 3 = nI (i + 3) := nI_add i 3
theorem xl_p4 (i : Nat) : nI i + 4 = nI (i + 4) := nI_add i 4
theorem xl_p5 (i : Nat) : nI i + 5 = nI (i + 5) := nI_add i 5
theorem xl_and (x : Int32) : ∃ n, n < 32 ∧ x &&& 31 = nI n := by
  refine ⟨(x &&& 31).toBitVec.toNat, ?_, ?_⟩
  · rw [Int32.toBitVec_and, BitVec.toNat_and]
    exact Nat.lt_of_le_of_lt Nat.and_le_right (by decide)
  · refine Int32.toBitVec_inj.mp ?_
    show (x &&& 31).toBitVec = BitVec.ofNat 32 _
    rw [BitVec.ofNat_toNat, BitVec.setWidth_eq]
theorem xl_end {L i : Nat} (hL : L ≤ 2560) (hi : i ≤ 2560) : nI L - 5 < nI i ↔ L < i + 5 := by
  rw [Int32.lt_iff_toInt_lt, Int32.toInt_sub, nI_toInt (by omega), nI_toInt (by omega), show (5 : Int32).toInt = 5 by decide, Int.bmod_eq_of_le (by omega) (by omega)]
  omega
section XLB
variable {p : Program} {l : Launch} {e : Env} {R : Room} {s : State} {m : MethodId} {args : Array Value} {below : List Frame} {meth : Method} {c : Code} {H : Heap} {locs : List Loc} {cells slots : Nat} {Q : State → Prop}
variable {cc : ByteArray} {nL pc : Nat} {rt : Option FieldType} {Ts : List Cond} {own mn : String} {G : xG} {B : Nat} {w u : xM} {ls : Array Slot} {rest st0 : List Value} {a : Nat} {mc ms : Nat}
theorem xl_sld (hexec : p.tables.exec = Jvm.exec) (hb : c.code = cc) {b L k : Nat} {xs : Nat → Int32} {A : Nat → Prop} {H0 : Heap} (hX : va_X b L xs s H0) (hbl : b < H0.size) (hbA : ¬ A b) (hS : va_S A H0 H locs) (hk : k < L) (hL : L < 2 ^ 31) (hdg : decode cc pc = .ok (.iaload, 1))
    (kk : W p l e R s m args below meth c H locs cells slots Q (F0 m (pc + 1) ls (.int (xs k) :: rest))) : W p l e R s m args below meth c H locs cells slots Q (F0 m pc ls (.int (nI k) :: .ref b :: rest)) :=
  va_sld hexec hb hX hbl hbA hS (vp_in_nI hk hL) hdg (by rw [nI_clamp (by omega)]; exact kk)
theorem xl_S {y : MethodName} {bytes : ByteArray} {maxL n index : Nat} {ret : Option FieldType} {hh : List (Nat × Nat × Nat × Nat)} {ws ws' : List Cond} {rm : Room} {As : List Value} {Qc : Array Value → State → Outcome → State → Prop} (C : xC p s m args meth c cc nL rt Ts own mn G B) (hw : xW G B w H) (hz : xZ B s)
    (hM : Met l y ws rm (va_Pc As (xBz G B w)) Qc mc ms (xA B)) (hG : GoodIn Ts (va_wsS own index y ws)) (hws : ws = Cond.codeWith y bytes maxL ret hh :: ws') (hrc : rm.cells = mc) (hrs : rm.slots = ms)
    (hd : y.cls ≠ "java/lang/invoke/MethodHandle" ∧ y.cls ≠ "java/lang/invoke/VarHandle" ∧ (parseMethodDescriptor y.desc).map (fun d => d.parameters.length) = some n) (hR : rm.frames + 1 ≤ R.frames ∧ 8 + (maxL + 11) + rm.locals ≤ R.locals)
    (hn : As.length = n) (hl : ls.size = nL) (hst : st0 = As.reverse ++ rest) (hrm : (rest.map fun v => v.category).sum ≤ 8) (hdg : decode cc pc = .ok (.invokestatic index, 3)) (hf : cells + mc ≤ R.cells ∧ slots + ms ≤ R.slots) (hS : va_S (xA B) s.heap H locs) :
    va_Run p l e R s m args below meth c H locs cells slots mc ms (F0 m pc ls st0) rest (Qc As.toArray) (xA B) := by
  have hp := xx_pre (As := As) C hw hS hz
  obtain ⟨hx, hb, hr, hml, hown, hts, hK, hB, hlk, hmn⟩ := C
  exact vx_runSW ⟨hx, hb, hml, hown, hts⟩ hM (vx_cwSW n hts hG hws hrc hrs hd hR) ⟨x_blindz, hp⟩ rfl hn hl hst (lv_room hrm) hdg hf
end XLB
theorem xInv.cnt {G : xG} {w wr wr2 : xM} {h mo O : Nat} {pa ra cp fr ad : Nat → Nat} {md : Nat} {ps : Nat → xP} {la ia : Nat → Nat} {rq : Nat} {im lr : Nat → xP} {eo : Nat → Option Nat} {tb : Nat → Bool} {fo : Nat → Int64} {co : Int32} {ro : Nat → Option Nat} {me : Int32} (hP : xPair G w h mo O pa ra cp fr ad md ps la ia rq md im) (hT : xTie md ps im)
    (hwr : ∀ (a : Nat) (e : va_E), w a = some e → ¬ xCD pa ra fr ad md a → wr a = some e) (hO : wr O = some (xOc G fo)) (hC : xCL G w pa ra cp fr ad md ps eo tb wr) (hM : xML G w mo la ia rq co md im lr ro me wr2) (hw2 : ∀ (a : Nat) (e : va_E), w a = some e → ¬ xMD mo la ia rq a → wr2 a = some e) : xInv G (xu w mo (.inr (4, xMf la ia rq 0 md me))) h mo O :=
  xDone.inv (hP.fin (k := 0) (b := fo 0) (fo := fo) (u := w) hwr hO hC (Or.inl rfl) hw2 ⟨lr, ro, me, hM.setO 0 md me hM.m50⟩ hT rfl (fun _ => ⟨(xu_id w (hC.rest hO)).symm, rfl⟩))
