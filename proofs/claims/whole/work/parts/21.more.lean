/-! ===== more rows of worlds ===== -/
theorem xPoly.xu {G : xG} {w : xM} {h r n a : Nat} {f : xP} {e : va_E} (q : xPoly G w h r n f) (ha : w a = none) : xPoly G (xu w a e) h r n f := ⟨(xu_n _ _ (x_nn q.1 ha)).trans q.1, (xu_n _ _ (x_nn q.2.1 ha)).trans q.2.1, q.2.2⟩
theorem xset_xc {G : xG} {w : xM} {h r n a : Nat} {f : xP} {e : va_E} (h1 : h ≠ a) (h2 : r ≠ a) : xset G (xu w a e) h r n f = xu (xset G w h r n f) a e := by
  unfold xset
  rw [xu_c _ _ _ (Ne.symm h2), xu_c _ _ _ (Ne.symm h1)]
theorem xset_xc2 {G : xG} {w : xM} {h r n h2 r2 n2 a : Nat} {f f2 : xP} {e : va_E} (k1 : h ≠ a) (k2 : r ≠ a) (k3 : h2 ≠ a) (k4 : r2 ≠ a) : xset G (xset G (xu w a e) h r n f) h2 r2 n2 f2 = xu (xset G (xset G w h r n f) h2 r2 n2 f2) a e := by
  rw [xset_xc k1 k2, xset_xc k3 k4]
