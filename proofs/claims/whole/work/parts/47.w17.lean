/-! ===== strips: single data are set ===== -/
theorem yDok_fr {D : yD} (h : yDok D) {g : Nat → Int32} : yDok { D with fr := g } := ⟨h.n1, h.n40, h.f1, h.f6, h.fp0, h.fpm, h.fpn, h.ogm, h.fll⟩
theorem yDok_tk {D : yD} (h : yDok D) {g : Nat → Int32} : yDok { D with tk := g } := ⟨h.n1, h.n40, h.f1, h.f6, h.fp0, h.fpm, h.fpn, h.ogm, h.fll⟩
theorem yDok_du {D : yD} (h : yDok D) {g : Nat → Int32} : yDok { D with du := g } := ⟨h.n1, h.n40, h.f1, h.f6, h.fp0, h.fpm, h.fpn, h.ogm, h.fll⟩
theorem yDok_fm {D : yD} (h : yDok D) {g : Nat → Int32} : yDok { D with fm := g } := ⟨h.n1, h.n40, h.f1, h.f6, h.fp0, h.fpm, h.fpn, h.ogm, h.fll⟩
theorem yDok_og {D : yD} (h : yDok D) {p q : Nat} (hq : q < 40) : yDok { D with og := upd D.og p (yI q) } := by
  refine ⟨h.n1, h.n40, h.f1, h.f6, h.fp0, h.fpm, h.fpn, ?_, h.fll⟩
  intro k hk
  show upd D.og p (yI q) k = -1 ∨ _
  unfold upd
  by_cases e : k = p
  · right
    refine ⟨q, hq, ?_⟩
    show (if k = p then yI q else D.og k) = yI q
    rw [if_pos e]
  · rw [if_neg e]
    rcases h.ogm k hk with h1 | ⟨r, hr, h1⟩
    · exact Or.inl h1
    · refine Or.inr ⟨r, hr, ?_⟩
      show (if k = p then yI q else D.og k) = yI r
      rw [if_neg e, h1]
section
variable {t : yT} {o : Nat} {D : yD} {p : Nat} {v : Int32}
theorem yW_fr (W : yW t o D) : yW (t.s1 (o + 5) p v) o { D with fr := upd D.fr p v } := by
  refine ⟨yDok_fr W.ok, W.oo, ?_, ?_, ?_, ?_, ?_, ?_, W.bp, ?_, ?_, ?_, ?_, ?_, ?_, ?_, ?_, ?_⟩
  · rw [ys1_ne (by omega)]; exact W.n
  · rw [ys1_ne (by omega)]; exact W.un
  · rw [ys1_ne (by omega)]; exact W.lv
  · rw [ys1_ne (by omega)]; exact W.f
  · rw [ys1_ne (by omega)]; exact W.sh
  · rw [ys1_ne (by omega)]; exact W.ac
  · rw [ys1_ne (by omega)]; exact W.fm
  · rw [ys1_ne (by omega)]; exact W.du
  · rw [ys1_ne (by omega)]; exact W.kd
  · rw [ys1_ne (by omega)]; exact W.pd
  · intro q hq
    show (t.sA (o + 5) (upd (t.A (o + 5)) p v)).A (o + 5) q = upd D.fr p v q
    rw [ysA_same]
    simp only [upd, W.fr q hq]
  · rw [ys1_ne (by omega)]; exact W.tk
  · rw [ys1_ne (by omega)]; exact W.og
  · rw [ys1_ne (by omega)]; exact W.fp
  · rw [ys1_ne (by omega)]; exact W.fl
theorem yW_tk (W : yW t o D) : yW (t.s1 (o + 6) p v) o { D with tk := upd D.tk p v } := by
  refine ⟨yDok_tk W.ok, W.oo, ?_, ?_, ?_, ?_, ?_, ?_, W.bp, ?_, ?_, ?_, ?_, ?_, ?_, ?_, ?_, ?_⟩
  · rw [ys1_ne (by omega)]; exact W.n
  · rw [ys1_ne (by omega)]; exact W.un
  · rw [ys1_ne (by omega)]; exact W.lv
  · rw [ys1_ne (by omega)]; exact W.f
  · rw [ys1_ne (by omega)]; exact W.sh
  · rw [ys1_ne (by omega)]; exact W.ac
  · rw [ys1_ne (by omega)]; exact W.fm
  · rw [ys1_ne (by omega)]; exact W.du
  · rw [ys1_ne (by omega)]; exact W.kd
  · rw [ys1_ne (by omega)]; exact W.pd
  · rw [ys1_ne (by omega)]; exact W.fr
  · intro q hq
    show (t.sA (o + 6) (upd (t.A (o + 6)) p v)).A (o + 6) q = upd D.tk p v q
    rw [ysA_same]
    simp only [upd, W.tk q hq]
  · rw [ys1_ne (by omega)]; exact W.og
  · rw [ys1_ne (by omega)]; exact W.fp
  · rw [ys1_ne (by omega)]; exact W.fl
theorem yW_og (W : yW t o D) {q : Nat} (hq : q < 40) : yW (t.s1 (o + 7) p (yI q)) o { D with og := upd D.og p (yI q) } := by
  refine ⟨yDok_og W.ok hq, W.oo, ?_, ?_, ?_, ?_, ?_, ?_, W.bp, ?_, ?_, ?_, ?_, ?_, ?_, ?_, ?_, ?_⟩
  · rw [ys1_ne (by omega)]; exact W.n
  · rw [ys1_ne (by omega)]; exact W.un
  · rw [ys1_ne (by omega)]; exact W.lv
  · rw [ys1_ne (by omega)]; exact W.f
  · rw [ys1_ne (by omega)]; exact W.sh
  · rw [ys1_ne (by omega)]; exact W.ac
  · rw [ys1_ne (by omega)]; exact W.fm
  · rw [ys1_ne (by omega)]; exact W.du
  · rw [ys1_ne (by omega)]; exact W.kd
  · rw [ys1_ne (by omega)]; exact W.pd
  · rw [ys1_ne (by omega)]; exact W.fr
  · rw [ys1_ne (by omega)]; exact W.tk
  · intro k hk
    show (t.sA (o + 7) (upd (t.A (o + 7)) p (yI q))).A (o + 7) k = upd D.og p (yI q) k
    rw [ysA_same]
    simp only [upd, W.og k hk]
  · rw [ys1_ne (by omega)]; exact W.fp
  · rw [ys1_ne (by omega)]; exact W.fl
theorem yW_du (W : yW t o D) : yW (t.s1 (o + 2) p v) o { D with du := upd D.du p v } := by
  refine ⟨yDok_du W.ok, W.oo, ?_, ?_, ?_, ?_, ?_, ?_, W.bp, ?_, ?_, ?_, ?_, ?_, ?_, ?_, ?_, ?_⟩
  · rw [ys1_ne (by omega)]; exact W.n
  · rw [ys1_ne (by omega)]; exact W.un
  · rw [ys1_ne (by omega)]; exact W.lv
  · rw [ys1_ne (by omega)]; exact W.f
  · rw [ys1_ne (by omega)]; exact W.sh
  · rw [ys1_ne (by omega)]; exact W.ac
  · rw [ys1_ne (by omega)]; exact W.fm
  · intro q hq
    show (t.sA (o + 2) (upd (t.A (o + 2)) p v)).A (o + 2) q = upd D.du p v q
    rw [ysA_same]
    simp only [upd, W.du q hq]
  · rw [ys1_ne (by omega)]; exact W.kd
  · rw [ys1_ne (by omega)]; exact W.pd
  · rw [ys1_ne (by omega)]; exact W.fr
  · rw [ys1_ne (by omega)]; exact W.tk
  · rw [ys1_ne (by omega)]; exact W.og
  · rw [ys1_ne (by omega)]; exact W.fp
  · rw [ys1_ne (by omega)]; exact W.fl
theorem yW_fm (W : yW t o D) : yW (t.s1 (o + 1) p v) o { D with fm := upd D.fm p v } := by
  refine ⟨yDok_fm W.ok, W.oo, ?_, ?_, ?_, ?_, ?_, ?_, W.bp, ?_, ?_, ?_, ?_, ?_, ?_, ?_, ?_, ?_⟩
  · rw [ys1_ne (by omega)]; exact W.n
  · rw [ys1_ne (by omega)]; exact W.un
  · rw [ys1_ne (by omega)]; exact W.lv
  · rw [ys1_ne (by omega)]; exact W.f
  · rw [ys1_ne (by omega)]; exact W.sh
  · rw [ys1_ne (by omega)]; exact W.ac
  · intro q hq
    show (t.sA (o + 1) (upd (t.A (o + 1)) p v)).A (o + 1) q = upd D.fm p v q
    rw [ysA_same]
    simp only [upd, W.fm q hq]
  · rw [ys1_ne (by omega)]; exact W.du
  · rw [ys1_ne (by omega)]; exact W.kd
  · rw [ys1_ne (by omega)]; exact W.pd
  · rw [ys1_ne (by omega)]; exact W.fr
  · rw [ys1_ne (by omega)]; exact W.tk
  · rw [ys1_ne (by omega)]; exact W.og
  · rw [ys1_ne (by omega)]; exact W.fp
  · rw [ys1_ne (by omega)]; exact W.fl
end
