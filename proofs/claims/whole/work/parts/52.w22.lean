/-! ===== the model: single data are set ===== -/
theorem ys1_upd {t : yT} {a j : Nat} {v : Int32} : (t.s1 a j v).A a = upd (t.A a) j v := by
  simp [yT.s1, yT.sA]
section
variable {S : Nat → Int32} {D : yD} {p : Nat} {v : Int32}
theorem yM_fr (M : yM S D) (hp : p < 40) : yM (upd S (8 + 8 * p + 3) v) { D with fr := upd D.fr p v } := by
  refine ⟨yDok_fr M.ok, ?_, ?_, ?_, ?_, ?_, ?_, ?_, ?_, ?_, ?_, ?_, ?_, ?_, ?_, ?_, ?_⟩
  · rw [yupd_ne (by omega)]; exact M.n
  · rw [yupd_ne (by omega)]; exact M.un
  · rw [yupd_ne (by omega)]; exact M.lv
  · rw [yupd_ne (by omega)]; exact M.f
  · rw [yupd_ne (by omega)]; exact M.sh
  · rw [yupd_ne (by omega)]; exact M.ac
  · intro q hq; rw [yupd_ne (by omega)]; exact M.kd q hq
  · intro q hq; rw [yupd_ne (by omega)]; exact M.bp q hq
  · intro q hq; rw [yupd_ne (by omega)]; exact M.pd q hq
  · intro q hq
    by_cases e : q = p
    · subst e
      rw [yupd_same]
      show _ = upd D.fr q (v) q
      simp [upd]
    · rw [yupd_ne (by omega), M.fr q hq]
      show _ = upd D.fr p (v) q
      simp [upd, e]
  · intro q hq; rw [yupd_ne (by omega)]; exact M.tk q hq
  · intro q hq; rw [yupd_ne (by omega)]; exact M.du q hq
  · intro q hq; rw [yupd_ne (by omega)]; exact M.og q hq
  · intro q hq; rw [yupd_ne (by omega)]; exact M.fm q hq
  · intro g hg; rw [yupd_ne (by omega)]; exact M.fp g hg
  · intro g hg; rw [yupd_ne (by omega)]; exact M.fl g hg
theorem yM_tk (M : yM S D) (hp : p < 40) : yM (upd S (8 + 8 * p + 4) v) { D with tk := upd D.tk p v } := by
  refine ⟨yDok_tk M.ok, ?_, ?_, ?_, ?_, ?_, ?_, ?_, ?_, ?_, ?_, ?_, ?_, ?_, ?_, ?_, ?_⟩
  · rw [yupd_ne (by omega)]; exact M.n
  · rw [yupd_ne (by omega)]; exact M.un
  · rw [yupd_ne (by omega)]; exact M.lv
  · rw [yupd_ne (by omega)]; exact M.f
  · rw [yupd_ne (by omega)]; exact M.sh
  · rw [yupd_ne (by omega)]; exact M.ac
  · intro q hq; rw [yupd_ne (by omega)]; exact M.kd q hq
  · intro q hq; rw [yupd_ne (by omega)]; exact M.bp q hq
  · intro q hq; rw [yupd_ne (by omega)]; exact M.pd q hq
  · intro q hq; rw [yupd_ne (by omega)]; exact M.fr q hq
  · intro q hq
    by_cases e : q = p
    · subst e
      rw [yupd_same]
      show _ = upd D.tk q (v) q
      simp [upd]
    · rw [yupd_ne (by omega), M.tk q hq]
      show _ = upd D.tk p (v) q
      simp [upd, e]
  · intro q hq; rw [yupd_ne (by omega)]; exact M.du q hq
  · intro q hq; rw [yupd_ne (by omega)]; exact M.og q hq
  · intro q hq; rw [yupd_ne (by omega)]; exact M.fm q hq
  · intro g hg; rw [yupd_ne (by omega)]; exact M.fp g hg
  · intro g hg; rw [yupd_ne (by omega)]; exact M.fl g hg
theorem yM_du (M : yM S D) (hp : p < 40) : yM (upd S (8 + 8 * p + 5) v) { D with du := upd D.du p v } := by
  refine ⟨yDok_du M.ok, ?_, ?_, ?_, ?_, ?_, ?_, ?_, ?_, ?_, ?_, ?_, ?_, ?_, ?_, ?_, ?_⟩
  · rw [yupd_ne (by omega)]; exact M.n
  · rw [yupd_ne (by omega)]; exact M.un
  · rw [yupd_ne (by omega)]; exact M.lv
  · rw [yupd_ne (by omega)]; exact M.f
  · rw [yupd_ne (by omega)]; exact M.sh
  · rw [yupd_ne (by omega)]; exact M.ac
  · intro q hq; rw [yupd_ne (by omega)]; exact M.kd q hq
  · intro q hq; rw [yupd_ne (by omega)]; exact M.bp q hq
  · intro q hq; rw [yupd_ne (by omega)]; exact M.pd q hq
  · intro q hq; rw [yupd_ne (by omega)]; exact M.fr q hq
  · intro q hq; rw [yupd_ne (by omega)]; exact M.tk q hq
  · intro q hq
    by_cases e : q = p
    · subst e
      rw [yupd_same]
      show _ = upd D.du q (v) q
      simp [upd]
    · rw [yupd_ne (by omega), M.du q hq]
      show _ = upd D.du p (v) q
      simp [upd, e]
  · intro q hq; rw [yupd_ne (by omega)]; exact M.og q hq
  · intro q hq; rw [yupd_ne (by omega)]; exact M.fm q hq
  · intro g hg; rw [yupd_ne (by omega)]; exact M.fp g hg
  · intro g hg; rw [yupd_ne (by omega)]; exact M.fl g hg
theorem yM_fm (M : yM S D) (hp : p < 40) : yM (upd S (8 + 8 * p + 7) v) { D with fm := upd D.fm p v } := by
  refine ⟨yDok_fm M.ok, ?_, ?_, ?_, ?_, ?_, ?_, ?_, ?_, ?_, ?_, ?_, ?_, ?_, ?_, ?_, ?_⟩
  · rw [yupd_ne (by omega)]; exact M.n
  · rw [yupd_ne (by omega)]; exact M.un
  · rw [yupd_ne (by omega)]; exact M.lv
  · rw [yupd_ne (by omega)]; exact M.f
  · rw [yupd_ne (by omega)]; exact M.sh
  · rw [yupd_ne (by omega)]; exact M.ac
  · intro q hq; rw [yupd_ne (by omega)]; exact M.kd q hq
  · intro q hq; rw [yupd_ne (by omega)]; exact M.bp q hq
  · intro q hq; rw [yupd_ne (by omega)]; exact M.pd q hq
  · intro q hq; rw [yupd_ne (by omega)]; exact M.fr q hq
  · intro q hq; rw [yupd_ne (by omega)]; exact M.tk q hq
  · intro q hq; rw [yupd_ne (by omega)]; exact M.du q hq
  · intro q hq; rw [yupd_ne (by omega)]; exact M.og q hq
  · intro q hq
    by_cases e : q = p
    · subst e
      rw [yupd_same]
      show _ = upd D.fm q (v) q
      simp [upd]
    · rw [yupd_ne (by omega), M.fm q hq]
      show _ = upd D.fm p (v) q
      simp [upd, e]
  · intro g hg; rw [yupd_ne (by omega)]; exact M.fp g hg
  · intro g hg; rw [yupd_ne (by omega)]; exact M.fl g hg
theorem yM_og (M : yM S D) (hp : p < 40) {k : Nat} (hk : k < 40) : yM (upd S (8 + 8 * p + 6) (yI k)) { D with og := upd D.og p (yI k) } := by
  refine ⟨yDok_og M.ok hk, ?_, ?_, ?_, ?_, ?_, ?_, ?_, ?_, ?_, ?_, ?_, ?_, ?_, ?_, ?_, ?_⟩
  · rw [yupd_ne (by omega)]; exact M.n
  · rw [yupd_ne (by omega)]; exact M.un
  · rw [yupd_ne (by omega)]; exact M.lv
  · rw [yupd_ne (by omega)]; exact M.f
  · rw [yupd_ne (by omega)]; exact M.sh
  · rw [yupd_ne (by omega)]; exact M.ac
  · intro q hq; rw [yupd_ne (by omega)]; exact M.kd q hq
  · intro q hq; rw [yupd_ne (by omega)]; exact M.bp q hq
  · intro q hq; rw [yupd_ne (by omega)]; exact M.pd q hq
  · intro q hq; rw [yupd_ne (by omega)]; exact M.fr q hq
  · intro q hq; rw [yupd_ne (by omega)]; exact M.tk q hq
  · intro q hq; rw [yupd_ne (by omega)]; exact M.du q hq
  · intro q hq
    by_cases e : q = p
    · subst e
      rw [yupd_same]
      show _ = upd D.og q ((yI k)) q
      simp [upd]
    · rw [yupd_ne (by omega), M.og q hq]
      show _ = upd D.og p ((yI k)) q
      simp [upd, e]
  · intro q hq; rw [yupd_ne (by omega)]; exact M.fm q hq
  · intro g hg; rw [yupd_ne (by omega)]; exact M.fp g hg
  · intro g hg; rw [yupd_ne (by omega)]; exact M.fl g hg
end
