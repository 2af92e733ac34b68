/-! ===== the model's setups: a statement ===== -/
theorem yrst_not {n : Nat} {B : Nat → Nat} {q i j : Nat} (hi : i < 14) (hj : j < 14) (hq : q ≤ n) (h : yisw n B q i = true) (hne : ywc i 0 ≠ ywc j 0) : yisw n B q j = false := by
  cases hx : yisw n B q j
  · rfl
  · have hi1 := (yw_ok i hi).1.1
    have hj1 := (yw_ok j hj).1.1
    have e1 := ((yisw_c hi hq).mp h).2.2 0 (by omega)
    have e2 := ((yisw_c hj hq).mp hx).2.2 0 (by omega)
    rw [e1] at e2
    exact absurd e2 hne
section
variable {d : Nat} {t : yT} {n : Nat} {B : Nat → Nat} {m q : Nat} {U : yU}
/-- the codes of a sum are the draft's curve -/
theorem yN_scv {S T : Nat → Int32} {D : yD} {l : List Int32} (N : yN S D) (h6 : D.f ≤ 6) (hl : 1 ≤ l.length) (J : yJs T l) (hs : ∀ j, j < 340 → j ≠ 7 → T j = if j = 6 then 1 else S j) : yN T (D.scv l.length (yg l)) := by
  have hS : ∀ j, j < 340 → j ≠ 6 → j ≠ 7 → T j = S j := fun j h1 h2 h3 => by rw [hs j h1 h3, if_neg h2]
  refine ⟨?_, ?_, ?_, ?_, ?_, ?_, ?_, J.2.1, ?_, ?_, ?_, ?_, ?_, ?_, ?_, ?_, ?_, ?_, ?_⟩
  · rw [hS 0 (by decide) (by decide) (by decide)]; exact N.n
  · rw [hS 1 (by decide) (by decide) (by decide)]; exact N.un
  · rw [hS 2 (by decide) (by decide) (by decide)]; exact N.lv
  · rw [hS 3 (by decide) (by decide) (by decide)]; exact N.f
  · rw [hS 4 (by decide) (by decide) (by decide)]; exact N.sh
  · rw [hS 5 (by decide) (by decide) (by decide)]; exact N.ac
  · rw [hs 6 (by decide) (by decide), if_pos rfl, yscv_cn, if_neg (by omega)]
  · intro p hp; rw [hS _ (by omega) (by omega) (by omega)]; exact N.kd p hp
  · intro p hp; rw [hS _ (by omega) (by omega) (by omega)]; exact N.pd p hp
  · intro p hp; rw [hS _ (by omega) (by omega) (by omega)]; exact N.fr p hp
  · intro p hp; rw [hS _ (by omega) (by omega) (by omega)]; exact N.tk p hp
  · intro p hp; rw [hS _ (by omega) (by omega) (by omega)]; exact N.du p hp
  · intro p hp; rw [hS _ (by omega) (by omega) (by omega)]; exact N.og p hp
  · intro p hp; rw [hS _ (by omega) (by omega) (by omega)]; exact N.fm p hp
  · intro p hp; rw [hS _ (by omega) (by omega) (by omega)]; exact N.bp p hp
  · intro g hg
    rw [yscv_f] at hg
    rw [hS _ (by omega) (by omega) (by omega)]
    exact N.fp g hg
  · intro g hg
    rw [yscv_f] at hg
    rw [hS _ (by omega) (by omega) (by omega)]
    exact N.fl g hg
  · exact J.2.2
end
