/-! ===== the draft: a curve, a new strip; rows of curves grow ===== -/
def yD.scv (D : yD) (n : Nat) (g : Nat → Int32) : yD := (D.n, (D.f, (D.un, (D.lv, (D.sh, (D.ac, (D.bw, (D.kd, (D.pd, (D.fr, (D.tk, (D.du, (D.og, (D.fm, (D.fp, (D.fl, (n, g)))))))))))))))))
section
variable {D : yD} {n : Nat} {g : Nat → Int32}
theorem yscv_n : (D.scv n g).n = D.n := rfl
theorem yscv_f : (D.scv n g).f = D.f := rfl
theorem yscv_un : (D.scv n g).un = D.un := rfl
theorem yscv_lv : (D.scv n g).lv = D.lv := rfl
theorem yscv_sh : (D.scv n g).sh = D.sh := rfl
theorem yscv_ac : (D.scv n g).ac = D.ac := rfl
theorem yscv_bw : (D.scv n g).bw = D.bw := rfl
theorem yscv_kd : (D.scv n g).kd = D.kd := rfl
theorem yscv_pd : (D.scv n g).pd = D.pd := rfl
theorem yscv_fr : (D.scv n g).fr = D.fr := rfl
theorem yscv_tk : (D.scv n g).tk = D.tk := rfl
theorem yscv_du : (D.scv n g).du = D.du := rfl
theorem yscv_og : (D.scv n g).og = D.og := rfl
theorem yscv_fm : (D.scv n g).fm = D.fm := rfl
theorem yscv_fp : (D.scv n g).fp = D.fp := rfl
theorem yscv_fl : (D.scv n g).fl = D.fl := rfl
theorem yscv_cn : (D.scv n g).cn = n := rfl
theorem yscv_cg : (D.scv n g).cg = g := rfl
theorem yscv_bp : (D.scv n g).bp = D.bp := rfl
theorem yDok_scv (h : yDok D) (hc : yCok n g) : yDok (D.scv n g) :=
  ⟨h.n1, h.n40, h.f1, h.f6, h.fp0, h.fpm, h.fpn, h.ogm, h.fll, h.unu, h.lvv, h.bwn, h.kdk, h.pdp, h.bad, hc⟩
theorem yV_scv {t : yT} {o r : Nat} (W : yV t o D) (h1 : yla r = .no ∧ r < 900000) (h2 : t.K r = ycv n g) : yV (t.sR o r) o (D.scv n g) := by
  refine ⟨W.oo, ?_, ?_, ?_, ?_, ?_, ?_, ?_, ?_, ?_, ?_, ?_, ?_, ?_, ?_, ?_, ?_, ?_, ?_⟩
  · exact W.n
  · exact W.un
  · exact W.lv
  · exact W.f
  · exact W.sh
  · exact W.ac
  · exact W.bw
  · rw [ysR_R, if_pos rfl]; exact h1
  · rw [ysR_R, if_pos rfl]; exact h2
  · exact W.fm
  · exact W.du
  · exact W.kd
  · exact W.pd
  · exact W.fr
  · exact W.tk
  · exact W.og
  · exact W.fp
  · exact W.fl
end
/-- a new strip of n pixels, unit m -/
def yD0 (n m : Nat) : yD := (n, (1, ((yI m), (255, (0, (0, (0, ((fun _ => 0), ((fun _ => 0), ((fun _ => 0), ((fun _ => 0), ((fun _ => 0), ((fun _ => -1), ((fun _ => 0), ((fun _ => 0), ((fun _ => 9999), (0, (fun _ => 0))))))))))))))))))
section
variable {n m : Nat}
theorem yD0_n : (yD0 n m).n = (n) := rfl
theorem yD0_f : (yD0 n m).f = (1) := rfl
theorem yD0_un : (yD0 n m).un = (yI m) := rfl
theorem yD0_lv : (yD0 n m).lv = (255) := rfl
theorem yD0_sh : (yD0 n m).sh = (0) := rfl
theorem yD0_ac : (yD0 n m).ac = (0) := rfl
theorem yD0_bw : (yD0 n m).bw = (0) := rfl
theorem yD0_kd : (yD0 n m).kd = (fun _ => 0) := rfl
theorem yD0_pd : (yD0 n m).pd = (fun _ => 0) := rfl
theorem yD0_fr : (yD0 n m).fr = (fun _ => 0) := rfl
theorem yD0_tk : (yD0 n m).tk = (fun _ => 0) := rfl
theorem yD0_du : (yD0 n m).du = (fun _ => 0) := rfl
theorem yD0_og : (yD0 n m).og = (fun _ => -1) := rfl
theorem yD0_fm : (yD0 n m).fm = (fun _ => 0) := rfl
theorem yD0_fp : (yD0 n m).fp = (fun _ => 0) := rfl
theorem yD0_fl : (yD0 n m).fl = (fun _ => 9999) := rfl
theorem yD0_cn : (yD0 n m).cn = (0) := rfl
theorem yD0_cg : (yD0 n m).cg = (fun _ => 0) := rfl
theorem yodd_0 : ∀ n, yodd (fun _ => 0) n = 0 := by
  intro n
  apply Nat.eq_of_testBit_eq
  intro i
  rw [yodd_bit, Nat.zero_testBit]
  simp
theorem ybad_0 : ∀ n, ybad (fun _ => 0) n = 0 := by
  intro n
  induction n with
  | zero => rfl
  | succ n ih => rw [ybad, ih, if_pos rfl]
theorem yD0_ok (h1 : 1 ≤ n) (h2 : n ≤ 40) (h3 : 1 ≤ m) (h4 : m ≤ 100) : yDok (yD0 n m) := by
  refine ⟨h1, h2, ?_, ?_, rfl, ?_, ?_, ?_, ?_, ⟨m, ⟨h3, h4⟩, rfl⟩, ⟨255, by decide, rfl⟩, ?_, ?_, ?_, ?_, ?_⟩
  · rw [yD0_f]; decide
  · rw [yD0_f]; decide
  · intro g hg
    rw [yD0_f] at hg
    omega
  · intro g hg
    rw [yD0_fp, yD0_n]
    exact h1
  · intro p _
    rw [yD0_og]
    exact Or.inl rfl
  · intro g _
    exact ⟨9999, by decide, rfl⟩
  · rw [yD0_bw, yD0_n]
    exact Nat.pow_pos (by decide)
  · intro p _
    rw [yD0_kd]
    exact Or.inl rfl
  · intro p _ h
    rw [yD0_kd] at h
    exact absurd (show (0 : Int32) = 3 from h) (by decide)
  · rw [yD0_kd, yD0_n, ybad_0]
    decide
  · rw [yD0_cn]
    exact ⟨by decide, Or.inl rfl, fun i hi => absurd hi (Nat.not_lt_zero _)⟩
end
/-- as yFr, but rows of curves may come -/
abbrev yFg (P : Nat → Prop) (t u : yT) : Prop := (∀ a, ¬ P a → u.A a = t.A a ∧ (u.L a = t.L a ∧ u.R a = t.R a)) ∧ ((∀ r, t.K r ≠ none → u.K r = t.K r) ∧ u.z.2 = t.z.2)
section
variable {P P' P'' : Nat → Prop} {t u v : yT}
theorem yFg_fr (F : yFr P t u) : yFg P t u := ⟨F.1, fun r _ => by rw [F.K], by rw [F.z]⟩
theorem yFg_rfl : yFg P t t := ⟨fun _ _ => ⟨rfl, rfl, rfl⟩, fun _ _ => rfl, rfl⟩
theorem yFg.A (F : yFg P t u) {a : Nat} (h : ¬ P a) : u.A a = t.A a := (F.1 a h).1
theorem yFg.L (F : yFg P t u) {a : Nat} (h : ¬ P a) : u.L a = t.L a := (F.1 a h).2.1
theorem yFg.R (F : yFg P t u) {a : Nat} (h : ¬ P a) : u.R a = t.R a := (F.1 a h).2.2
theorem yFg.trans (F : yFg P t u) (F' : yFg P' u v) (hp : ∀ a, P a ∨ P' a → P'' a) : yFg P'' t v := by
  refine ⟨fun a ha => ?_, fun r hr => ?_, F'.2.2.trans F.2.2⟩
  · have h1 : ¬ P a := fun q => ha (hp a (Or.inl q))
    have h2 : ¬ P' a := fun q => ha (hp a (Or.inr q))
    exact ⟨(F'.A h2).trans (F.A h1), (F'.L h2).trans (F.L h1), (F'.R h2).trans (F.R h1)⟩
  · have h := F.2.1 r hr
    rw [F'.2.1 r (by rw [h]; exact hr), h]
theorem yFg.mono (F : yFg P t u) (hp : ∀ a, P a → P' a) : yFg P' t u := ⟨fun a ha => F.1 a (fun q => ha (hp a q)), F.2⟩
theorem yFg_al (Z : yZ t) {n : Nat} {f : Nat → Int32} : yFg P t (t.al n f) := by
  refine ⟨fun _ _ => ⟨rfl, rfl, rfl⟩, fun r hr => ?_, rfl⟩
  rw [yal_K, if_neg (fun e => hr (by rw [e]; exact Z.2 _ (Nat.le_refl _)))]
theorem yZ_al (Z : yZ t) {n : Nat} {f : Nat → Int32} : yZ (t.al n f) := by
  have h1 := Z.1
  refine ⟨?_, fun r hr => ?_⟩
  · show 160 ≤ t.z.1.1 + 1
    omega
  · have h2 : t.z.1.1 + 1 ≤ r := hr
    rw [yal_K, if_neg (by omega)]
    exact Z.2 r (by omega)
theorem yZ_fr (Z : yZ t) (F : yFr P t u) : yZ u := by
  refine ⟨by rw [F.z]; exact Z.1, fun r hr => ?_⟩
  rw [F.z] at hr
  rw [F.K]
  exact Z.2 r hr
theorem yV_g {o : Nat} {D : yD} (V : yV t o D) (F : yFg P t u) (hP : ∀ a, o ≤ a → a ≤ o + 9 → ¬ P a) : yV u o D :=
  yV_of V (fun a h1 h2 => F.A (hP a h1 h2)) (F.L (hP o (by omega) (by omega))) (F.R (hP o (by omega) (by omega))) (F.2.1 _ (by rw [V.cv]; exact fun h => by cases h))
theorem yW_g {o : Nat} {D : yD} (W : yW t o D) (F : yFg P t u) (hP : ∀ a, o ≤ a → a ≤ o + 9 → ¬ P a) : yW u o D := ⟨W.ok, yV_g W.v F hP⟩
theorem yCI_g {D : yD} {k : Nat} {E : Nat → yD} {s0 s1 : Option yD} {n n' : Nat} {B B' : Nat → Nat} {eo en : Int32} (C : yCI t D k E s0 s1 n B eo en) (F : yFg P t u) (hP : ∀ a, P a → a = 1 ∨ (17 ≤ a ∧ a ≤ 37)) (T : yT1 u n' B') : yCI u D k E s0 s1 n' B' eo en := by
  obtain ⟨W, ⟨w, H0, ⟨H1, H2⟩, H3⟩, ⟨⟨a1, a2⟩, a3, a4⟩, -, c1, c2⟩ := C
  have n0 : ¬ P 0 := fun h => by have := hP 0 h; omega
  have n38 : ¬ P 38 := fun h => by have := hP 38 h; omega
  refine ⟨yW_g W F (fun a g1 g2 g3 => by have := hP a g3; omega), ⟨w, H0, ⟨?_, ?_⟩, fun j hj => yW_g (H3 j hj) F (fun a g1 g2 g3 => ?_)⟩, ⟨⟨?_, ?_⟩, fun X hX => yW_g (a3 X hX) F (fun a g1 g2 g3 => ?_), fun X hX => yW_g (a4 X hX) F (fun a g1 g2 g3 => ?_)⟩, T, ?_, ?_⟩
  · rw [F.A n38]; exact H1
  · rw [F.A n38]; exact H2
  · have := hP a g3
    omega
  · rw [F.A n0]; exact a1
  · rw [F.A n0]; exact a2
  · have := hP a g3
    omega
  · have := hP a g3
    omega
  · rw [F.A n0]; exact c1
  · rw [F.A n0]; exact c2
end
theorem yemb_wK {t : yT} {n : Nat} {f f' : Nat → Int32} (h : yla t.z.1.1 = .no) : xwr (yemb (t.al n f)) t.z.1.1 (.inl (0, (n, .inl f'))) = yemb (t.al n f') := by
  unfold xwr yemb
  refine Prod.ext ?_ rfl
  funext b
  show (if b = t.z.1.1 then _ else ycellT (t.al n f) b) = ycellT (t.al n f') b
  split
  · rename_i hb
    subst hb
    unfold ycellT
    rw [h]
    simp [yal_K]
  · rename_i hb
    unfold ycellT
    split <;> simp [yal_A, yal_L, yal_R, yal_K, hb]
    all_goals exact yfds_ext _ (fun s hq => rfl) (fun s hq => rfl) (fun s hq => rfl)
theorem gs_copyK {d k i : Nat} {pc m : Nat} {n b : Nat} {y : Int} {ls : xL} {r : List Value} {t : yT} {Q : xR → xS → Prop} (hf : ft k i = some (pc, .invokestatic m, [0, 5, 21, y])) (hn : n < 2147483648) (hz : t.z.1.1 < 900000) (hl : yla t.z.1.1 = .no) (hb : yA 0 b) (h1 : n ≤ yn b) (hr : xcat r ≤ 8) : G d k i ls (.int (yI n) :: .int 0 :: .ref t.z.1.1 :: .int 0 :: .ref b :: r) (yemb (t.al n (fun _ => 0))) Q ↔ G d k (i + 1) ls r (yemb (t.al n (va_cpy (t.A b) (fun _ => 0) 0 0 n))) Q := by
  refine gs_go hf ?_
  have ea : (yemb (t.al n (fun _ => 0))).1 t.z.1.1 = some (.inl (0, (n, .inl (fun _ => 0)))) := by
    show ycellT _ _ = _
    unfold ycellT
    rw [hl]
    show (t.al n (fun _ => 0)).K t.z.1.1 = _
    rw [yal_K, if_pos rfl]
  show xcopy i ls (.int (yI n) :: .int 0 :: .ref t.z.1.1 :: .int 0 :: .ref b :: r) (yemb (t.al n (fun _ => 0))) = _
  unfold xcopy
  simp only [yrd_lt hb.2, yemb_arr hb, ea, if_pos (show t.z.1.1 < 1000000 by omega)]
  have e0 : (0 : Int32).toNatClampNeg = 0 := rfl
  rw [yI_clamp hn, e0, if_pos ⟨trivial, Or.inl ⟨trivial, hb.2⟩, by decide, by decide, yI_nneg hn, by omega, by omega, hr, Or.inl trivial⟩, yal_A, yemb_wK hl]
