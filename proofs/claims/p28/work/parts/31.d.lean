/-! ===== more steps: lengths, curves, rows of rows, new rows ===== -/
/-- a curve's row -/
abbrev ycv (n : Nat) (g : Nat → Int32) : Option xE := some (.inl (0, (n, .inl g)))
abbrev yK (t : yT) (a n : Nat) (g : Nat → Int32) : Prop := yla a = .no ∧ a < 900000 ∧ t.K a = ycv n g
theorem yrd_K {t : yT} {a n : Nat} {g : Nat → Int32} (h : yK t a n g) : xRd (yemb t) a = some (.inl (0, (n, .inl g))) := by
  rw [yrd_lt (by have := h.2.1; omega)]
  show ycellT t a = _
  unfold ycellT
  rw [h.1]
  exact h.2.2
section
variable {d k i : Nat} {pc : Nat} {a n m : Nat} {aux : List Int} {ls : xL} {r : List Value} {t : yT} {Q : xR → xS → Prop} {g : Nat → Int32}
theorem gs_lenK (hf : ft k i = some (pc, .arraylength, aux)) (h : yK t a n g) : G d k i ls (.ref a :: r) (yemb t) Q ↔ G d k (i + 1) ls (.int (yI n) :: r) (yemb t) Q := by
  refine gs_go hf ?_
  show (match xRd (yemb t) a with
      | some (.inl (t', (n, _))) => if t' = 0 ∨ t' = 1 ∨ (4 ≤ t' ∧ t' ≤ 8 ∧ a < 1000000) then xgo (i + 1) ls (.int (Int32.ofNat n) :: r) (yemb t) else none
      | _ => none) = _
  rw [yrd_K h]
  simp
theorem gs_len (hf : ft k i = some (pc, .arraylength, aux)) (h : yA 0 a) : G d k i ls (.ref a :: r) (yemb t) Q ↔ G d k (i + 1) ls (.int (yI (yn a)) :: r) (yemb t) Q := by
  refine gs_go hf ?_
  show (match xRd (yemb t) a with
      | some (.inl (t', (n, _))) => if t' = 0 ∨ t' = 1 ∨ (4 ≤ t' ∧ t' ≤ 8 ∧ a < 1000000) then xgo (i + 1) ls (.int (Int32.ofNat n) :: r) (yemb t) else none
      | _ => none) = _
  rw [yrd_lt h.2, yemb_arr h]
  simp
theorem gs_ialdK {x : Int32} (hf : ft k i = some (pc, .iaload, aux)) (h : yK t a n g) : G d k i ls (.int x :: .ref a :: r) (yemb t) Q ↔ yix x n ∧ G d k (i + 1) ls (.int (g x.toNatClampNeg) :: r) (yemb t) Q := by
  rw [G_eq hf]
  show Gs d k i ls (yemb t) Q (xaldI 0 i ls (.int x :: .ref a :: r) (yemb t)) ↔ _
  unfold xaldI yix
  simp only [yrd_K h, true_and]
  split <;> rename_i h <;> simp only [Gs, h, true_and, not_true_eq_false, false_and, not_false_eq_true]
theorem gs_aald {x : Int32} {f : Nat → Option Nat} {b : Nat} (hf : ft k i = some (pc, .aaload, aux)) {c : Nat} (hc : c = 4 ∨ c = 5) (ha : yla a = .refs c n f) (h1 : a < 1000000) (hx : yix x n) (hb : f x.toNatClampNeg = some b) (h2 : b < 1000000) : G d k i ls (.int x :: .ref a :: r) (yemb t) Q ↔ G d k (i + 1) ls (.ref b :: r) (yemb t) Q := by
  refine gs_go hf ?_
  have e : (yemb t).1 a = some (.inl (c, (n, .inr (.inr (.inr (.inr f)))))) := by
    show ycellT t a = _
    unfold ycellT
    rw [ha]
  show xaldA i ls (.int x :: .ref a :: r) (yemb t) = _
  unfold xaldA
  simp only [yrd_lt h1, e]
  rw [if_pos ⟨Or.inl ⟨by omega, by omega, h1⟩, hx⟩]
  simp only [hb]
  rw [if_pos (Or.inl h2)]
/-- a new row of ints -/
theorem gs_new {x : Int32} {u : _} (hf : ft k i = some (pc, .newarray u, [0])) (hn : ¬ x < 0) (hm : x.toNatClampNeg ≤ 100000) (hz : t.z.1.1 < 900000) (hl : yla t.z.1.1 = .no) : G d k i ls (.int x :: r) (yemb t) Q ↔ G d k (i + 1) ls (.ref t.z.1.1 :: r) (yemb (t.al x.toNatClampNeg (fun _ => 0))) Q := by
  refine gs_go hf ?_
  show (if ¬ x < 0 ∧ x.toNatClampNeg ≤ 100000 then xalloc i ls r (yemb t) (.inl ((0 : Int).toNat, xzero (0 : Int).toNat x.toNatClampNeg)) x.toNatClampNeg else none) = _
  rw [if_pos ⟨hn, hm⟩]
  unfold xalloc
  rw [if_pos (show (yemb t).2.1.1 < 900000 from hz)]
  rw [← yemb_al hl]
  rfl
end
/-! ===== strips: small methods ===== -/
theorem yen {as : List Value} {n : Nat} : xentry as n = xargs as ++ List.replicate (n - (xargs as).length) none := rfl
/-- whether a set holds a pixel -/
def yin (s : Int64) (j : Int32) : Bool := (s.toUInt64 >>> (j.toInt64.toUInt64 &&& Int64.toUInt64 63)).toInt64 &&& 1 != 0
def yb (b : Bool) : Int32 := if b then 1 else 0
theorem ybo_0 : ybo 0 := rfl
theorem ybo_1 : ybo 1 := rfl
theorem ybo_b {b : Bool} : ybo (yb b) := by cases b <;> rfl
theorem lg_cmp0 {x : Int64} : lg_cmp x 0 = 0 ↔ x = 0 := by
  unfold lg_cmp
  split
  · rename_i h
    constructor
    · intro h1
      cases h1
    · intro h1
      subst h1
      cases h
  · split
    · rename_i h
      simp [h]
    · rename_i h
      constructor
      · intro h1
        cases h1
      · intro h1
        exact absurd h1 h
/-! ===== sets of pixels as longs ===== -/
theorem yL_nat {w : Nat} (hw : w < 2 ^ 63) : (Int64.ofNat w).toUInt64.toNat = w := by
  show (BitVec.ofNat 64 w).toNat = w
  rw [BitVec.toNat_ofNat, Nat.mod_eq_of_lt (by omega)]
theorem yI_L {p : Nat} (hp : p < 2147483648) : (yI p).toInt64.toUInt64.toNat = p := by
  have h : (yI p).toInt64 = Int64.ofNat p := by
    apply Int64.toInt_inj.mp
    have hs : (Int64.size : Nat) = 18446744073709551616 := rfl
    rw [Int32.toInt_toInt64, yI_toInt hp, Int64.toInt_ofNat']
    rw [Int.bmod_eq_of_le] <;> omega
  rw [h, yL_nat (by omega)]
theorem yin_nat {w p : Nat} (hw : w < 2 ^ 63) (hp : p < 63) : yin (Int64.ofNat w) (yI p) = w.testBit p := by
  have e1 : ((yI p).toInt64.toUInt64 &&& Int64.toUInt64 63).toNat = p := by
    rw [UInt64.toNat_and, yI_L (by omega)]
    show p &&& (2 ^ 6 - 1) = p
    rw [Nat.and_two_pow_sub_one_eq_mod, Nat.mod_eq_of_lt (by omega)]
  have e2 : ((Int64.ofNat w).toUInt64 >>> ((yI p).toInt64.toUInt64 &&& Int64.toUInt64 63)).toNat = w >>> p := by
    rw [UInt64.toNat_shiftRight, e1, yL_nat hw, Nat.mod_eq_of_lt (by omega)]
  unfold yin
  have e3 : ∀ x : UInt64, (x.toInt64 &&& 1 != 0) = x.toNat.testBit 0 := by
    intro x
    have h : (x.toInt64 &&& 1) = (x &&& 1).toInt64 := rfl
    have h2 : ((x &&& 1).toInt64 = 0) ↔ x.toNat % 2 = 0 := by
      have h3 : (x &&& 1).toNat = x.toNat % 2 := by
        rw [UInt64.toNat_and]
        exact Nat.and_one_is_mod _
      constructor
      · intro h4
        have h5 : x &&& 1 = 0 := by
          exact congrArg Int64.toUInt64 h4
        rw [← h3, h5]
        rfl
      · intro h4
        have h5 : x &&& 1 = 0 := by
          apply UInt64.toNat_inj.mp
          rw [h3, h4]
          rfl
        rw [h5]
        rfl
    rw [h, Nat.testBit_zero]
    by_cases h4 : x.toNat % 2 = 0
    · rw [h2.mpr h4, h4]
      rfl
    · have h5 : x.toNat % 2 = 1 := by omega
      have h6 : ((x &&& 1).toInt64 != 0) = true := bne_iff_ne.mpr (fun q => h4 (h2.mp q))
      rw [h6, h5]
      rfl
  rw [e3, e2, Nat.testBit_zero, Nat.testBit, Nat.one_and_eq_mod_two]
  by_cases h : w >>> p % 2 = 0
  · simp [h]
  · have : w >>> p % 2 = 1 := by omega
    simp [this]
abbrev yD : Type := (Nat) × ((Nat) × ((Int32) × ((Int32) × ((Int32) × ((Int32) × ((Nat) × ((Nat → Int32) × ((Nat → Int32) × ((Nat → Int32) × ((Nat → Int32) × ((Nat → Int32) × ((Nat → Int32) × ((Nat → Int32) × ((Nat → Nat) × ((Nat → Int32) × ((Nat) × ((Nat → Int32))))))))))))))))))
def yD.n (D : yD) : Nat := D.1
def yD.f (D : yD) : Nat := D.2.1
def yD.un (D : yD) : Int32 := D.2.2.1
def yD.lv (D : yD) : Int32 := D.2.2.2.1
def yD.sh (D : yD) : Int32 := D.2.2.2.2.1
def yD.ac (D : yD) : Int32 := D.2.2.2.2.2.1
def yD.bw (D : yD) : Nat := D.2.2.2.2.2.2.1
def yD.kd (D : yD) : Nat → Int32 := D.2.2.2.2.2.2.2.1
def yD.pd (D : yD) : Nat → Int32 := D.2.2.2.2.2.2.2.2.1
def yD.fr (D : yD) : Nat → Int32 := D.2.2.2.2.2.2.2.2.2.1
def yD.tk (D : yD) : Nat → Int32 := D.2.2.2.2.2.2.2.2.2.2.1
def yD.du (D : yD) : Nat → Int32 := D.2.2.2.2.2.2.2.2.2.2.2.1
def yD.og (D : yD) : Nat → Int32 := D.2.2.2.2.2.2.2.2.2.2.2.2.1
def yD.fm (D : yD) : Nat → Int32 := D.2.2.2.2.2.2.2.2.2.2.2.2.2.1
def yD.fp (D : yD) : Nat → Nat := D.2.2.2.2.2.2.2.2.2.2.2.2.2.2.1
def yD.fl (D : yD) : Nat → Int32 := D.2.2.2.2.2.2.2.2.2.2.2.2.2.2.2.1
def yD.cn (D : yD) : Nat := D.2.2.2.2.2.2.2.2.2.2.2.2.2.2.2.2.1
def yD.cg (D : yD) : Nat → Int32 := D.2.2.2.2.2.2.2.2.2.2.2.2.2.2.2.2.2
def yD.sn (D : yD) (v : Nat) : yD := (v, (D.f, (D.un, (D.lv, (D.sh, (D.ac, (D.bw, (D.kd, (D.pd, (D.fr, (D.tk, (D.du, (D.og, (D.fm, (D.fp, (D.fl, (D.cn, D.cg)))))))))))))))))
def yD.sf (D : yD) (v : Nat) : yD := (D.n, (v, (D.un, (D.lv, (D.sh, (D.ac, (D.bw, (D.kd, (D.pd, (D.fr, (D.tk, (D.du, (D.og, (D.fm, (D.fp, (D.fl, (D.cn, D.cg)))))))))))))))))
def yD.sun (D : yD) (v : Int32) : yD := (D.n, (D.f, (v, (D.lv, (D.sh, (D.ac, (D.bw, (D.kd, (D.pd, (D.fr, (D.tk, (D.du, (D.og, (D.fm, (D.fp, (D.fl, (D.cn, D.cg)))))))))))))))))
def yD.slv (D : yD) (v : Int32) : yD := (D.n, (D.f, (D.un, (v, (D.sh, (D.ac, (D.bw, (D.kd, (D.pd, (D.fr, (D.tk, (D.du, (D.og, (D.fm, (D.fp, (D.fl, (D.cn, D.cg)))))))))))))))))
def yD.ssh (D : yD) (v : Int32) : yD := (D.n, (D.f, (D.un, (D.lv, (v, (D.ac, (D.bw, (D.kd, (D.pd, (D.fr, (D.tk, (D.du, (D.og, (D.fm, (D.fp, (D.fl, (D.cn, D.cg)))))))))))))))))
def yD.sac (D : yD) (v : Int32) : yD := (D.n, (D.f, (D.un, (D.lv, (D.sh, (v, (D.bw, (D.kd, (D.pd, (D.fr, (D.tk, (D.du, (D.og, (D.fm, (D.fp, (D.fl, (D.cn, D.cg)))))))))))))))))
def yD.sbw (D : yD) (v : Nat) : yD := (D.n, (D.f, (D.un, (D.lv, (D.sh, (D.ac, (v, (D.kd, (D.pd, (D.fr, (D.tk, (D.du, (D.og, (D.fm, (D.fp, (D.fl, (D.cn, D.cg)))))))))))))))))
def yD.skd (D : yD) (v : Nat → Int32) : yD := (D.n, (D.f, (D.un, (D.lv, (D.sh, (D.ac, (D.bw, (v, (D.pd, (D.fr, (D.tk, (D.du, (D.og, (D.fm, (D.fp, (D.fl, (D.cn, D.cg)))))))))))))))))
def yD.spd (D : yD) (v : Nat → Int32) : yD := (D.n, (D.f, (D.un, (D.lv, (D.sh, (D.ac, (D.bw, (D.kd, (v, (D.fr, (D.tk, (D.du, (D.og, (D.fm, (D.fp, (D.fl, (D.cn, D.cg)))))))))))))))))
def yD.sfr (D : yD) (v : Nat → Int32) : yD := (D.n, (D.f, (D.un, (D.lv, (D.sh, (D.ac, (D.bw, (D.kd, (D.pd, (v, (D.tk, (D.du, (D.og, (D.fm, (D.fp, (D.fl, (D.cn, D.cg)))))))))))))))))
def yD.stk (D : yD) (v : Nat → Int32) : yD := (D.n, (D.f, (D.un, (D.lv, (D.sh, (D.ac, (D.bw, (D.kd, (D.pd, (D.fr, (v, (D.du, (D.og, (D.fm, (D.fp, (D.fl, (D.cn, D.cg)))))))))))))))))
def yD.sdu (D : yD) (v : Nat → Int32) : yD := (D.n, (D.f, (D.un, (D.lv, (D.sh, (D.ac, (D.bw, (D.kd, (D.pd, (D.fr, (D.tk, (v, (D.og, (D.fm, (D.fp, (D.fl, (D.cn, D.cg)))))))))))))))))
def yD.sog (D : yD) (v : Nat → Int32) : yD := (D.n, (D.f, (D.un, (D.lv, (D.sh, (D.ac, (D.bw, (D.kd, (D.pd, (D.fr, (D.tk, (D.du, (v, (D.fm, (D.fp, (D.fl, (D.cn, D.cg)))))))))))))))))
def yD.sfm (D : yD) (v : Nat → Int32) : yD := (D.n, (D.f, (D.un, (D.lv, (D.sh, (D.ac, (D.bw, (D.kd, (D.pd, (D.fr, (D.tk, (D.du, (D.og, (v, (D.fp, (D.fl, (D.cn, D.cg)))))))))))))))))
def yD.sfp (D : yD) (v : Nat → Nat) : yD := (D.n, (D.f, (D.un, (D.lv, (D.sh, (D.ac, (D.bw, (D.kd, (D.pd, (D.fr, (D.tk, (D.du, (D.og, (D.fm, (v, (D.fl, (D.cn, D.cg)))))))))))))))))
def yD.sfl (D : yD) (v : Nat → Int32) : yD := (D.n, (D.f, (D.un, (D.lv, (D.sh, (D.ac, (D.bw, (D.kd, (D.pd, (D.fr, (D.tk, (D.du, (D.og, (D.fm, (D.fp, (v, (D.cn, D.cg)))))))))))))))))
def yD.scn (D : yD) (v : Nat) : yD := (D.n, (D.f, (D.un, (D.lv, (D.sh, (D.ac, (D.bw, (D.kd, (D.pd, (D.fr, (D.tk, (D.du, (D.og, (D.fm, (D.fp, (D.fl, (v, D.cg)))))))))))))))))
def yD.scg (D : yD) (v : Nat → Int32) : yD := (D.n, (D.f, (D.un, (D.lv, (D.sh, (D.ac, (D.bw, (D.kd, (D.pd, (D.fr, (D.tk, (D.du, (D.og, (D.fm, (D.fp, (D.fl, (D.cn, v)))))))))))))))))
section
variable {D : yD}
theorem ysn_n {v : Nat} : (D.sn v).n = v := rfl
theorem ysn_f {v : Nat} : (D.sn v).f = D.f := rfl
theorem ysn_un {v : Nat} : (D.sn v).un = D.un := rfl
theorem ysn_lv {v : Nat} : (D.sn v).lv = D.lv := rfl
theorem ysn_sh {v : Nat} : (D.sn v).sh = D.sh := rfl
theorem ysn_ac {v : Nat} : (D.sn v).ac = D.ac := rfl
theorem ysn_bw {v : Nat} : (D.sn v).bw = D.bw := rfl
theorem ysn_kd {v : Nat} : (D.sn v).kd = D.kd := rfl
theorem ysn_pd {v : Nat} : (D.sn v).pd = D.pd := rfl
theorem ysn_fr {v : Nat} : (D.sn v).fr = D.fr := rfl
theorem ysn_tk {v : Nat} : (D.sn v).tk = D.tk := rfl
theorem ysn_du {v : Nat} : (D.sn v).du = D.du := rfl
theorem ysn_og {v : Nat} : (D.sn v).og = D.og := rfl
theorem ysn_fm {v : Nat} : (D.sn v).fm = D.fm := rfl
theorem ysn_fp {v : Nat} : (D.sn v).fp = D.fp := rfl
theorem ysn_fl {v : Nat} : (D.sn v).fl = D.fl := rfl
theorem ysn_cn {v : Nat} : (D.sn v).cn = D.cn := rfl
theorem ysn_cg {v : Nat} : (D.sn v).cg = D.cg := rfl
theorem ysf_n {v : Nat} : (D.sf v).n = D.n := rfl
theorem ysf_f {v : Nat} : (D.sf v).f = v := rfl
theorem ysf_un {v : Nat} : (D.sf v).un = D.un := rfl
theorem ysf_lv {v : Nat} : (D.sf v).lv = D.lv := rfl
theorem ysf_sh {v : Nat} : (D.sf v).sh = D.sh := rfl
theorem ysf_ac {v : Nat} : (D.sf v).ac = D.ac := rfl
theorem ysf_bw {v : Nat} : (D.sf v).bw = D.bw := rfl
theorem ysf_kd {v : Nat} : (D.sf v).kd = D.kd := rfl
theorem ysf_pd {v : Nat} : (D.sf v).pd = D.pd := rfl
theorem ysf_fr {v : Nat} : (D.sf v).fr = D.fr := rfl
theorem ysf_tk {v : Nat} : (D.sf v).tk = D.tk := rfl
theorem ysf_du {v : Nat} : (D.sf v).du = D.du := rfl
theorem ysf_og {v : Nat} : (D.sf v).og = D.og := rfl
theorem ysf_fm {v : Nat} : (D.sf v).fm = D.fm := rfl
theorem ysf_fp {v : Nat} : (D.sf v).fp = D.fp := rfl
theorem ysf_fl {v : Nat} : (D.sf v).fl = D.fl := rfl
theorem ysf_cn {v : Nat} : (D.sf v).cn = D.cn := rfl
theorem ysf_cg {v : Nat} : (D.sf v).cg = D.cg := rfl
theorem ysun_n {v : Int32} : (D.sun v).n = D.n := rfl
theorem ysun_f {v : Int32} : (D.sun v).f = D.f := rfl
theorem ysun_un {v : Int32} : (D.sun v).un = v := rfl
theorem ysun_lv {v : Int32} : (D.sun v).lv = D.lv := rfl
theorem ysun_sh {v : Int32} : (D.sun v).sh = D.sh := rfl
theorem ysun_ac {v : Int32} : (D.sun v).ac = D.ac := rfl
theorem ysun_bw {v : Int32} : (D.sun v).bw = D.bw := rfl
theorem ysun_kd {v : Int32} : (D.sun v).kd = D.kd := rfl
theorem ysun_pd {v : Int32} : (D.sun v).pd = D.pd := rfl
theorem ysun_fr {v : Int32} : (D.sun v).fr = D.fr := rfl
theorem ysun_tk {v : Int32} : (D.sun v).tk = D.tk := rfl
theorem ysun_du {v : Int32} : (D.sun v).du = D.du := rfl
theorem ysun_og {v : Int32} : (D.sun v).og = D.og := rfl
theorem ysun_fm {v : Int32} : (D.sun v).fm = D.fm := rfl
theorem ysun_fp {v : Int32} : (D.sun v).fp = D.fp := rfl
theorem ysun_fl {v : Int32} : (D.sun v).fl = D.fl := rfl
theorem ysun_cn {v : Int32} : (D.sun v).cn = D.cn := rfl
theorem ysun_cg {v : Int32} : (D.sun v).cg = D.cg := rfl
theorem yslv_n {v : Int32} : (D.slv v).n = D.n := rfl
theorem yslv_f {v : Int32} : (D.slv v).f = D.f := rfl
theorem yslv_un {v : Int32} : (D.slv v).un = D.un := rfl
theorem yslv_lv {v : Int32} : (D.slv v).lv = v := rfl
theorem yslv_sh {v : Int32} : (D.slv v).sh = D.sh := rfl
theorem yslv_ac {v : Int32} : (D.slv v).ac = D.ac := rfl
theorem yslv_bw {v : Int32} : (D.slv v).bw = D.bw := rfl
theorem yslv_kd {v : Int32} : (D.slv v).kd = D.kd := rfl
theorem yslv_pd {v : Int32} : (D.slv v).pd = D.pd := rfl
theorem yslv_fr {v : Int32} : (D.slv v).fr = D.fr := rfl
theorem yslv_tk {v : Int32} : (D.slv v).tk = D.tk := rfl
theorem yslv_du {v : Int32} : (D.slv v).du = D.du := rfl
theorem yslv_og {v : Int32} : (D.slv v).og = D.og := rfl
theorem yslv_fm {v : Int32} : (D.slv v).fm = D.fm := rfl
theorem yslv_fp {v : Int32} : (D.slv v).fp = D.fp := rfl
theorem yslv_fl {v : Int32} : (D.slv v).fl = D.fl := rfl
theorem yslv_cn {v : Int32} : (D.slv v).cn = D.cn := rfl
theorem yslv_cg {v : Int32} : (D.slv v).cg = D.cg := rfl
theorem yssh_n {v : Int32} : (D.ssh v).n = D.n := rfl
theorem yssh_f {v : Int32} : (D.ssh v).f = D.f := rfl
theorem yssh_un {v : Int32} : (D.ssh v).un = D.un := rfl
theorem yssh_lv {v : Int32} : (D.ssh v).lv = D.lv := rfl
theorem yssh_sh {v : Int32} : (D.ssh v).sh = v := rfl
theorem yssh_ac {v : Int32} : (D.ssh v).ac = D.ac := rfl
theorem yssh_bw {v : Int32} : (D.ssh v).bw = D.bw := rfl
theorem yssh_kd {v : Int32} : (D.ssh v).kd = D.kd := rfl
theorem yssh_pd {v : Int32} : (D.ssh v).pd = D.pd := rfl
theorem yssh_fr {v : Int32} : (D.ssh v).fr = D.fr := rfl
theorem yssh_tk {v : Int32} : (D.ssh v).tk = D.tk := rfl
theorem yssh_du {v : Int32} : (D.ssh v).du = D.du := rfl
theorem yssh_og {v : Int32} : (D.ssh v).og = D.og := rfl
theorem yssh_fm {v : Int32} : (D.ssh v).fm = D.fm := rfl
theorem yssh_fp {v : Int32} : (D.ssh v).fp = D.fp := rfl
theorem yssh_fl {v : Int32} : (D.ssh v).fl = D.fl := rfl
theorem yssh_cn {v : Int32} : (D.ssh v).cn = D.cn := rfl
theorem yssh_cg {v : Int32} : (D.ssh v).cg = D.cg := rfl
theorem ysac_n {v : Int32} : (D.sac v).n = D.n := rfl
theorem ysac_f {v : Int32} : (D.sac v).f = D.f := rfl
theorem ysac_un {v : Int32} : (D.sac v).un = D.un := rfl
theorem ysac_lv {v : Int32} : (D.sac v).lv = D.lv := rfl
theorem ysac_sh {v : Int32} : (D.sac v).sh = D.sh := rfl
theorem ysac_ac {v : Int32} : (D.sac v).ac = v := rfl
theorem ysac_bw {v : Int32} : (D.sac v).bw = D.bw := rfl
theorem ysac_kd {v : Int32} : (D.sac v).kd = D.kd := rfl
theorem ysac_pd {v : Int32} : (D.sac v).pd = D.pd := rfl
theorem ysac_fr {v : Int32} : (D.sac v).fr = D.fr := rfl
theorem ysac_tk {v : Int32} : (D.sac v).tk = D.tk := rfl
theorem ysac_du {v : Int32} : (D.sac v).du = D.du := rfl
theorem ysac_og {v : Int32} : (D.sac v).og = D.og := rfl
theorem ysac_fm {v : Int32} : (D.sac v).fm = D.fm := rfl
theorem ysac_fp {v : Int32} : (D.sac v).fp = D.fp := rfl
theorem ysac_fl {v : Int32} : (D.sac v).fl = D.fl := rfl
theorem ysac_cn {v : Int32} : (D.sac v).cn = D.cn := rfl
theorem ysac_cg {v : Int32} : (D.sac v).cg = D.cg := rfl
theorem ysbw_n {v : Nat} : (D.sbw v).n = D.n := rfl
theorem ysbw_f {v : Nat} : (D.sbw v).f = D.f := rfl
theorem ysbw_un {v : Nat} : (D.sbw v).un = D.un := rfl
theorem ysbw_lv {v : Nat} : (D.sbw v).lv = D.lv := rfl
theorem ysbw_sh {v : Nat} : (D.sbw v).sh = D.sh := rfl
theorem ysbw_ac {v : Nat} : (D.sbw v).ac = D.ac := rfl
theorem ysbw_bw {v : Nat} : (D.sbw v).bw = v := rfl
theorem ysbw_kd {v : Nat} : (D.sbw v).kd = D.kd := rfl
theorem ysbw_pd {v : Nat} : (D.sbw v).pd = D.pd := rfl
theorem ysbw_fr {v : Nat} : (D.sbw v).fr = D.fr := rfl
theorem ysbw_tk {v : Nat} : (D.sbw v).tk = D.tk := rfl
theorem ysbw_du {v : Nat} : (D.sbw v).du = D.du := rfl
theorem ysbw_og {v : Nat} : (D.sbw v).og = D.og := rfl
theorem ysbw_fm {v : Nat} : (D.sbw v).fm = D.fm := rfl
theorem ysbw_fp {v : Nat} : (D.sbw v).fp = D.fp := rfl
theorem ysbw_fl {v : Nat} : (D.sbw v).fl = D.fl := rfl
theorem ysbw_cn {v : Nat} : (D.sbw v).cn = D.cn := rfl
theorem ysbw_cg {v : Nat} : (D.sbw v).cg = D.cg := rfl
theorem yskd_n {v : Nat → Int32} : (D.skd v).n = D.n := rfl
theorem yskd_f {v : Nat → Int32} : (D.skd v).f = D.f := rfl
theorem yskd_un {v : Nat → Int32} : (D.skd v).un = D.un := rfl
theorem yskd_lv {v : Nat → Int32} : (D.skd v).lv = D.lv := rfl
theorem yskd_sh {v : Nat → Int32} : (D.skd v).sh = D.sh := rfl
theorem yskd_ac {v : Nat → Int32} : (D.skd v).ac = D.ac := rfl
theorem yskd_bw {v : Nat → Int32} : (D.skd v).bw = D.bw := rfl
theorem yskd_kd {v : Nat → Int32} : (D.skd v).kd = v := rfl
theorem yskd_pd {v : Nat → Int32} : (D.skd v).pd = D.pd := rfl
theorem yskd_fr {v : Nat → Int32} : (D.skd v).fr = D.fr := rfl
theorem yskd_tk {v : Nat → Int32} : (D.skd v).tk = D.tk := rfl
theorem yskd_du {v : Nat → Int32} : (D.skd v).du = D.du := rfl
theorem yskd_og {v : Nat → Int32} : (D.skd v).og = D.og := rfl
theorem yskd_fm {v : Nat → Int32} : (D.skd v).fm = D.fm := rfl
theorem yskd_fp {v : Nat → Int32} : (D.skd v).fp = D.fp := rfl
theorem yskd_fl {v : Nat → Int32} : (D.skd v).fl = D.fl := rfl
theorem yskd_cn {v : Nat → Int32} : (D.skd v).cn = D.cn := rfl
theorem yskd_cg {v : Nat → Int32} : (D.skd v).cg = D.cg := rfl
theorem yspd_n {v : Nat → Int32} : (D.spd v).n = D.n := rfl
theorem yspd_f {v : Nat → Int32} : (D.spd v).f = D.f := rfl
theorem yspd_un {v : Nat → Int32} : (D.spd v).un = D.un := rfl
theorem yspd_lv {v : Nat → Int32} : (D.spd v).lv = D.lv := rfl
theorem yspd_sh {v : Nat → Int32} : (D.spd v).sh = D.sh := rfl
theorem yspd_ac {v : Nat → Int32} : (D.spd v).ac = D.ac := rfl
theorem yspd_bw {v : Nat → Int32} : (D.spd v).bw = D.bw := rfl
theorem yspd_kd {v : Nat → Int32} : (D.spd v).kd = D.kd := rfl
theorem yspd_pd {v : Nat → Int32} : (D.spd v).pd = v := rfl
theorem yspd_fr {v : Nat → Int32} : (D.spd v).fr = D.fr := rfl
theorem yspd_tk {v : Nat → Int32} : (D.spd v).tk = D.tk := rfl
theorem yspd_du {v : Nat → Int32} : (D.spd v).du = D.du := rfl
theorem yspd_og {v : Nat → Int32} : (D.spd v).og = D.og := rfl
theorem yspd_fm {v : Nat → Int32} : (D.spd v).fm = D.fm := rfl
theorem yspd_fp {v : Nat → Int32} : (D.spd v).fp = D.fp := rfl
theorem yspd_fl {v : Nat → Int32} : (D.spd v).fl = D.fl := rfl
theorem yspd_cn {v : Nat → Int32} : (D.spd v).cn = D.cn := rfl
theorem yspd_cg {v : Nat → Int32} : (D.spd v).cg = D.cg := rfl
theorem ysfr_n {v : Nat → Int32} : (D.sfr v).n = D.n := rfl
theorem ysfr_f {v : Nat → Int32} : (D.sfr v).f = D.f := rfl
theorem ysfr_un {v : Nat → Int32} : (D.sfr v).un = D.un := rfl
theorem ysfr_lv {v : Nat → Int32} : (D.sfr v).lv = D.lv := rfl
theorem ysfr_sh {v : Nat → Int32} : (D.sfr v).sh = D.sh := rfl
theorem ysfr_ac {v : Nat → Int32} : (D.sfr v).ac = D.ac := rfl
theorem ysfr_bw {v : Nat → Int32} : (D.sfr v).bw = D.bw := rfl
theorem ysfr_kd {v : Nat → Int32} : (D.sfr v).kd = D.kd := rfl
theorem ysfr_pd {v : Nat → Int32} : (D.sfr v).pd = D.pd := rfl
theorem ysfr_fr {v : Nat → Int32} : (D.sfr v).fr = v := rfl
theorem ysfr_tk {v : Nat → Int32} : (D.sfr v).tk = D.tk := rfl
theorem ysfr_du {v : Nat → Int32} : (D.sfr v).du = D.du := rfl
theorem ysfr_og {v : Nat → Int32} : (D.sfr v).og = D.og := rfl
theorem ysfr_fm {v : Nat → Int32} : (D.sfr v).fm = D.fm := rfl
theorem ysfr_fp {v : Nat → Int32} : (D.sfr v).fp = D.fp := rfl
theorem ysfr_fl {v : Nat → Int32} : (D.sfr v).fl = D.fl := rfl
theorem ysfr_cn {v : Nat → Int32} : (D.sfr v).cn = D.cn := rfl
theorem ysfr_cg {v : Nat → Int32} : (D.sfr v).cg = D.cg := rfl
theorem ystk_n {v : Nat → Int32} : (D.stk v).n = D.n := rfl
theorem ystk_f {v : Nat → Int32} : (D.stk v).f = D.f := rfl
theorem ystk_un {v : Nat → Int32} : (D.stk v).un = D.un := rfl
theorem ystk_lv {v : Nat → Int32} : (D.stk v).lv = D.lv := rfl
theorem ystk_sh {v : Nat → Int32} : (D.stk v).sh = D.sh := rfl
theorem ystk_ac {v : Nat → Int32} : (D.stk v).ac = D.ac := rfl
theorem ystk_bw {v : Nat → Int32} : (D.stk v).bw = D.bw := rfl
theorem ystk_kd {v : Nat → Int32} : (D.stk v).kd = D.kd := rfl
theorem ystk_pd {v : Nat → Int32} : (D.stk v).pd = D.pd := rfl
theorem ystk_fr {v : Nat → Int32} : (D.stk v).fr = D.fr := rfl
theorem ystk_tk {v : Nat → Int32} : (D.stk v).tk = v := rfl
theorem ystk_du {v : Nat → Int32} : (D.stk v).du = D.du := rfl
theorem ystk_og {v : Nat → Int32} : (D.stk v).og = D.og := rfl
theorem ystk_fm {v : Nat → Int32} : (D.stk v).fm = D.fm := rfl
theorem ystk_fp {v : Nat → Int32} : (D.stk v).fp = D.fp := rfl
theorem ystk_fl {v : Nat → Int32} : (D.stk v).fl = D.fl := rfl
theorem ystk_cn {v : Nat → Int32} : (D.stk v).cn = D.cn := rfl
theorem ystk_cg {v : Nat → Int32} : (D.stk v).cg = D.cg := rfl
theorem ysdu_n {v : Nat → Int32} : (D.sdu v).n = D.n := rfl
theorem ysdu_f {v : Nat → Int32} : (D.sdu v).f = D.f := rfl
theorem ysdu_un {v : Nat → Int32} : (D.sdu v).un = D.un := rfl
theorem ysdu_lv {v : Nat → Int32} : (D.sdu v).lv = D.lv := rfl
theorem ysdu_sh {v : Nat → Int32} : (D.sdu v).sh = D.sh := rfl
theorem ysdu_ac {v : Nat → Int32} : (D.sdu v).ac = D.ac := rfl
theorem ysdu_bw {v : Nat → Int32} : (D.sdu v).bw = D.bw := rfl
theorem ysdu_kd {v : Nat → Int32} : (D.sdu v).kd = D.kd := rfl
theorem ysdu_pd {v : Nat → Int32} : (D.sdu v).pd = D.pd := rfl
theorem ysdu_fr {v : Nat → Int32} : (D.sdu v).fr = D.fr := rfl
theorem ysdu_tk {v : Nat → Int32} : (D.sdu v).tk = D.tk := rfl
theorem ysdu_du {v : Nat → Int32} : (D.sdu v).du = v := rfl
theorem ysdu_og {v : Nat → Int32} : (D.sdu v).og = D.og := rfl
theorem ysdu_fm {v : Nat → Int32} : (D.sdu v).fm = D.fm := rfl
theorem ysdu_fp {v : Nat → Int32} : (D.sdu v).fp = D.fp := rfl
theorem ysdu_fl {v : Nat → Int32} : (D.sdu v).fl = D.fl := rfl
theorem ysdu_cn {v : Nat → Int32} : (D.sdu v).cn = D.cn := rfl
theorem ysdu_cg {v : Nat → Int32} : (D.sdu v).cg = D.cg := rfl
theorem ysog_n {v : Nat → Int32} : (D.sog v).n = D.n := rfl
theorem ysog_f {v : Nat → Int32} : (D.sog v).f = D.f := rfl
theorem ysog_un {v : Nat → Int32} : (D.sog v).un = D.un := rfl
theorem ysog_lv {v : Nat → Int32} : (D.sog v).lv = D.lv := rfl
theorem ysog_sh {v : Nat → Int32} : (D.sog v).sh = D.sh := rfl
theorem ysog_ac {v : Nat → Int32} : (D.sog v).ac = D.ac := rfl
theorem ysog_bw {v : Nat → Int32} : (D.sog v).bw = D.bw := rfl
theorem ysog_kd {v : Nat → Int32} : (D.sog v).kd = D.kd := rfl
theorem ysog_pd {v : Nat → Int32} : (D.sog v).pd = D.pd := rfl
theorem ysog_fr {v : Nat → Int32} : (D.sog v).fr = D.fr := rfl
theorem ysog_tk {v : Nat → Int32} : (D.sog v).tk = D.tk := rfl
theorem ysog_du {v : Nat → Int32} : (D.sog v).du = D.du := rfl
theorem ysog_og {v : Nat → Int32} : (D.sog v).og = v := rfl
theorem ysog_fm {v : Nat → Int32} : (D.sog v).fm = D.fm := rfl
theorem ysog_fp {v : Nat → Int32} : (D.sog v).fp = D.fp := rfl
theorem ysog_fl {v : Nat → Int32} : (D.sog v).fl = D.fl := rfl
theorem ysog_cn {v : Nat → Int32} : (D.sog v).cn = D.cn := rfl
theorem ysog_cg {v : Nat → Int32} : (D.sog v).cg = D.cg := rfl
theorem ysfm_n {v : Nat → Int32} : (D.sfm v).n = D.n := rfl
theorem ysfm_f {v : Nat → Int32} : (D.sfm v).f = D.f := rfl
theorem ysfm_un {v : Nat → Int32} : (D.sfm v).un = D.un := rfl
theorem ysfm_lv {v : Nat → Int32} : (D.sfm v).lv = D.lv := rfl
theorem ysfm_sh {v : Nat → Int32} : (D.sfm v).sh = D.sh := rfl
theorem ysfm_ac {v : Nat → Int32} : (D.sfm v).ac = D.ac := rfl
theorem ysfm_bw {v : Nat → Int32} : (D.sfm v).bw = D.bw := rfl
theorem ysfm_kd {v : Nat → Int32} : (D.sfm v).kd = D.kd := rfl
theorem ysfm_pd {v : Nat → Int32} : (D.sfm v).pd = D.pd := rfl
theorem ysfm_fr {v : Nat → Int32} : (D.sfm v).fr = D.fr := rfl
theorem ysfm_tk {v : Nat → Int32} : (D.sfm v).tk = D.tk := rfl
theorem ysfm_du {v : Nat → Int32} : (D.sfm v).du = D.du := rfl
theorem ysfm_og {v : Nat → Int32} : (D.sfm v).og = D.og := rfl
theorem ysfm_fm {v : Nat → Int32} : (D.sfm v).fm = v := rfl
theorem ysfm_fp {v : Nat → Int32} : (D.sfm v).fp = D.fp := rfl
theorem ysfm_fl {v : Nat → Int32} : (D.sfm v).fl = D.fl := rfl
theorem ysfm_cn {v : Nat → Int32} : (D.sfm v).cn = D.cn := rfl
theorem ysfm_cg {v : Nat → Int32} : (D.sfm v).cg = D.cg := rfl
theorem ysfp_n {v : Nat → Nat} : (D.sfp v).n = D.n := rfl
theorem ysfp_f {v : Nat → Nat} : (D.sfp v).f = D.f := rfl
theorem ysfp_un {v : Nat → Nat} : (D.sfp v).un = D.un := rfl
theorem ysfp_lv {v : Nat → Nat} : (D.sfp v).lv = D.lv := rfl
theorem ysfp_sh {v : Nat → Nat} : (D.sfp v).sh = D.sh := rfl
theorem ysfp_ac {v : Nat → Nat} : (D.sfp v).ac = D.ac := rfl
theorem ysfp_bw {v : Nat → Nat} : (D.sfp v).bw = D.bw := rfl
theorem ysfp_kd {v : Nat → Nat} : (D.sfp v).kd = D.kd := rfl
theorem ysfp_pd {v : Nat → Nat} : (D.sfp v).pd = D.pd := rfl
theorem ysfp_fr {v : Nat → Nat} : (D.sfp v).fr = D.fr := rfl
theorem ysfp_tk {v : Nat → Nat} : (D.sfp v).tk = D.tk := rfl
theorem ysfp_du {v : Nat → Nat} : (D.sfp v).du = D.du := rfl
theorem ysfp_og {v : Nat → Nat} : (D.sfp v).og = D.og := rfl
theorem ysfp_fm {v : Nat → Nat} : (D.sfp v).fm = D.fm := rfl
theorem ysfp_fp {v : Nat → Nat} : (D.sfp v).fp = v := rfl
theorem ysfp_fl {v : Nat → Nat} : (D.sfp v).fl = D.fl := rfl
theorem ysfp_cn {v : Nat → Nat} : (D.sfp v).cn = D.cn := rfl
theorem ysfp_cg {v : Nat → Nat} : (D.sfp v).cg = D.cg := rfl
theorem ysfl_n {v : Nat → Int32} : (D.sfl v).n = D.n := rfl
theorem ysfl_f {v : Nat → Int32} : (D.sfl v).f = D.f := rfl
theorem ysfl_un {v : Nat → Int32} : (D.sfl v).un = D.un := rfl
theorem ysfl_lv {v : Nat → Int32} : (D.sfl v).lv = D.lv := rfl
theorem ysfl_sh {v : Nat → Int32} : (D.sfl v).sh = D.sh := rfl
theorem ysfl_ac {v : Nat → Int32} : (D.sfl v).ac = D.ac := rfl
theorem ysfl_bw {v : Nat → Int32} : (D.sfl v).bw = D.bw := rfl
theorem ysfl_kd {v : Nat → Int32} : (D.sfl v).kd = D.kd := rfl
theorem ysfl_pd {v : Nat → Int32} : (D.sfl v).pd = D.pd := rfl
theorem ysfl_fr {v : Nat → Int32} : (D.sfl v).fr = D.fr := rfl
theorem ysfl_tk {v : Nat → Int32} : (D.sfl v).tk = D.tk := rfl
theorem ysfl_du {v : Nat → Int32} : (D.sfl v).du = D.du := rfl
theorem ysfl_og {v : Nat → Int32} : (D.sfl v).og = D.og := rfl
theorem ysfl_fm {v : Nat → Int32} : (D.sfl v).fm = D.fm := rfl
theorem ysfl_fp {v : Nat → Int32} : (D.sfl v).fp = D.fp := rfl
theorem ysfl_fl {v : Nat → Int32} : (D.sfl v).fl = v := rfl
theorem ysfl_cn {v : Nat → Int32} : (D.sfl v).cn = D.cn := rfl
theorem ysfl_cg {v : Nat → Int32} : (D.sfl v).cg = D.cg := rfl
theorem yscn_n {v : Nat} : (D.scn v).n = D.n := rfl
theorem yscn_f {v : Nat} : (D.scn v).f = D.f := rfl
theorem yscn_un {v : Nat} : (D.scn v).un = D.un := rfl
theorem yscn_lv {v : Nat} : (D.scn v).lv = D.lv := rfl
theorem yscn_sh {v : Nat} : (D.scn v).sh = D.sh := rfl
theorem yscn_ac {v : Nat} : (D.scn v).ac = D.ac := rfl
theorem yscn_bw {v : Nat} : (D.scn v).bw = D.bw := rfl
theorem yscn_kd {v : Nat} : (D.scn v).kd = D.kd := rfl
theorem yscn_pd {v : Nat} : (D.scn v).pd = D.pd := rfl
theorem yscn_fr {v : Nat} : (D.scn v).fr = D.fr := rfl
theorem yscn_tk {v : Nat} : (D.scn v).tk = D.tk := rfl
theorem yscn_du {v : Nat} : (D.scn v).du = D.du := rfl
theorem yscn_og {v : Nat} : (D.scn v).og = D.og := rfl
theorem yscn_fm {v : Nat} : (D.scn v).fm = D.fm := rfl
theorem yscn_fp {v : Nat} : (D.scn v).fp = D.fp := rfl
theorem yscn_fl {v : Nat} : (D.scn v).fl = D.fl := rfl
theorem yscn_cn {v : Nat} : (D.scn v).cn = v := rfl
theorem yscn_cg {v : Nat} : (D.scn v).cg = D.cg := rfl
theorem yscg_n {v : Nat → Int32} : (D.scg v).n = D.n := rfl
theorem yscg_f {v : Nat → Int32} : (D.scg v).f = D.f := rfl
theorem yscg_un {v : Nat → Int32} : (D.scg v).un = D.un := rfl
theorem yscg_lv {v : Nat → Int32} : (D.scg v).lv = D.lv := rfl
theorem yscg_sh {v : Nat → Int32} : (D.scg v).sh = D.sh := rfl
theorem yscg_ac {v : Nat → Int32} : (D.scg v).ac = D.ac := rfl
theorem yscg_bw {v : Nat → Int32} : (D.scg v).bw = D.bw := rfl
theorem yscg_kd {v : Nat → Int32} : (D.scg v).kd = D.kd := rfl
theorem yscg_pd {v : Nat → Int32} : (D.scg v).pd = D.pd := rfl
theorem yscg_fr {v : Nat → Int32} : (D.scg v).fr = D.fr := rfl
theorem yscg_tk {v : Nat → Int32} : (D.scg v).tk = D.tk := rfl
theorem yscg_du {v : Nat → Int32} : (D.scg v).du = D.du := rfl
theorem yscg_og {v : Nat → Int32} : (D.scg v).og = D.og := rfl
theorem yscg_fm {v : Nat → Int32} : (D.scg v).fm = D.fm := rfl
theorem yscg_fp {v : Nat → Int32} : (D.scg v).fp = D.fp := rfl
theorem yscg_fl {v : Nat → Int32} : (D.scg v).fl = D.fl := rfl
theorem yscg_cn {v : Nat → Int32} : (D.scg v).cn = D.cn := rfl
theorem yscg_cg {v : Nat → Int32} : (D.scg v).cg = v := rfl
end
def yD.bp (D : yD) (p : Nat) : Bool := D.bw.testBit p
theorem ysn_bp {D : yD} {v : Nat} : (D.sn v).bp = D.bp := rfl
theorem ysf_bp {D : yD} {v : Nat} : (D.sf v).bp = D.bp := rfl
theorem ysun_bp {D : yD} {v : Int32} : (D.sun v).bp = D.bp := rfl
theorem yslv_bp {D : yD} {v : Int32} : (D.slv v).bp = D.bp := rfl
theorem yssh_bp {D : yD} {v : Int32} : (D.ssh v).bp = D.bp := rfl
theorem ysac_bp {D : yD} {v : Int32} : (D.sac v).bp = D.bp := rfl
theorem yskd_bp {D : yD} {v : Nat → Int32} : (D.skd v).bp = D.bp := rfl
theorem yspd_bp {D : yD} {v : Nat → Int32} : (D.spd v).bp = D.bp := rfl
theorem ysfr_bp {D : yD} {v : Nat → Int32} : (D.sfr v).bp = D.bp := rfl
theorem ystk_bp {D : yD} {v : Nat → Int32} : (D.stk v).bp = D.bp := rfl
theorem ysdu_bp {D : yD} {v : Nat → Int32} : (D.sdu v).bp = D.bp := rfl
theorem ysog_bp {D : yD} {v : Nat → Int32} : (D.sog v).bp = D.bp := rfl
theorem ysfm_bp {D : yD} {v : Nat → Int32} : (D.sfm v).bp = D.bp := rfl
theorem ysfp_bp {D : yD} {v : Nat → Nat} : (D.sfp v).bp = D.bp := rfl
theorem ysfl_bp {D : yD} {v : Nat → Int32} : (D.sfl v).bp = D.bp := rfl
theorem yscn_bp {D : yD} {v : Nat} : (D.scn v).bp = D.bp := rfl
theorem yscg_bp {D : yD} {v : Nat → Int32} : (D.scg v).bp = D.bp := rfl
theorem ysbw_bp {D : yD} {v : Nat} {p : Nat} : (D.sbw v).bp p = v.testBit p := rfl
/-- how many values wait behind i items of a curve -/
def ydep (g : Nat → Int32) : Nat → Nat
  | 0 => 0
  | i + 1 => if -2 ≤ g i then ydep g i + 1 else ydep g i - 1
/-- where the model's codes of item i begin -/
def ycp (g : Nat → Int32) : Nat → Nat
  | 0 => 0
  | i + 1 => if -2 ≤ g i then ycp g i + 2 else ycp g i + 1
abbrev yCok (n : Nat) (g : Nat → Int32) : Prop := n ≤ 600 ∧ ((n = 0 ∨ ydep g n = 1) ∧ ∀ i, i < n → (-6 ≤ g i ∧ g i < 10000) ∧ (ydep g i ≤ 15 ∧ (g i < -2 → 2 ≤ ydep g i)))
def ybad (k : Nat → Int32) : Nat → Nat
  | 0 => 0
  | p + 1 => ybad k p + (if k p = 0 then 0 else 1)
/-- what holds of every strip -/
abbrev yDok (D : yD) : Prop :=
  (1 ≤ D.n)
  ∧ (D.n ≤ 40)
  ∧ (1 ≤ D.f)
  ∧ (D.f ≤ 6)
  ∧ (D.fp 0 = 0)
  ∧ (∀ g, g + 1 < D.f → D.fp g < D.fp (g + 1))
  ∧ (∀ g, g < D.f → D.fp g < D.n)
  ∧ (∀ p, p < D.n → D.og p = -1 ∨ ∃ q, q < 40 ∧ D.og p = yI q)
  ∧ (∀ g, g < D.f → ∃ l, l < 10000 ∧ D.fl g = yI l)
  ∧ (∃ u, (1 ≤ u ∧ u ≤ 100) ∧ D.un = yI u)
  ∧ (∃ l, l < 256 ∧ D.lv = yI l)
  ∧ (D.bw < 2 ^ D.n)
  ∧ (∀ p, p < D.n → D.kd p = 0 ∨ D.kd p = 1 ∨ D.kd p = 2 ∨ D.kd p = 3)
  ∧ (∀ p, p < D.n → D.kd p = 3 → ∃ q, (2 ≤ q ∧ q < 10) ∧ D.pd p = yI q)
  ∧ (ybad D.kd D.n ≤ 10)
  ∧ (yCok D.cn D.cg)
theorem yDok.n1 {D : yD} (h : yDok D) : 1 ≤ D.n := h.1
theorem yDok.n40 {D : yD} (h : yDok D) : D.n ≤ 40 := h.2.1
theorem yDok.f1 {D : yD} (h : yDok D) : 1 ≤ D.f := h.2.2.1
theorem yDok.f6 {D : yD} (h : yDok D) : D.f ≤ 6 := h.2.2.2.1
theorem yDok.fp0 {D : yD} (h : yDok D) : D.fp 0 = 0 := h.2.2.2.2.1
theorem yDok.fpm {D : yD} (h : yDok D) : ∀ g, g + 1 < D.f → D.fp g < D.fp (g + 1) := h.2.2.2.2.2.1
theorem yDok.fpn {D : yD} (h : yDok D) : ∀ g, g < D.f → D.fp g < D.n := h.2.2.2.2.2.2.1
theorem yDok.ogm {D : yD} (h : yDok D) : ∀ p, p < D.n → D.og p = -1 ∨ ∃ q, q < 40 ∧ D.og p = yI q := h.2.2.2.2.2.2.2.1
theorem yDok.fll {D : yD} (h : yDok D) : ∀ g, g < D.f → ∃ l, l < 10000 ∧ D.fl g = yI l := h.2.2.2.2.2.2.2.2.1
theorem yDok.unu {D : yD} (h : yDok D) : ∃ u, (1 ≤ u ∧ u ≤ 100) ∧ D.un = yI u := h.2.2.2.2.2.2.2.2.2.1
theorem yDok.lvv {D : yD} (h : yDok D) : ∃ l, l < 256 ∧ D.lv = yI l := h.2.2.2.2.2.2.2.2.2.2.1
theorem yDok.bwn {D : yD} (h : yDok D) : D.bw < 2 ^ D.n := h.2.2.2.2.2.2.2.2.2.2.2.1
theorem yDok.kdk {D : yD} (h : yDok D) : ∀ p, p < D.n → D.kd p = 0 ∨ D.kd p = 1 ∨ D.kd p = 2 ∨ D.kd p = 3 := h.2.2.2.2.2.2.2.2.2.2.2.2.1
theorem yDok.pdp {D : yD} (h : yDok D) : ∀ p, p < D.n → D.kd p = 3 → ∃ q, (2 ≤ q ∧ q < 10) ∧ D.pd p = yI q := h.2.2.2.2.2.2.2.2.2.2.2.2.2.1
theorem yDok.bad {D : yD} (h : yDok D) : ybad D.kd D.n ≤ 10 := h.2.2.2.2.2.2.2.2.2.2.2.2.2.2.1
theorem yDok.cok {D : yD} (h : yDok D) : yCok D.cn D.cg := h.2.2.2.2.2.2.2.2.2.2.2.2.2.2.2
/-- the strip object at o holds these data -/
abbrev yV (t : yT) (o : Nat) (D : yD) : Prop :=
  (yisO 4 o)
  ∧ (t.A o 9 = yI D.n)
  ∧ (t.A o 10 = D.un)
  ∧ (t.A o 11 = D.lv)
  ∧ (t.A o 12 = yI D.f)
  ∧ (t.A o 13 = D.sh)
  ∧ (t.A o 14 = D.ac)
  ∧ (t.L o 15 = Int64.ofNat D.bw)
  ∧ (yla (t.R o) = .no ∧ t.R o < 900000)
  ∧ (t.K (t.R o) = ycv D.cn D.cg)
  ∧ (∀ p, p < 40 → t.A (o + 1) p = D.fm p)
  ∧ (∀ p, p < 40 → t.A (o + 2) p = D.du p)
  ∧ (∀ p, p < 40 → t.A (o + 3) p = D.kd p)
  ∧ (∀ p, p < 40 → t.A (o + 4) p = D.pd p)
  ∧ (∀ p, p < 40 → t.A (o + 5) p = D.fr p)
  ∧ (∀ p, p < 40 → t.A (o + 6) p = D.tk p)
  ∧ (∀ p, p < 40 → t.A (o + 7) p = D.og p)
  ∧ (∀ g, g < D.f → t.A (o + 8) g = yI (D.fp g))
  ∧ (∀ g, g < D.f → t.A (o + 9) g = D.fl g)
theorem yV.oo {t : yT} {o : Nat} {D : yD} (h : yV t o D) : yisO 4 o := h.1
theorem yV.n {t : yT} {o : Nat} {D : yD} (h : yV t o D) : t.A o 9 = yI D.n := h.2.1
theorem yV.un {t : yT} {o : Nat} {D : yD} (h : yV t o D) : t.A o 10 = D.un := h.2.2.1
theorem yV.lv {t : yT} {o : Nat} {D : yD} (h : yV t o D) : t.A o 11 = D.lv := h.2.2.2.1
theorem yV.f {t : yT} {o : Nat} {D : yD} (h : yV t o D) : t.A o 12 = yI D.f := h.2.2.2.2.1
theorem yV.sh {t : yT} {o : Nat} {D : yD} (h : yV t o D) : t.A o 13 = D.sh := h.2.2.2.2.2.1
theorem yV.ac {t : yT} {o : Nat} {D : yD} (h : yV t o D) : t.A o 14 = D.ac := h.2.2.2.2.2.2.1
theorem yV.bw {t : yT} {o : Nat} {D : yD} (h : yV t o D) : t.L o 15 = Int64.ofNat D.bw := h.2.2.2.2.2.2.2.1
theorem yV.c1 {t : yT} {o : Nat} {D : yD} (h : yV t o D) : yla (t.R o) = .no ∧ t.R o < 900000 := h.2.2.2.2.2.2.2.2.1
theorem yV.cv {t : yT} {o : Nat} {D : yD} (h : yV t o D) : t.K (t.R o) = ycv D.cn D.cg := h.2.2.2.2.2.2.2.2.2.1
theorem yV.fm {t : yT} {o : Nat} {D : yD} (h : yV t o D) : ∀ p, p < 40 → t.A (o + 1) p = D.fm p := h.2.2.2.2.2.2.2.2.2.2.1
theorem yV.du {t : yT} {o : Nat} {D : yD} (h : yV t o D) : ∀ p, p < 40 → t.A (o + 2) p = D.du p := h.2.2.2.2.2.2.2.2.2.2.2.1
theorem yV.kd {t : yT} {o : Nat} {D : yD} (h : yV t o D) : ∀ p, p < 40 → t.A (o + 3) p = D.kd p := h.2.2.2.2.2.2.2.2.2.2.2.2.1
theorem yV.pd {t : yT} {o : Nat} {D : yD} (h : yV t o D) : ∀ p, p < 40 → t.A (o + 4) p = D.pd p := h.2.2.2.2.2.2.2.2.2.2.2.2.2.1
theorem yV.fr {t : yT} {o : Nat} {D : yD} (h : yV t o D) : ∀ p, p < 40 → t.A (o + 5) p = D.fr p := h.2.2.2.2.2.2.2.2.2.2.2.2.2.2.1
theorem yV.tk {t : yT} {o : Nat} {D : yD} (h : yV t o D) : ∀ p, p < 40 → t.A (o + 6) p = D.tk p := h.2.2.2.2.2.2.2.2.2.2.2.2.2.2.2.1
theorem yV.og {t : yT} {o : Nat} {D : yD} (h : yV t o D) : ∀ p, p < 40 → t.A (o + 7) p = D.og p := h.2.2.2.2.2.2.2.2.2.2.2.2.2.2.2.2.1
theorem yV.fp {t : yT} {o : Nat} {D : yD} (h : yV t o D) : ∀ g, g < D.f → t.A (o + 8) g = yI (D.fp g) := h.2.2.2.2.2.2.2.2.2.2.2.2.2.2.2.2.2.1
theorem yV.fl {t : yT} {o : Nat} {D : yD} (h : yV t o D) : ∀ g, g < D.f → t.A (o + 9) g = D.fl g := h.2.2.2.2.2.2.2.2.2.2.2.2.2.2.2.2.2.2
abbrev yW (t : yT) (o : Nat) (D : yD) : Prop := yDok D ∧ yV t o D
theorem yW.ok {t : yT} {o : Nat} {D : yD} (h : yW t o D) : yDok D := h.1
theorem yW.v {t : yT} {o : Nat} {D : yD} (h : yW t o D) : yV t o D := h.2
theorem yW.oo {t : yT} {o : Nat} {D : yD} (h : yW t o D) : yisO 4 o := h.2.1
theorem yW.n {t : yT} {o : Nat} {D : yD} (h : yW t o D) : t.A o 9 = yI D.n := h.2.2.1
theorem yW.un {t : yT} {o : Nat} {D : yD} (h : yW t o D) : t.A o 10 = D.un := h.2.2.2.1
theorem yW.lv {t : yT} {o : Nat} {D : yD} (h : yW t o D) : t.A o 11 = D.lv := h.2.2.2.2.1
theorem yW.f {t : yT} {o : Nat} {D : yD} (h : yW t o D) : t.A o 12 = yI D.f := h.2.2.2.2.2.1
theorem yW.sh {t : yT} {o : Nat} {D : yD} (h : yW t o D) : t.A o 13 = D.sh := h.2.2.2.2.2.2.1
theorem yW.ac {t : yT} {o : Nat} {D : yD} (h : yW t o D) : t.A o 14 = D.ac := h.2.2.2.2.2.2.2.1
theorem yW.bw {t : yT} {o : Nat} {D : yD} (h : yW t o D) : t.L o 15 = Int64.ofNat D.bw := h.2.2.2.2.2.2.2.2.1
theorem yW.c1 {t : yT} {o : Nat} {D : yD} (h : yW t o D) : yla (t.R o) = .no ∧ t.R o < 900000 := h.2.2.2.2.2.2.2.2.2.1
theorem yW.cv {t : yT} {o : Nat} {D : yD} (h : yW t o D) : t.K (t.R o) = ycv D.cn D.cg := h.2.2.2.2.2.2.2.2.2.2.1
theorem yW.fm {t : yT} {o : Nat} {D : yD} (h : yW t o D) : ∀ p, p < 40 → t.A (o + 1) p = D.fm p := h.2.2.2.2.2.2.2.2.2.2.2.1
theorem yW.du {t : yT} {o : Nat} {D : yD} (h : yW t o D) : ∀ p, p < 40 → t.A (o + 2) p = D.du p := h.2.2.2.2.2.2.2.2.2.2.2.2.1
theorem yW.kd {t : yT} {o : Nat} {D : yD} (h : yW t o D) : ∀ p, p < 40 → t.A (o + 3) p = D.kd p := h.2.2.2.2.2.2.2.2.2.2.2.2.2.1
theorem yW.pd {t : yT} {o : Nat} {D : yD} (h : yW t o D) : ∀ p, p < 40 → t.A (o + 4) p = D.pd p := h.2.2.2.2.2.2.2.2.2.2.2.2.2.2.1
theorem yW.fr {t : yT} {o : Nat} {D : yD} (h : yW t o D) : ∀ p, p < 40 → t.A (o + 5) p = D.fr p := h.2.2.2.2.2.2.2.2.2.2.2.2.2.2.2.1
theorem yW.tk {t : yT} {o : Nat} {D : yD} (h : yW t o D) : ∀ p, p < 40 → t.A (o + 6) p = D.tk p := h.2.2.2.2.2.2.2.2.2.2.2.2.2.2.2.2.1
theorem yW.og {t : yT} {o : Nat} {D : yD} (h : yW t o D) : ∀ p, p < 40 → t.A (o + 7) p = D.og p := h.2.2.2.2.2.2.2.2.2.2.2.2.2.2.2.2.2.1
theorem yW.fp {t : yT} {o : Nat} {D : yD} (h : yW t o D) : ∀ g, g < D.f → t.A (o + 8) g = yI (D.fp g) := h.2.2.2.2.2.2.2.2.2.2.2.2.2.2.2.2.2.2.1
theorem yW.fl {t : yT} {o : Nat} {D : yD} (h : yW t o D) : ∀ g, g < D.f → t.A (o + 9) g = D.fl g := h.2.2.2.2.2.2.2.2.2.2.2.2.2.2.2.2.2.2.2
/-- the model's row S holds these data -/
abbrev yN (S : Nat → Int32) (D : yD) : Prop :=
  (S 0 = yI D.n)
  ∧ (S 1 = D.un)
  ∧ (S 2 = D.lv)
  ∧ (S 3 = yI D.f)
  ∧ (S 4 = D.sh)
  ∧ (S 5 = D.ac)
  ∧ (S 6 = if D.cn = 0 then 0 else 1)
  ∧ (S 7 = yI (ycp D.cg D.cn))
  ∧ (∀ p, p < 40 → S (8 + 8 * p + 0) = D.kd p)
  ∧ (∀ p, p < 40 → S (8 + 8 * p + 2) = D.pd p)
  ∧ (∀ p, p < 40 → S (8 + 8 * p + 3) = D.fr p)
  ∧ (∀ p, p < 40 → S (8 + 8 * p + 4) = D.tk p)
  ∧ (∀ p, p < 40 → S (8 + 8 * p + 5) = D.du p)
  ∧ (∀ p, p < 40 → S (8 + 8 * p + 6) = D.og p)
  ∧ (∀ p, p < 40 → S (8 + 8 * p + 7) = D.fm p)
  ∧ (∀ p, p < 40 → S (8 + 8 * p + 1) = yb (D.bp p))
  ∧ (∀ g, g < D.f → S (328 + 2 * g) = yI (D.fp g))
  ∧ (∀ g, g < D.f → S (328 + 2 * g + 1) = D.fl g)
  ∧ (∀ i, i < D.cn → S (340 + ycp D.cg i) = (if 0 ≤ D.cg i then 0 else if -2 ≤ D.cg i then 1 else -1 - D.cg i) ∧ (-2 ≤ D.cg i → S (340 + ycp D.cg i + 1) = if 0 ≤ D.cg i then D.cg i else -1 - D.cg i))
theorem yN.n {S : Nat → Int32} {D : yD} (h : yN S D) : S 0 = yI D.n := h.1
theorem yN.un {S : Nat → Int32} {D : yD} (h : yN S D) : S 1 = D.un := h.2.1
theorem yN.lv {S : Nat → Int32} {D : yD} (h : yN S D) : S 2 = D.lv := h.2.2.1
theorem yN.f {S : Nat → Int32} {D : yD} (h : yN S D) : S 3 = yI D.f := h.2.2.2.1
theorem yN.sh {S : Nat → Int32} {D : yD} (h : yN S D) : S 4 = D.sh := h.2.2.2.2.1
theorem yN.ac {S : Nat → Int32} {D : yD} (h : yN S D) : S 5 = D.ac := h.2.2.2.2.2.1
theorem yN.hc {S : Nat → Int32} {D : yD} (h : yN S D) : S 6 = if D.cn = 0 then 0 else 1 := h.2.2.2.2.2.2.1
theorem yN.nc {S : Nat → Int32} {D : yD} (h : yN S D) : S 7 = yI (ycp D.cg D.cn) := h.2.2.2.2.2.2.2.1
theorem yN.kd {S : Nat → Int32} {D : yD} (h : yN S D) : ∀ p, p < 40 → S (8 + 8 * p + 0) = D.kd p := h.2.2.2.2.2.2.2.2.1
theorem yN.pd {S : Nat → Int32} {D : yD} (h : yN S D) : ∀ p, p < 40 → S (8 + 8 * p + 2) = D.pd p := h.2.2.2.2.2.2.2.2.2.1
theorem yN.fr {S : Nat → Int32} {D : yD} (h : yN S D) : ∀ p, p < 40 → S (8 + 8 * p + 3) = D.fr p := h.2.2.2.2.2.2.2.2.2.2.1
theorem yN.tk {S : Nat → Int32} {D : yD} (h : yN S D) : ∀ p, p < 40 → S (8 + 8 * p + 4) = D.tk p := h.2.2.2.2.2.2.2.2.2.2.2.1
theorem yN.du {S : Nat → Int32} {D : yD} (h : yN S D) : ∀ p, p < 40 → S (8 + 8 * p + 5) = D.du p := h.2.2.2.2.2.2.2.2.2.2.2.2.1
theorem yN.og {S : Nat → Int32} {D : yD} (h : yN S D) : ∀ p, p < 40 → S (8 + 8 * p + 6) = D.og p := h.2.2.2.2.2.2.2.2.2.2.2.2.2.1
theorem yN.fm {S : Nat → Int32} {D : yD} (h : yN S D) : ∀ p, p < 40 → S (8 + 8 * p + 7) = D.fm p := h.2.2.2.2.2.2.2.2.2.2.2.2.2.2.1
theorem yN.bp {S : Nat → Int32} {D : yD} (h : yN S D) : ∀ p, p < 40 → S (8 + 8 * p + 1) = yb (D.bp p) := h.2.2.2.2.2.2.2.2.2.2.2.2.2.2.2.1
theorem yN.fp {S : Nat → Int32} {D : yD} (h : yN S D) : ∀ g, g < D.f → S (328 + 2 * g) = yI (D.fp g) := h.2.2.2.2.2.2.2.2.2.2.2.2.2.2.2.2.1
theorem yN.fl {S : Nat → Int32} {D : yD} (h : yN S D) : ∀ g, g < D.f → S (328 + 2 * g + 1) = D.fl g := h.2.2.2.2.2.2.2.2.2.2.2.2.2.2.2.2.2.1
theorem yN.cc {S : Nat → Int32} {D : yD} (h : yN S D) : ∀ i, i < D.cn → S (340 + ycp D.cg i) = (if 0 ≤ D.cg i then 0 else if -2 ≤ D.cg i then 1 else -1 - D.cg i) ∧ (-2 ≤ D.cg i → S (340 + ycp D.cg i + 1) = if 0 ≤ D.cg i then D.cg i else -1 - D.cg i) := h.2.2.2.2.2.2.2.2.2.2.2.2.2.2.2.2.2.2
abbrev yM (S : Nat → Int32) (D : yD) : Prop := yDok D ∧ yN S D
theorem yM.ok {S : Nat → Int32} {D : yD} (h : yM S D) : yDok D := h.1
theorem yM.v {S : Nat → Int32} {D : yD} (h : yM S D) : yN S D := h.2
theorem yM.n {S : Nat → Int32} {D : yD} (h : yM S D) : S 0 = yI D.n := h.2.1
theorem yM.un {S : Nat → Int32} {D : yD} (h : yM S D) : S 1 = D.un := h.2.2.1
theorem yM.lv {S : Nat → Int32} {D : yD} (h : yM S D) : S 2 = D.lv := h.2.2.2.1
theorem yM.f {S : Nat → Int32} {D : yD} (h : yM S D) : S 3 = yI D.f := h.2.2.2.2.1
theorem yM.sh {S : Nat → Int32} {D : yD} (h : yM S D) : S 4 = D.sh := h.2.2.2.2.2.1
theorem yM.ac {S : Nat → Int32} {D : yD} (h : yM S D) : S 5 = D.ac := h.2.2.2.2.2.2.1
theorem yM.hc {S : Nat → Int32} {D : yD} (h : yM S D) : S 6 = if D.cn = 0 then 0 else 1 := h.2.2.2.2.2.2.2.1
theorem yM.nc {S : Nat → Int32} {D : yD} (h : yM S D) : S 7 = yI (ycp D.cg D.cn) := h.2.2.2.2.2.2.2.2.1
theorem yM.kd {S : Nat → Int32} {D : yD} (h : yM S D) : ∀ p, p < 40 → S (8 + 8 * p + 0) = D.kd p := h.2.2.2.2.2.2.2.2.2.1
theorem yM.pd {S : Nat → Int32} {D : yD} (h : yM S D) : ∀ p, p < 40 → S (8 + 8 * p + 2) = D.pd p := h.2.2.2.2.2.2.2.2.2.2.1
theorem yM.fr {S : Nat → Int32} {D : yD} (h : yM S D) : ∀ p, p < 40 → S (8 + 8 * p + 3) = D.fr p := h.2.2.2.2.2.2.2.2.2.2.2.1
theorem yM.tk {S : Nat → Int32} {D : yD} (h : yM S D) : ∀ p, p < 40 → S (8 + 8 * p + 4) = D.tk p := h.2.2.2.2.2.2.2.2.2.2.2.2.1
theorem yM.du {S : Nat → Int32} {D : yD} (h : yM S D) : ∀ p, p < 40 → S (8 + 8 * p + 5) = D.du p := h.2.2.2.2.2.2.2.2.2.2.2.2.2.1
theorem yM.og {S : Nat → Int32} {D : yD} (h : yM S D) : ∀ p, p < 40 → S (8 + 8 * p + 6) = D.og p := h.2.2.2.2.2.2.2.2.2.2.2.2.2.2.1
theorem yM.fm {S : Nat → Int32} {D : yD} (h : yM S D) : ∀ p, p < 40 → S (8 + 8 * p + 7) = D.fm p := h.2.2.2.2.2.2.2.2.2.2.2.2.2.2.2.1
theorem yM.bp {S : Nat → Int32} {D : yD} (h : yM S D) : ∀ p, p < 40 → S (8 + 8 * p + 1) = yb (D.bp p) := h.2.2.2.2.2.2.2.2.2.2.2.2.2.2.2.2.1
theorem yM.fp {S : Nat → Int32} {D : yD} (h : yM S D) : ∀ g, g < D.f → S (328 + 2 * g) = yI (D.fp g) := h.2.2.2.2.2.2.2.2.2.2.2.2.2.2.2.2.2.1
theorem yM.fl {S : Nat → Int32} {D : yD} (h : yM S D) : ∀ g, g < D.f → S (328 + 2 * g + 1) = D.fl g := h.2.2.2.2.2.2.2.2.2.2.2.2.2.2.2.2.2.2.1
theorem yM.cc {S : Nat → Int32} {D : yD} (h : yM S D) : ∀ i, i < D.cn → S (340 + ycp D.cg i) = (if 0 ≤ D.cg i then 0 else if -2 ≤ D.cg i then 1 else -1 - D.cg i) ∧ (-2 ≤ D.cg i → S (340 + ycp D.cg i + 1) = if 0 ≤ D.cg i then D.cg i else -1 - D.cg i) := h.2.2.2.2.2.2.2.2.2.2.2.2.2.2.2.2.2.2.2
theorem yDok_sfr {D : yD} {v : Nat → Int32} (h : yDok D) : yDok (D.sfr v) := h
theorem yDok_stk {D : yD} {v : Nat → Int32} (h : yDok D) : yDok (D.stk v) := h
theorem yDok_sdu {D : yD} {v : Nat → Int32} (h : yDok D) : yDok (D.sdu v) := h
theorem yDok_sfm {D : yD} {v : Nat → Int32} (h : yDok D) : yDok (D.sfm v) := h
theorem yDok_ssh {D : yD} {v : Int32} (h : yDok D) : yDok (D.ssh v) := h
theorem yDok_sac {D : yD} {v : Int32} (h : yDok D) : yDok (D.sac v) := h
theorem yupd_ne {f : Nat → Int32} {a b : Nat} {v : Int32} (h : b ≠ a) : upd f a v b = f b := by
  unfold upd
  rw [if_neg h]
theorem yupd_same {f : Nat → Int32} {a : Nat} {v : Int32} : upd f a v a = v := by
  unfold upd
  rw [if_pos rfl]
theorem yupd_if {f : Nat → Int32} {a b : Nat} {v : Int32} : upd f a v b = if b = a then v else f b := rfl
theorem ys1_ne {t : yT} {a b j : Nat} {v : Int32} (h : b ≠ a) : (t.s1 a j v).A b = t.A b := by
  rw [ys1_A, if_neg h]
theorem ys1_upd {t : yT} {a j : Nat} {v : Int32} : (t.s1 a j v).A a = upd (t.A a) j v := by
  rw [ys1_A, if_pos rfl]
theorem ys1_same {t : yT} {a j : Nat} {v : Int32} : (t.s1 a j v).A a j = v := by
  rw [ys1_upd, yupd_same]
theorem ysA_same {t : yT} {a : Nat} {f : Nat → Int32} : (t.sA a f).A a = f := by
  rw [ysA_A, if_pos rfl]
theorem ysA_ne {t : yT} {a b : Nat} {f : Nat → Int32} (h : b ≠ a) : (t.sA a f).A b = t.A b := by
  rw [ysA_A, if_neg h]
theorem ysL_same {t : yT} {a j : Nat} {v : Int64} : (t.sL a j v).L a = vp_updL (t.L a) j v := by
  rw [ysL_L, if_pos rfl]
theorem ysL_ne {t : yT} {a b j : Nat} {v : Int64} (h : b ≠ a) : (t.sL a j v).L b = t.L b := by
  rw [ysL_L, if_neg h]
/-- what lies elsewhere than at these places stays -/
abbrev yFr (P : Nat → Prop) (t u : yT) : Prop := (∀ a, ¬ P a → u.A a = t.A a ∧ (u.L a = t.L a ∧ u.R a = t.R a)) ∧ (u.K = t.K ∧ u.z = t.z)
theorem yFr.rfl' {P : Nat → Prop} {t : yT} : yFr P t t := ⟨fun _ _ => ⟨rfl, rfl, rfl⟩, rfl, rfl⟩
theorem yFr.A {P : Nat → Prop} {t u : yT} (h : yFr P t u) {a : Nat} (ha : ¬ P a) : u.A a = t.A a := (h.1 a ha).1
theorem yFr.L {P : Nat → Prop} {t u : yT} (h : yFr P t u) {a : Nat} (ha : ¬ P a) : u.L a = t.L a := (h.1 a ha).2.1
theorem yFr.R {P : Nat → Prop} {t u : yT} (h : yFr P t u) {a : Nat} (ha : ¬ P a) : u.R a = t.R a := (h.1 a ha).2.2
theorem yFr.K {P : Nat → Prop} {t u : yT} (h : yFr P t u) : u.K = t.K := h.2.1
theorem yFr.z {P : Nat → Prop} {t u : yT} (h : yFr P t u) : u.z = t.z := h.2.2
theorem yFr.trans {P P' P'' : Nat → Prop} {t u v : yT} (h : yFr P t u) (h' : yFr P' u v) (hp : ∀ a, P a ∨ P' a → P'' a) : yFr P'' t v := by
  refine ⟨fun a ha => ?_, h'.K.trans h.K, h'.z.trans h.z⟩
  have h1 : ¬ P a := fun q => ha (hp a (Or.inl q))
  have h2 : ¬ P' a := fun q => ha (hp a (Or.inr q))
  exact ⟨(h'.A h2).trans (h.A h1), (h'.L h2).trans (h.L h1), (h'.R h2).trans (h.R h1)⟩
theorem yFr.mono {P P' : Nat → Prop} {t u : yT} (h : yFr P t u) (hp : ∀ a, P a → P' a) : yFr P' t u :=
  ⟨fun a ha => h.1 a (fun q => ha (hp a q)), h.2⟩
theorem yFr_s1 {P : Nat → Prop} {t : yT} {a j : Nat} {v : Int32} (h : P a) : yFr P t (t.s1 a j v) :=
  ⟨fun b hb => ⟨ys1_ne (fun e => hb (e ▸ h)), rfl, rfl⟩, rfl, rfl⟩
theorem yFr_sA {P : Nat → Prop} {t : yT} {a : Nat} {f : Nat → Int32} (h : P a) : yFr P t (t.sA a f) :=
  ⟨fun b hb => ⟨ysA_ne (fun e => hb (e ▸ h)), rfl, rfl⟩, rfl, rfl⟩
theorem yFr_sL {P : Nat → Prop} {t : yT} {a j : Nat} {v : Int64} (h : P a) : yFr P t (t.sL a j v) :=
  ⟨fun b hb => ⟨rfl, ysL_ne (fun e => hb (e ▸ h)), rfl⟩, rfl, rfl⟩
theorem yFr_sR {P : Nat → Prop} {t : yT} {a v : Nat} (h : P a) : yFr P t (t.sR a v) :=
  ⟨fun b hb => ⟨rfl, rfl, by rw [ysR_R, if_neg (fun (e : b = a) => hb (e ▸ h))]⟩, rfl, rfl⟩
theorem yV_of {t u : yT} {o : Nat} {D : yD} (V : yV t o D) (hA : ∀ a, o ≤ a → a ≤ o + 9 → u.A a = t.A a) (hL : u.L o = t.L o) (hR : u.R o = t.R o) (hK : u.K (t.R o) = t.K (t.R o)) : yV u o D := by
  refine ⟨V.oo, ?_, ?_, ?_, ?_, ?_, ?_, ?_, ?_, ?_, ?_, ?_, ?_, ?_, ?_, ?_, ?_, ?_, ?_⟩
  · rw [hA o (by omega) (by omega)]; exact V.n
  · rw [hA o (by omega) (by omega)]; exact V.un
  · rw [hA o (by omega) (by omega)]; exact V.lv
  · rw [hA o (by omega) (by omega)]; exact V.f
  · rw [hA o (by omega) (by omega)]; exact V.sh
  · rw [hA o (by omega) (by omega)]; exact V.ac
  · rw [hL]; exact V.bw
  · rw [hR]; exact V.c1
  · rw [hR, hK]; exact V.cv
  · rw [hA (o + 1) (by omega) (by omega)]; exact V.fm
  · rw [hA (o + 2) (by omega) (by omega)]; exact V.du
  · rw [hA (o + 3) (by omega) (by omega)]; exact V.kd
  · rw [hA (o + 4) (by omega) (by omega)]; exact V.pd
  · rw [hA (o + 5) (by omega) (by omega)]; exact V.fr
  · rw [hA (o + 6) (by omega) (by omega)]; exact V.tk
  · rw [hA (o + 7) (by omega) (by omega)]; exact V.og
  · rw [hA (o + 8) (by omega) (by omega)]; exact V.fp
  · rw [hA (o + 9) (by omega) (by omega)]; exact V.fl
theorem yV_fr {P : Nat → Prop} {t u : yT} {o : Nat} {D : yD} (V : yV t o D) (h : yFr P t u) (hP : ∀ a, o ≤ a → a ≤ o + 9 → ¬ P a) : yV u o D :=
  yV_of V (fun a h1 h2 => h.A (hP a h1 h2)) (h.L (hP o (by omega) (by omega))) (h.R (hP o (by omega) (by omega))) (by rw [h.K])
theorem yW_fr {P : Nat → Prop} {t u : yT} {o : Nat} {D : yD} (W : yW t o D) (h : yFr P t u) (hP : ∀ a, o ≤ a → a ≤ o + 9 → ¬ P a) : yW u o D := ⟨W.ok, yV_fr W.v h hP⟩
theorem yV_sfm {t : yT} {o : Nat} {D : yD} {p : Nat} {v : Int32} (V : yV t o D) : yV (t.s1 (o + 1) p v) o (D.sfm (upd D.fm p v)) := by
  refine ⟨V.oo, ?_, ?_, ?_, ?_, ?_, ?_, ?_, ?_, ?_, ?_, ?_, ?_, ?_, ?_, ?_, ?_, ?_, ?_⟩
  · rw [ys1_ne (by omega)]; exact V.n
  · rw [ys1_ne (by omega)]; exact V.un
  · rw [ys1_ne (by omega)]; exact V.lv
  · rw [ys1_ne (by omega)]; exact V.f
  · rw [ys1_ne (by omega)]; exact V.sh
  · rw [ys1_ne (by omega)]; exact V.ac
  · exact V.bw
  · exact V.c1
  · exact V.cv
  · intro q hq
    rw [ys1_upd]
    show (if q = p then v else _) = if q = p then v else _
    rw [V.fm q hq]
  · rw [ys1_ne (by omega)]; exact V.du
  · rw [ys1_ne (by omega)]; exact V.kd
  · rw [ys1_ne (by omega)]; exact V.pd
  · rw [ys1_ne (by omega)]; exact V.fr
  · rw [ys1_ne (by omega)]; exact V.tk
  · rw [ys1_ne (by omega)]; exact V.og
  · rw [ys1_ne (by omega)]; exact V.fp
  · rw [ys1_ne (by omega)]; exact V.fl
theorem yV_sdu {t : yT} {o : Nat} {D : yD} {p : Nat} {v : Int32} (V : yV t o D) : yV (t.s1 (o + 2) p v) o (D.sdu (upd D.du p v)) := by
  refine ⟨V.oo, ?_, ?_, ?_, ?_, ?_, ?_, ?_, ?_, ?_, ?_, ?_, ?_, ?_, ?_, ?_, ?_, ?_, ?_⟩
  · rw [ys1_ne (by omega)]; exact V.n
  · rw [ys1_ne (by omega)]; exact V.un
  · rw [ys1_ne (by omega)]; exact V.lv
  · rw [ys1_ne (by omega)]; exact V.f
  · rw [ys1_ne (by omega)]; exact V.sh
  · rw [ys1_ne (by omega)]; exact V.ac
  · exact V.bw
  · exact V.c1
  · exact V.cv
  · rw [ys1_ne (by omega)]; exact V.fm
  · intro q hq
    rw [ys1_upd]
    show (if q = p then v else _) = if q = p then v else _
    rw [V.du q hq]
  · rw [ys1_ne (by omega)]; exact V.kd
  · rw [ys1_ne (by omega)]; exact V.pd
  · rw [ys1_ne (by omega)]; exact V.fr
  · rw [ys1_ne (by omega)]; exact V.tk
  · rw [ys1_ne (by omega)]; exact V.og
  · rw [ys1_ne (by omega)]; exact V.fp
  · rw [ys1_ne (by omega)]; exact V.fl
theorem yV_skd {t : yT} {o : Nat} {D : yD} {p : Nat} {v : Int32} (V : yV t o D) : yV (t.s1 (o + 3) p v) o (D.skd (upd D.kd p v)) := by
  refine ⟨V.oo, ?_, ?_, ?_, ?_, ?_, ?_, ?_, ?_, ?_, ?_, ?_, ?_, ?_, ?_, ?_, ?_, ?_, ?_⟩
  · rw [ys1_ne (by omega)]; exact V.n
  · rw [ys1_ne (by omega)]; exact V.un
  · rw [ys1_ne (by omega)]; exact V.lv
  · rw [ys1_ne (by omega)]; exact V.f
  · rw [ys1_ne (by omega)]; exact V.sh
  · rw [ys1_ne (by omega)]; exact V.ac
  · exact V.bw
  · exact V.c1
  · exact V.cv
  · rw [ys1_ne (by omega)]; exact V.fm
  · rw [ys1_ne (by omega)]; exact V.du
  · intro q hq
    rw [ys1_upd]
    show (if q = p then v else _) = if q = p then v else _
    rw [V.kd q hq]
  · rw [ys1_ne (by omega)]; exact V.pd
  · rw [ys1_ne (by omega)]; exact V.fr
  · rw [ys1_ne (by omega)]; exact V.tk
  · rw [ys1_ne (by omega)]; exact V.og
  · rw [ys1_ne (by omega)]; exact V.fp
  · rw [ys1_ne (by omega)]; exact V.fl
theorem yV_spd {t : yT} {o : Nat} {D : yD} {p : Nat} {v : Int32} (V : yV t o D) : yV (t.s1 (o + 4) p v) o (D.spd (upd D.pd p v)) := by
  refine ⟨V.oo, ?_, ?_, ?_, ?_, ?_, ?_, ?_, ?_, ?_, ?_, ?_, ?_, ?_, ?_, ?_, ?_, ?_, ?_⟩
  · rw [ys1_ne (by omega)]; exact V.n
  · rw [ys1_ne (by omega)]; exact V.un
  · rw [ys1_ne (by omega)]; exact V.lv
  · rw [ys1_ne (by omega)]; exact V.f
  · rw [ys1_ne (by omega)]; exact V.sh
  · rw [ys1_ne (by omega)]; exact V.ac
  · exact V.bw
  · exact V.c1
  · exact V.cv
  · rw [ys1_ne (by omega)]; exact V.fm
  · rw [ys1_ne (by omega)]; exact V.du
  · rw [ys1_ne (by omega)]; exact V.kd
  · intro q hq
    rw [ys1_upd]
    show (if q = p then v else _) = if q = p then v else _
    rw [V.pd q hq]
  · rw [ys1_ne (by omega)]; exact V.fr
  · rw [ys1_ne (by omega)]; exact V.tk
  · rw [ys1_ne (by omega)]; exact V.og
  · rw [ys1_ne (by omega)]; exact V.fp
  · rw [ys1_ne (by omega)]; exact V.fl
theorem yV_sfr {t : yT} {o : Nat} {D : yD} {p : Nat} {v : Int32} (V : yV t o D) : yV (t.s1 (o + 5) p v) o (D.sfr (upd D.fr p v)) := by
  refine ⟨V.oo, ?_, ?_, ?_, ?_, ?_, ?_, ?_, ?_, ?_, ?_, ?_, ?_, ?_, ?_, ?_, ?_, ?_, ?_⟩
  · rw [ys1_ne (by omega)]; exact V.n
  · rw [ys1_ne (by omega)]; exact V.un
  · rw [ys1_ne (by omega)]; exact V.lv
  · rw [ys1_ne (by omega)]; exact V.f
  · rw [ys1_ne (by omega)]; exact V.sh
  · rw [ys1_ne (by omega)]; exact V.ac
  · exact V.bw
  · exact V.c1
  · exact V.cv
  · rw [ys1_ne (by omega)]; exact V.fm
  · rw [ys1_ne (by omega)]; exact V.du
  · rw [ys1_ne (by omega)]; exact V.kd
  · rw [ys1_ne (by omega)]; exact V.pd
  · intro q hq
    rw [ys1_upd]
    show (if q = p then v else _) = if q = p then v else _
    rw [V.fr q hq]
  · rw [ys1_ne (by omega)]; exact V.tk
  · rw [ys1_ne (by omega)]; exact V.og
  · rw [ys1_ne (by omega)]; exact V.fp
  · rw [ys1_ne (by omega)]; exact V.fl
theorem yV_stk {t : yT} {o : Nat} {D : yD} {p : Nat} {v : Int32} (V : yV t o D) : yV (t.s1 (o + 6) p v) o (D.stk (upd D.tk p v)) := by
  refine ⟨V.oo, ?_, ?_, ?_, ?_, ?_, ?_, ?_, ?_, ?_, ?_, ?_, ?_, ?_, ?_, ?_, ?_, ?_, ?_⟩
  · rw [ys1_ne (by omega)]; exact V.n
  · rw [ys1_ne (by omega)]; exact V.un
  · rw [ys1_ne (by omega)]; exact V.lv
  · rw [ys1_ne (by omega)]; exact V.f
  · rw [ys1_ne (by omega)]; exact V.sh
  · rw [ys1_ne (by omega)]; exact V.ac
  · exact V.bw
  · exact V.c1
  · exact V.cv
  · rw [ys1_ne (by omega)]; exact V.fm
  · rw [ys1_ne (by omega)]; exact V.du
  · rw [ys1_ne (by omega)]; exact V.kd
  · rw [ys1_ne (by omega)]; exact V.pd
  · rw [ys1_ne (by omega)]; exact V.fr
  · intro q hq
    rw [ys1_upd]
    show (if q = p then v else _) = if q = p then v else _
    rw [V.tk q hq]
  · rw [ys1_ne (by omega)]; exact V.og
  · rw [ys1_ne (by omega)]; exact V.fp
  · rw [ys1_ne (by omega)]; exact V.fl
theorem yV_sog {t : yT} {o : Nat} {D : yD} {p : Nat} {v : Int32} (V : yV t o D) : yV (t.s1 (o + 7) p v) o (D.sog (upd D.og p v)) := by
  refine ⟨V.oo, ?_, ?_, ?_, ?_, ?_, ?_, ?_, ?_, ?_, ?_, ?_, ?_, ?_, ?_, ?_, ?_, ?_, ?_⟩
  · rw [ys1_ne (by omega)]; exact V.n
  · rw [ys1_ne (by omega)]; exact V.un
  · rw [ys1_ne (by omega)]; exact V.lv
  · rw [ys1_ne (by omega)]; exact V.f
  · rw [ys1_ne (by omega)]; exact V.sh
  · rw [ys1_ne (by omega)]; exact V.ac
  · exact V.bw
  · exact V.c1
  · exact V.cv
  · rw [ys1_ne (by omega)]; exact V.fm
  · rw [ys1_ne (by omega)]; exact V.du
  · rw [ys1_ne (by omega)]; exact V.kd
  · rw [ys1_ne (by omega)]; exact V.pd
  · rw [ys1_ne (by omega)]; exact V.fr
  · rw [ys1_ne (by omega)]; exact V.tk
  · intro q hq
    rw [ys1_upd]
    show (if q = p then v else _) = if q = p then v else _
    rw [V.og q hq]
  · rw [ys1_ne (by omega)]; exact V.fp
  · rw [ys1_ne (by omega)]; exact V.fl
theorem yV_sfl {t : yT} {o : Nat} {D : yD} {p : Nat} {v : Int32} (V : yV t o D) : yV (t.s1 (o + 9) p v) o (D.sfl (upd D.fl p v)) := by
  refine ⟨V.oo, ?_, ?_, ?_, ?_, ?_, ?_, ?_, ?_, ?_, ?_, ?_, ?_, ?_, ?_, ?_, ?_, ?_, ?_⟩
  · rw [ys1_ne (by omega)]; exact V.n
  · rw [ys1_ne (by omega)]; exact V.un
  · rw [ys1_ne (by omega)]; exact V.lv
  · rw [ys1_ne (by omega)]; exact V.f
  · rw [ys1_ne (by omega)]; exact V.sh
  · rw [ys1_ne (by omega)]; exact V.ac
  · exact V.bw
  · exact V.c1
  · exact V.cv
  · rw [ys1_ne (by omega)]; exact V.fm
  · rw [ys1_ne (by omega)]; exact V.du
  · rw [ys1_ne (by omega)]; exact V.kd
  · rw [ys1_ne (by omega)]; exact V.pd
  · rw [ys1_ne (by omega)]; exact V.fr
  · rw [ys1_ne (by omega)]; exact V.tk
  · rw [ys1_ne (by omega)]; exact V.og
  · rw [ys1_ne (by omega)]; exact V.fp
  · intro q hq
    rw [ys1_upd]
    show (if q = p then v else _) = if q = p then v else _
    rw [V.fl q hq]
theorem yV_slv {t : yT} {o : Nat} {D : yD} {v : Int32} (V : yV t o D) : yV (t.s1 o 11 v) o (D.slv v) := by
  refine ⟨V.oo, ?_, ?_, ?_, ?_, ?_, ?_, ?_, ?_, ?_, ?_, ?_, ?_, ?_, ?_, ?_, ?_, ?_, ?_⟩
  · rw [ys1_upd, yupd_ne (by decide)]; exact V.n
  · rw [ys1_upd, yupd_ne (by decide)]; exact V.un
  · rw [ys1_upd, yupd_same]; rfl
  · rw [ys1_upd, yupd_ne (by decide)]; exact V.f
  · rw [ys1_upd, yupd_ne (by decide)]; exact V.sh
  · rw [ys1_upd, yupd_ne (by decide)]; exact V.ac
  · exact V.bw
  · exact V.c1
  · exact V.cv
  · rw [ys1_ne (by omega)]; exact V.fm
  · rw [ys1_ne (by omega)]; exact V.du
  · rw [ys1_ne (by omega)]; exact V.kd
  · rw [ys1_ne (by omega)]; exact V.pd
  · rw [ys1_ne (by omega)]; exact V.fr
  · rw [ys1_ne (by omega)]; exact V.tk
  · rw [ys1_ne (by omega)]; exact V.og
  · rw [ys1_ne (by omega)]; exact V.fp
  · rw [ys1_ne (by omega)]; exact V.fl
theorem yV_ssh {t : yT} {o : Nat} {D : yD} {v : Int32} (V : yV t o D) : yV (t.s1 o 13 v) o (D.ssh v) := by
  refine ⟨V.oo, ?_, ?_, ?_, ?_, ?_, ?_, ?_, ?_, ?_, ?_, ?_, ?_, ?_, ?_, ?_, ?_, ?_, ?_⟩
  · rw [ys1_upd, yupd_ne (by decide)]; exact V.n
  · rw [ys1_upd, yupd_ne (by decide)]; exact V.un
  · rw [ys1_upd, yupd_ne (by decide)]; exact V.lv
  · rw [ys1_upd, yupd_ne (by decide)]; exact V.f
  · rw [ys1_upd, yupd_same]; rfl
  · rw [ys1_upd, yupd_ne (by decide)]; exact V.ac
  · exact V.bw
  · exact V.c1
  · exact V.cv
  · rw [ys1_ne (by omega)]; exact V.fm
  · rw [ys1_ne (by omega)]; exact V.du
  · rw [ys1_ne (by omega)]; exact V.kd
  · rw [ys1_ne (by omega)]; exact V.pd
  · rw [ys1_ne (by omega)]; exact V.fr
  · rw [ys1_ne (by omega)]; exact V.tk
  · rw [ys1_ne (by omega)]; exact V.og
  · rw [ys1_ne (by omega)]; exact V.fp
  · rw [ys1_ne (by omega)]; exact V.fl
theorem yV_sac {t : yT} {o : Nat} {D : yD} {v : Int32} (V : yV t o D) : yV (t.s1 o 14 v) o (D.sac v) := by
  refine ⟨V.oo, ?_, ?_, ?_, ?_, ?_, ?_, ?_, ?_, ?_, ?_, ?_, ?_, ?_, ?_, ?_, ?_, ?_, ?_⟩
  · rw [ys1_upd, yupd_ne (by decide)]; exact V.n
  · rw [ys1_upd, yupd_ne (by decide)]; exact V.un
  · rw [ys1_upd, yupd_ne (by decide)]; exact V.lv
  · rw [ys1_upd, yupd_ne (by decide)]; exact V.f
  · rw [ys1_upd, yupd_ne (by decide)]; exact V.sh
  · rw [ys1_upd, yupd_same]; rfl
  · exact V.bw
  · exact V.c1
  · exact V.cv
  · rw [ys1_ne (by omega)]; exact V.fm
  · rw [ys1_ne (by omega)]; exact V.du
  · rw [ys1_ne (by omega)]; exact V.kd
  · rw [ys1_ne (by omega)]; exact V.pd
  · rw [ys1_ne (by omega)]; exact V.fr
  · rw [ys1_ne (by omega)]; exact V.tk
  · rw [ys1_ne (by omega)]; exact V.og
  · rw [ys1_ne (by omega)]; exact V.fp
  · rw [ys1_ne (by omega)]; exact V.fl
theorem yV_sbw {t : yT} {o : Nat} {D : yD} {w : Nat} (V : yV t o D) : yV (t.sL o 15 (Int64.ofNat w)) o (D.sbw w) := by
  refine ⟨V.oo, ?_, ?_, ?_, ?_, ?_, ?_, ?_, ?_, ?_, ?_, ?_, ?_, ?_, ?_, ?_, ?_, ?_, ?_⟩
  · exact V.n
  · exact V.un
  · exact V.lv
  · exact V.f
  · exact V.sh
  · exact V.ac
  · rw [ysL_same]; exact if_pos rfl
  · exact V.c1
  · exact V.cv
  · exact V.fm
  · exact V.du
  · exact V.kd
  · exact V.pd
  · exact V.fr
  · exact V.tk
  · exact V.og
  · exact V.fp
  · exact V.fl
theorem yN_skd {S : Nat → Int32} {D : yD} {p : Nat} {v : Int32} (N : yN S D) (hp : p < 40) : yN (upd S (8 + 8 * p + 0) v) (D.skd (upd D.kd p v)) := by
  refine ⟨?_, ?_, ?_, ?_, ?_, ?_, ?_, ?_, ?_, ?_, ?_, ?_, ?_, ?_, ?_, ?_, ?_, ?_, ?_⟩
  · rw [yupd_ne (by omega)]; exact N.n
  · rw [yupd_ne (by omega)]; exact N.un
  · rw [yupd_ne (by omega)]; exact N.lv
  · rw [yupd_ne (by omega)]; exact N.f
  · rw [yupd_ne (by omega)]; exact N.sh
  · rw [yupd_ne (by omega)]; exact N.ac
  · rw [yupd_ne (by omega)]; exact N.hc
  · rw [yupd_ne (by omega)]; exact N.nc
  · intro q hq
    show (if _ then v else _) = if q = p then v else _
    by_cases e : q = p
    · rw [if_pos (by omega), if_pos e]
    · rw [if_neg (by omega), if_neg e]
      exact N.kd q hq
  · intro q hq; rw [yupd_ne (by omega)]; exact N.pd q hq
  · intro q hq; rw [yupd_ne (by omega)]; exact N.fr q hq
  · intro q hq; rw [yupd_ne (by omega)]; exact N.tk q hq
  · intro q hq; rw [yupd_ne (by omega)]; exact N.du q hq
  · intro q hq; rw [yupd_ne (by omega)]; exact N.og q hq
  · intro q hq; rw [yupd_ne (by omega)]; exact N.fm q hq
  · intro q hq; rw [yupd_ne (by omega)]; exact N.bp q hq
  · intro g hg; rw [yupd_ne (by omega)]; exact N.fp g hg
  · intro g hg; rw [yupd_ne (by omega)]; exact N.fl g hg
  · intro i hi; rw [yupd_ne (by omega), yupd_ne (by omega)]; exact N.cc i hi
theorem yN_spd {S : Nat → Int32} {D : yD} {p : Nat} {v : Int32} (N : yN S D) (hp : p < 40) : yN (upd S (8 + 8 * p + 2) v) (D.spd (upd D.pd p v)) := by
  refine ⟨?_, ?_, ?_, ?_, ?_, ?_, ?_, ?_, ?_, ?_, ?_, ?_, ?_, ?_, ?_, ?_, ?_, ?_, ?_⟩
  · rw [yupd_ne (by omega)]; exact N.n
  · rw [yupd_ne (by omega)]; exact N.un
  · rw [yupd_ne (by omega)]; exact N.lv
  · rw [yupd_ne (by omega)]; exact N.f
  · rw [yupd_ne (by omega)]; exact N.sh
  · rw [yupd_ne (by omega)]; exact N.ac
  · rw [yupd_ne (by omega)]; exact N.hc
  · rw [yupd_ne (by omega)]; exact N.nc
  · intro q hq; rw [yupd_ne (by omega)]; exact N.kd q hq
  · intro q hq
    show (if _ then v else _) = if q = p then v else _
    by_cases e : q = p
    · rw [if_pos (by omega), if_pos e]
    · rw [if_neg (by omega), if_neg e]
      exact N.pd q hq
  · intro q hq; rw [yupd_ne (by omega)]; exact N.fr q hq
  · intro q hq; rw [yupd_ne (by omega)]; exact N.tk q hq
  · intro q hq; rw [yupd_ne (by omega)]; exact N.du q hq
  · intro q hq; rw [yupd_ne (by omega)]; exact N.og q hq
  · intro q hq; rw [yupd_ne (by omega)]; exact N.fm q hq
  · intro q hq; rw [yupd_ne (by omega)]; exact N.bp q hq
  · intro g hg; rw [yupd_ne (by omega)]; exact N.fp g hg
  · intro g hg; rw [yupd_ne (by omega)]; exact N.fl g hg
  · intro i hi; rw [yupd_ne (by omega), yupd_ne (by omega)]; exact N.cc i hi
theorem yN_sfr {S : Nat → Int32} {D : yD} {p : Nat} {v : Int32} (N : yN S D) (hp : p < 40) : yN (upd S (8 + 8 * p + 3) v) (D.sfr (upd D.fr p v)) := by
  refine ⟨?_, ?_, ?_, ?_, ?_, ?_, ?_, ?_, ?_, ?_, ?_, ?_, ?_, ?_, ?_, ?_, ?_, ?_, ?_⟩
  · rw [yupd_ne (by omega)]; exact N.n
  · rw [yupd_ne (by omega)]; exact N.un
  · rw [yupd_ne (by omega)]; exact N.lv
  · rw [yupd_ne (by omega)]; exact N.f
  · rw [yupd_ne (by omega)]; exact N.sh
  · rw [yupd_ne (by omega)]; exact N.ac
  · rw [yupd_ne (by omega)]; exact N.hc
  · rw [yupd_ne (by omega)]; exact N.nc
  · intro q hq; rw [yupd_ne (by omega)]; exact N.kd q hq
  · intro q hq; rw [yupd_ne (by omega)]; exact N.pd q hq
  · intro q hq
    show (if _ then v else _) = if q = p then v else _
    by_cases e : q = p
    · rw [if_pos (by omega), if_pos e]
    · rw [if_neg (by omega), if_neg e]
      exact N.fr q hq
  · intro q hq; rw [yupd_ne (by omega)]; exact N.tk q hq
  · intro q hq; rw [yupd_ne (by omega)]; exact N.du q hq
  · intro q hq; rw [yupd_ne (by omega)]; exact N.og q hq
  · intro q hq; rw [yupd_ne (by omega)]; exact N.fm q hq
  · intro q hq; rw [yupd_ne (by omega)]; exact N.bp q hq
  · intro g hg; rw [yupd_ne (by omega)]; exact N.fp g hg
  · intro g hg; rw [yupd_ne (by omega)]; exact N.fl g hg
  · intro i hi; rw [yupd_ne (by omega), yupd_ne (by omega)]; exact N.cc i hi
theorem yN_stk {S : Nat → Int32} {D : yD} {p : Nat} {v : Int32} (N : yN S D) (hp : p < 40) : yN (upd S (8 + 8 * p + 4) v) (D.stk (upd D.tk p v)) := by
  refine ⟨?_, ?_, ?_, ?_, ?_, ?_, ?_, ?_, ?_, ?_, ?_, ?_, ?_, ?_, ?_, ?_, ?_, ?_, ?_⟩
  · rw [yupd_ne (by omega)]; exact N.n
  · rw [yupd_ne (by omega)]; exact N.un
  · rw [yupd_ne (by omega)]; exact N.lv
  · rw [yupd_ne (by omega)]; exact N.f
  · rw [yupd_ne (by omega)]; exact N.sh
  · rw [yupd_ne (by omega)]; exact N.ac
  · rw [yupd_ne (by omega)]; exact N.hc
  · rw [yupd_ne (by omega)]; exact N.nc
  · intro q hq; rw [yupd_ne (by omega)]; exact N.kd q hq
  · intro q hq; rw [yupd_ne (by omega)]; exact N.pd q hq
  · intro q hq; rw [yupd_ne (by omega)]; exact N.fr q hq
  · intro q hq
    show (if _ then v else _) = if q = p then v else _
    by_cases e : q = p
    · rw [if_pos (by omega), if_pos e]
    · rw [if_neg (by omega), if_neg e]
      exact N.tk q hq
  · intro q hq; rw [yupd_ne (by omega)]; exact N.du q hq
  · intro q hq; rw [yupd_ne (by omega)]; exact N.og q hq
  · intro q hq; rw [yupd_ne (by omega)]; exact N.fm q hq
  · intro q hq; rw [yupd_ne (by omega)]; exact N.bp q hq
  · intro g hg; rw [yupd_ne (by omega)]; exact N.fp g hg
  · intro g hg; rw [yupd_ne (by omega)]; exact N.fl g hg
  · intro i hi; rw [yupd_ne (by omega), yupd_ne (by omega)]; exact N.cc i hi
theorem yN_sdu {S : Nat → Int32} {D : yD} {p : Nat} {v : Int32} (N : yN S D) (hp : p < 40) : yN (upd S (8 + 8 * p + 5) v) (D.sdu (upd D.du p v)) := by
  refine ⟨?_, ?_, ?_, ?_, ?_, ?_, ?_, ?_, ?_, ?_, ?_, ?_, ?_, ?_, ?_, ?_, ?_, ?_, ?_⟩
  · rw [yupd_ne (by omega)]; exact N.n
  · rw [yupd_ne (by omega)]; exact N.un
  · rw [yupd_ne (by omega)]; exact N.lv
  · rw [yupd_ne (by omega)]; exact N.f
  · rw [yupd_ne (by omega)]; exact N.sh
  · rw [yupd_ne (by omega)]; exact N.ac
  · rw [yupd_ne (by omega)]; exact N.hc
  · rw [yupd_ne (by omega)]; exact N.nc
  · intro q hq; rw [yupd_ne (by omega)]; exact N.kd q hq
  · intro q hq; rw [yupd_ne (by omega)]; exact N.pd q hq
  · intro q hq; rw [yupd_ne (by omega)]; exact N.fr q hq
  · intro q hq; rw [yupd_ne (by omega)]; exact N.tk q hq
  · intro q hq
    show (if _ then v else _) = if q = p then v else _
    by_cases e : q = p
    · rw [if_pos (by omega), if_pos e]
    · rw [if_neg (by omega), if_neg e]
      exact N.du q hq
  · intro q hq; rw [yupd_ne (by omega)]; exact N.og q hq
  · intro q hq; rw [yupd_ne (by omega)]; exact N.fm q hq
  · intro q hq; rw [yupd_ne (by omega)]; exact N.bp q hq
  · intro g hg; rw [yupd_ne (by omega)]; exact N.fp g hg
  · intro g hg; rw [yupd_ne (by omega)]; exact N.fl g hg
  · intro i hi; rw [yupd_ne (by omega), yupd_ne (by omega)]; exact N.cc i hi
theorem yN_sog {S : Nat → Int32} {D : yD} {p : Nat} {v : Int32} (N : yN S D) (hp : p < 40) : yN (upd S (8 + 8 * p + 6) v) (D.sog (upd D.og p v)) := by
  refine ⟨?_, ?_, ?_, ?_, ?_, ?_, ?_, ?_, ?_, ?_, ?_, ?_, ?_, ?_, ?_, ?_, ?_, ?_, ?_⟩
  · rw [yupd_ne (by omega)]; exact N.n
  · rw [yupd_ne (by omega)]; exact N.un
  · rw [yupd_ne (by omega)]; exact N.lv
  · rw [yupd_ne (by omega)]; exact N.f
  · rw [yupd_ne (by omega)]; exact N.sh
  · rw [yupd_ne (by omega)]; exact N.ac
  · rw [yupd_ne (by omega)]; exact N.hc
  · rw [yupd_ne (by omega)]; exact N.nc
  · intro q hq; rw [yupd_ne (by omega)]; exact N.kd q hq
  · intro q hq; rw [yupd_ne (by omega)]; exact N.pd q hq
  · intro q hq; rw [yupd_ne (by omega)]; exact N.fr q hq
  · intro q hq; rw [yupd_ne (by omega)]; exact N.tk q hq
  · intro q hq; rw [yupd_ne (by omega)]; exact N.du q hq
  · intro q hq
    show (if _ then v else _) = if q = p then v else _
    by_cases e : q = p
    · rw [if_pos (by omega), if_pos e]
    · rw [if_neg (by omega), if_neg e]
      exact N.og q hq
  · intro q hq; rw [yupd_ne (by omega)]; exact N.fm q hq
  · intro q hq; rw [yupd_ne (by omega)]; exact N.bp q hq
  · intro g hg; rw [yupd_ne (by omega)]; exact N.fp g hg
  · intro g hg; rw [yupd_ne (by omega)]; exact N.fl g hg
  · intro i hi; rw [yupd_ne (by omega), yupd_ne (by omega)]; exact N.cc i hi
theorem yN_sfm {S : Nat → Int32} {D : yD} {p : Nat} {v : Int32} (N : yN S D) (hp : p < 40) : yN (upd S (8 + 8 * p + 7) v) (D.sfm (upd D.fm p v)) := by
  refine ⟨?_, ?_, ?_, ?_, ?_, ?_, ?_, ?_, ?_, ?_, ?_, ?_, ?_, ?_, ?_, ?_, ?_, ?_, ?_⟩
  · rw [yupd_ne (by omega)]; exact N.n
  · rw [yupd_ne (by omega)]; exact N.un
  · rw [yupd_ne (by omega)]; exact N.lv
  · rw [yupd_ne (by omega)]; exact N.f
  · rw [yupd_ne (by omega)]; exact N.sh
  · rw [yupd_ne (by omega)]; exact N.ac
  · rw [yupd_ne (by omega)]; exact N.hc
  · rw [yupd_ne (by omega)]; exact N.nc
  · intro q hq; rw [yupd_ne (by omega)]; exact N.kd q hq
  · intro q hq; rw [yupd_ne (by omega)]; exact N.pd q hq
  · intro q hq; rw [yupd_ne (by omega)]; exact N.fr q hq
  · intro q hq; rw [yupd_ne (by omega)]; exact N.tk q hq
  · intro q hq; rw [yupd_ne (by omega)]; exact N.du q hq
  · intro q hq; rw [yupd_ne (by omega)]; exact N.og q hq
  · intro q hq
    show (if _ then v else _) = if q = p then v else _
    by_cases e : q = p
    · rw [if_pos (by omega), if_pos e]
    · rw [if_neg (by omega), if_neg e]
      exact N.fm q hq
  · intro q hq; rw [yupd_ne (by omega)]; exact N.bp q hq
  · intro g hg; rw [yupd_ne (by omega)]; exact N.fp g hg
  · intro g hg; rw [yupd_ne (by omega)]; exact N.fl g hg
  · intro i hi; rw [yupd_ne (by omega), yupd_ne (by omega)]; exact N.cc i hi
theorem yN_sbp {S : Nat → Int32} {D : yD} {p : Nat} {v : Int32} (N : yN S D) (hp : p < 40) {b : Bool} {w : Nat} (hw : ∀ q, q < 40 → w.testBit q = if q = p then b else D.bp q) : yN (upd S (8 + 8 * p + 1) (yb b)) (D.sbw w) := by
  refine ⟨?_, ?_, ?_, ?_, ?_, ?_, ?_, ?_, ?_, ?_, ?_, ?_, ?_, ?_, ?_, ?_, ?_, ?_, ?_⟩
  · rw [yupd_ne (by omega)]; exact N.n
  · rw [yupd_ne (by omega)]; exact N.un
  · rw [yupd_ne (by omega)]; exact N.lv
  · rw [yupd_ne (by omega)]; exact N.f
  · rw [yupd_ne (by omega)]; exact N.sh
  · rw [yupd_ne (by omega)]; exact N.ac
  · rw [yupd_ne (by omega)]; exact N.hc
  · rw [yupd_ne (by omega)]; exact N.nc
  · intro q hq; rw [yupd_ne (by omega)]; exact N.kd q hq
  · intro q hq; rw [yupd_ne (by omega)]; exact N.pd q hq
  · intro q hq; rw [yupd_ne (by omega)]; exact N.fr q hq
  · intro q hq; rw [yupd_ne (by omega)]; exact N.tk q hq
  · intro q hq; rw [yupd_ne (by omega)]; exact N.du q hq
  · intro q hq; rw [yupd_ne (by omega)]; exact N.og q hq
  · intro q hq; rw [yupd_ne (by omega)]; exact N.fm q hq
  · intro q hq
    show (if _ then yb b else _) = yb (w.testBit q)
    rw [hw q hq]
    by_cases e : q = p
    · rw [if_pos (by omega), if_pos e]
    · rw [if_neg (by omega), if_neg e]
      exact N.bp q hq
  · intro g hg; rw [yupd_ne (by omega)]; exact N.fp g hg
  · intro g hg; rw [yupd_ne (by omega)]; exact N.fl g hg
  · intro i hi; rw [yupd_ne (by omega), yupd_ne (by omega)]; exact N.cc i hi
theorem yN_sfl {S : Nat → Int32} {D : yD} {p : Nat} {v : Int32} (N : yN S D) (hp : p < D.f) (h6 : D.f ≤ 6) : yN (upd S (328 + 2 * p + 1) v) (D.sfl (upd D.fl p v)) := by
  refine ⟨?_, ?_, ?_, ?_, ?_, ?_, ?_, ?_, ?_, ?_, ?_, ?_, ?_, ?_, ?_, ?_, ?_, ?_, ?_⟩
  · rw [yupd_ne (by omega)]; exact N.n
  · rw [yupd_ne (by omega)]; exact N.un
  · rw [yupd_ne (by omega)]; exact N.lv
  · rw [yupd_ne (by omega)]; exact N.f
  · rw [yupd_ne (by omega)]; exact N.sh
  · rw [yupd_ne (by omega)]; exact N.ac
  · rw [yupd_ne (by omega)]; exact N.hc
  · rw [yupd_ne (by omega)]; exact N.nc
  · intro q hq; rw [yupd_ne (by omega)]; exact N.kd q hq
  · intro q hq; rw [yupd_ne (by omega)]; exact N.pd q hq
  · intro q hq; rw [yupd_ne (by omega)]; exact N.fr q hq
  · intro q hq; rw [yupd_ne (by omega)]; exact N.tk q hq
  · intro q hq; rw [yupd_ne (by omega)]; exact N.du q hq
  · intro q hq; rw [yupd_ne (by omega)]; exact N.og q hq
  · intro q hq; rw [yupd_ne (by omega)]; exact N.fm q hq
  · intro q hq; rw [yupd_ne (by omega)]; exact N.bp q hq
  · intro g hg; have := h6; have hg1 : g < D.f := hg; rw [yupd_ne (by omega)]; exact N.fp g hg
  · intro q hq
    show (if _ then v else _) = if q = p then v else _
    by_cases e : q = p
    · rw [if_pos (by omega), if_pos e]
    · rw [if_neg (by omega), if_neg e]
      exact N.fl q hq
  · intro i hi; have := h6; rw [yupd_ne (by omega), yupd_ne (by omega)]; exact N.cc i hi
theorem yN_slv {S : Nat → Int32} {D : yD} {v : Int32} (N : yN S D) : yN (upd S 2 v) (D.slv v) := by
  refine ⟨?_, ?_, ?_, ?_, ?_, ?_, ?_, ?_, ?_, ?_, ?_, ?_, ?_, ?_, ?_, ?_, ?_, ?_, ?_⟩
  · rw [yupd_ne (by decide)]; exact N.n
  · rw [yupd_ne (by decide)]; exact N.un
  · rw [yupd_same]; rfl
  · rw [yupd_ne (by decide)]; exact N.f
  · rw [yupd_ne (by decide)]; exact N.sh
  · rw [yupd_ne (by decide)]; exact N.ac
  · rw [yupd_ne (by decide)]; exact N.hc
  · rw [yupd_ne (by decide)]; exact N.nc
  · intro q hq; rw [yupd_ne (by omega)]; exact N.kd q hq
  · intro q hq; rw [yupd_ne (by omega)]; exact N.pd q hq
  · intro q hq; rw [yupd_ne (by omega)]; exact N.fr q hq
  · intro q hq; rw [yupd_ne (by omega)]; exact N.tk q hq
  · intro q hq; rw [yupd_ne (by omega)]; exact N.du q hq
  · intro q hq; rw [yupd_ne (by omega)]; exact N.og q hq
  · intro q hq; rw [yupd_ne (by omega)]; exact N.fm q hq
  · intro q hq; rw [yupd_ne (by omega)]; exact N.bp q hq
  · intro g hg; rw [yupd_ne (by omega)]; exact N.fp g hg
  · intro g hg; rw [yupd_ne (by omega)]; exact N.fl g hg
  · intro i hi; rw [yupd_ne (by omega), yupd_ne (by omega)]; exact N.cc i hi
theorem yN_ssh {S : Nat → Int32} {D : yD} {v : Int32} (N : yN S D) : yN (upd S 4 v) (D.ssh v) := by
  refine ⟨?_, ?_, ?_, ?_, ?_, ?_, ?_, ?_, ?_, ?_, ?_, ?_, ?_, ?_, ?_, ?_, ?_, ?_, ?_⟩
  · rw [yupd_ne (by decide)]; exact N.n
  · rw [yupd_ne (by decide)]; exact N.un
  · rw [yupd_ne (by decide)]; exact N.lv
  · rw [yupd_ne (by decide)]; exact N.f
  · rw [yupd_same]; rfl
  · rw [yupd_ne (by decide)]; exact N.ac
  · rw [yupd_ne (by decide)]; exact N.hc
  · rw [yupd_ne (by decide)]; exact N.nc
  · intro q hq; rw [yupd_ne (by omega)]; exact N.kd q hq
  · intro q hq; rw [yupd_ne (by omega)]; exact N.pd q hq
  · intro q hq; rw [yupd_ne (by omega)]; exact N.fr q hq
  · intro q hq; rw [yupd_ne (by omega)]; exact N.tk q hq
  · intro q hq; rw [yupd_ne (by omega)]; exact N.du q hq
  · intro q hq; rw [yupd_ne (by omega)]; exact N.og q hq
  · intro q hq; rw [yupd_ne (by omega)]; exact N.fm q hq
  · intro q hq; rw [yupd_ne (by omega)]; exact N.bp q hq
  · intro g hg; rw [yupd_ne (by omega)]; exact N.fp g hg
  · intro g hg; rw [yupd_ne (by omega)]; exact N.fl g hg
  · intro i hi; rw [yupd_ne (by omega), yupd_ne (by omega)]; exact N.cc i hi
theorem yN_sac {S : Nat → Int32} {D : yD} {v : Int32} (N : yN S D) : yN (upd S 5 v) (D.sac v) := by
  refine ⟨?_, ?_, ?_, ?_, ?_, ?_, ?_, ?_, ?_, ?_, ?_, ?_, ?_, ?_, ?_, ?_, ?_, ?_, ?_⟩
  · rw [yupd_ne (by decide)]; exact N.n
  · rw [yupd_ne (by decide)]; exact N.un
  · rw [yupd_ne (by decide)]; exact N.lv
  · rw [yupd_ne (by decide)]; exact N.f
  · rw [yupd_ne (by decide)]; exact N.sh
  · rw [yupd_same]; rfl
  · rw [yupd_ne (by decide)]; exact N.hc
  · rw [yupd_ne (by decide)]; exact N.nc
  · intro q hq; rw [yupd_ne (by omega)]; exact N.kd q hq
  · intro q hq; rw [yupd_ne (by omega)]; exact N.pd q hq
  · intro q hq; rw [yupd_ne (by omega)]; exact N.fr q hq
  · intro q hq; rw [yupd_ne (by omega)]; exact N.tk q hq
  · intro q hq; rw [yupd_ne (by omega)]; exact N.du q hq
  · intro q hq; rw [yupd_ne (by omega)]; exact N.og q hq
  · intro q hq; rw [yupd_ne (by omega)]; exact N.fm q hq
  · intro q hq; rw [yupd_ne (by omega)]; exact N.bp q hq
  · intro g hg; rw [yupd_ne (by omega)]; exact N.fp g hg
  · intro g hg; rw [yupd_ne (by omega)]; exact N.fl g hg
  · intro i hi; rw [yupd_ne (by omega), yupd_ne (by omega)]; exact N.cc i hi
theorem yDok.bw63 {D : yD} (h : yDok D) : D.bw < 2 ^ 63 := by
  have h1 := h.bwn
  have h2 := h.n40
  have h3 : 2 ^ D.n ≤ 2 ^ 40 := Nat.pow_le_pow_right (by decide) h2
  omega
theorem yW.bp {t : yT} {o : Nat} {D : yD} (W : yW t o D) : ∀ p, p < 40 → yin (t.L o 15) (yI p) = D.bp p := by
  intro p hp
  rw [W.bw, yin_nat W.ok.bw63 (by omega)]
  rfl
