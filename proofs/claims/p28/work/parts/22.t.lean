/-! ===== the cells by their places: what lies where once the law has made its objects ===== -/
abbrev yFd : Type := Option (Option (Option Nat))
abbrev yFd.i : yFd := none
abbrev yFd.l : yFd := some none
abbrev yFd.m : yFd := some (some none)
abbrev yFd.c (r : Nat) : yFd := some (some (some r))
abbrev yLay : Type := Option ((Nat × Nat) ⊕ (Nat ⊕ ((Nat × (Nat × (Nat → Option Nat))) ⊕ (Nat × List yFd))))
abbrev yLay.no : yLay := none
abbrev yLay.arr (t n : Nat) : yLay := some (.inl (t, n))
abbrev yLay.arrL (n : Nat) : yLay := some (.inr (.inl n))
abbrev yLay.refs (t n : Nat) (f : Nat → Option Nat) : yLay := some (.inr (.inr (.inl (t, (n, f)))))
abbrev yLay.obj (c : Nat) (l : List yFd) : yLay := some (.inr (.inr (.inr (c, l))))
def ystrips : List Nat := [7, 19, 40, 52, 64, 76, 88, 100, 112, 124, 136, 148]
def ytmS (o : Nat) : List yFd := [.c (o + 1), .c (o + 2), .c (o + 3), .c (o + 4), .c (o + 5), .c (o + 6), .c (o + 7), .c (o + 8), .c (o + 9), .i, .i, .i, .i, .i, .i, .l, .m, .c (o + 10)]
def ytm : Nat → Nat → List yFd
  | 0, _ => [.c 4, .c 5, .m, .i]
  | 1, _ => [.c 39, .i, .i]
  | 2, _ => [.c 1, .c 7, .c 3, .c 35, .c 36, .c 37, .i, .i, .i]
  | 3, _ => [.c 1, .c 19, .c 32, .l, .l, .i, .i]
  | 4, o => ytmS o
  | 5, _ => [.c 1, .c 33, .i]
  | 6, _ => [.c 2, .i, .i, .i, .i, .i, .i, .i, .i, .i]
  | 7, _ => [.c 1, .c 3, .c 7, .c 19, .c 31, .c 34, .c 38, .c 136, .c 148, .i, .i, .i, .i]
  | _, _ => []
/-- the strip at o: its own cell and its ten rows -/
def ylaS (o j : Nat) : yLay := match j with
  | 0 => .obj 4 (ytmS o)
  | 8 => .arr 0 6
  | 9 => .arr 0 6
  | 11 => .no
  | _ => .arr 0 40
def yla (a : Nat) : yLay :=
  if a < 7 then (match a with
    | 0 => .obj 7 (ytm 7 0)
    | 1 => .obj 6 (ytm 6 1)
    | 2 => .arr 1 600
    | 3 => .obj 0 (ytm 0 3)
    | 4 => .arr 0 256
    | 5 => .arr 0 16
    | _ => .no)
  else if a < 19 then ylaS 7 (a - 7)
  else if a < 31 then ylaS 19 (a - 19)
  else if a < 40 then (match a with
    | 31 => .obj 3 (ytm 3 31)
    | 32 => .obj 5 (ytm 5 32)
    | 33 => .arr 0 600
    | 34 => .obj 2 (ytm 2 34)
    | 35 => .arr 0 60
    | 36 => .arr 0 300
    | 37 => .arr 0 60
    | 38 => .obj 1 (ytm 1 38)
    | _ => .refs 4 8 (fun j => if j < 8 then some (40 + 12 * j) else none))
  else if a < 136 then ylaS (40 + 12 * ((a - 40) / 12)) ((a - 40) % 12)
  else if a < 148 then ylaS 136 (a - 136)
  else if a < 160 then ylaS 148 (a - 148)
  else .no
/-- what stands in the cells: ints of rows and fields, longs, the rows of the curves that objects hold, the curves; the next number, the slots, the script -/
abbrev yT : Type := (Nat → Nat → Int32) × ((Nat → Nat → Int64) × ((Nat → Nat) × ((Nat → Option xE) × ((Nat × Nat) × (Nat × (Nat → Int32))))))
def yT.A (t : yT) : Nat → Nat → Int32 := t.1
def yT.L (t : yT) : Nat → Nat → Int64 := t.2.1
def yT.R (t : yT) : Nat → Nat := t.2.2.1
def yT.K (t : yT) : Nat → Option xE := t.2.2.2.1
def yT.z (t : yT) : (Nat × Nat) × (Nat × (Nat → Int32)) := t.2.2.2.2
def yfds (t : yT) (a : Nat) : Nat → List yFd → List Value
  | _, [] => []
  | j, none :: r => .int (t.A a j) :: yfds t a (j + 1) r
  | j, some none :: r => .long (t.L a j) :: yfds t a (j + 1) r
  | j, some (some none) :: r => .ref (t.R a) :: yfds t a (j + 1) r
  | j, some (some (some x)) :: r => .ref x :: yfds t a (j + 1) r
def ycellT (t : yT) (a : Nat) : Option xE := match yla a with
  | none => t.K a
  | some (.inl (k, n)) => some (.inl (k, (n, .inl (t.A a))))
  | some (.inr (.inl n)) => some (.inl (3, (n, .inr (.inl (t.L a)))))
  | some (.inr (.inr (.inl (k, (n, f))))) => some (.inl (k, (n, .inr (.inr (.inr (.inr f))))))
  | some (.inr (.inr (.inr (c, l)))) => some (.inr (c, yfds t a 0 l))
def yemb (t : yT) : xS := (ycellT t, t.z)
/-- set ints of a place, all of them, or one -/
def yT.sA (t : yT) (a : Nat) (f : Nat → Int32) : yT := (fun b => if b = a then f else t.A b, t.2)
def yT.s1 (t : yT) (a j : Nat) (v : Int32) : yT := t.sA a (upd (t.A a) j v)
def yT.sL (t : yT) (a j : Nat) (v : Int64) : yT := (t.A, (fun b => if b = a then vp_updL (t.L a) j v else t.L b, t.2.2))
def yT.sR (t : yT) (a v : Nat) : yT := (t.A, (t.L, (fun b => if b = a then v else t.R b, t.2.2.2)))
/-- a new curve -/
def yT.al (t : yT) (n : Nat) (f : Nat → Int32) : yT := (t.A, (t.L, (t.R, (fun b => if b = t.z.1.1 then some (.inl (0, (n, .inl f))) else t.K b, ((t.z.1.1 + 1, t.z.1.2 + n), t.z.2)))))
/-- what a throw leaves -/
def yT.bp (t : yT) : yT := (t.A, (t.L, (t.R, (t.K, ((t.z.1.1 + 1, t.z.1.2 + 6), t.z.2)))))
section
variable {t : yT} {a b j n v : Nat} {f : Nat → Int32} {x : Int32} {y : Int64}
theorem ysA_A : (t.sA a f).A b = if b = a then f else t.A b := rfl
theorem ysA_L : (t.sA a f).L = t.L := rfl
theorem ysA_R : (t.sA a f).R = t.R := rfl
theorem ysA_K : (t.sA a f).K = t.K := rfl
theorem ysA_z : (t.sA a f).z = t.z := rfl
theorem ys1_A : (t.s1 a j x).A b = if b = a then upd (t.A a) j x else t.A b := rfl
theorem ys1_L : (t.s1 a j x).L = t.L := rfl
theorem ys1_R : (t.s1 a j x).R = t.R := rfl
theorem ys1_K : (t.s1 a j x).K = t.K := rfl
theorem ys1_z : (t.s1 a j x).z = t.z := rfl
theorem ysL_A : (t.sL a j y).A = t.A := rfl
theorem ysL_L : (t.sL a j y).L b = if b = a then vp_updL (t.L a) j y else t.L b := rfl
theorem ysL_R : (t.sL a j y).R = t.R := rfl
theorem ysL_K : (t.sL a j y).K = t.K := rfl
theorem ysL_z : (t.sL a j y).z = t.z := rfl
theorem ysR_A : (t.sR a v).A = t.A := rfl
theorem ysR_L : (t.sR a v).L = t.L := rfl
theorem ysR_R : (t.sR a v).R b = if b = a then v else t.R b := rfl
theorem ysR_K : (t.sR a v).K = t.K := rfl
theorem ysR_z : (t.sR a v).z = t.z := rfl
theorem yal_A : (t.al n f).A = t.A := rfl
theorem yal_L : (t.al n f).L = t.L := rfl
theorem yal_R : (t.al n f).R = t.R := rfl
theorem yal_K : (t.al n f).K b = if b = t.z.1.1 then some (.inl (0, (n, .inl f))) else t.K b := rfl
theorem yal_z : (t.al n f).z = ((t.z.1.1 + 1, t.z.1.2 + n), t.z.2) := rfl
theorem ybp_A : t.bp.A = t.A := rfl
theorem ybp_L : t.bp.L = t.L := rfl
theorem ybp_R : t.bp.R = t.R := rfl
theorem ybp_K : t.bp.K = t.K := rfl
theorem ybp_z : t.bp.z = ((t.z.1.1 + 1, t.z.1.2 + 6), t.z.2) := rfl
end
theorem yfds_get (t : yT) (a : Nat) : ∀ (l : List yFd) (j s : Nat), (yfds t a j l)[s]? = (l[s]?).map fun q => match q with
    | none => .int (t.A a (j + s))
    | some none => .long (t.L a (j + s))
    | some (some none) => .ref (t.R a)
    | some (some (some x)) => .ref x := by
  intro l
  induction l with
  | nil => intro j s; rfl
  | cons q r ih =>
    intro j s
    cases s with
    | zero => rcases q with _ | _ | _ | x <;> rfl
    | succ s =>
      have e : j + 1 + s = j + (s + 1) := by omega
      have h := ih (j + 1) s
      rw [e] at h
      rcases q with _ | _ | _ | x <;> exact h
theorem yfds_len (t : yT) (a : Nat) : ∀ (l : List yFd) (j : Nat), (yfds t a j l).length = l.length := by
  intro l
  induction l with
  | nil => intro j; rfl
  | cons q r ih => intro j; rcases q with _ | _ | _ | x <;> simp [yfds, ih]
theorem yfds_ext {t u : yT} {a b : Nat} (l : List yFd) (h1 : ∀ s : Nat, l[s]? = some yFd.i → t.A a s = u.A b s) (h2 : ∀ s : Nat, l[s]? = some yFd.l → t.L a s = u.L b s) (h3 : ∀ s : Nat, l[s]? = some yFd.m → t.R a = u.R b) : yfds t a 0 l = yfds u b 0 l := by
  apply List.ext_getElem?
  intro s
  rw [yfds_get, yfds_get]
  cases hq : l[s]? with
  | none => rfl
  | some q =>
    rcases q with _ | _ | _ | x
    · simp [h1 s hq]
    · simp [h2 s hq]
    · simp [h3 s hq]
    · rfl
def yisO (c a : Nat) : Prop := yla a = .obj c (ytm c a) ∧ a < 1000000
def yisA (k a n : Nat) : Prop := yla a = .arr k n ∧ a < 1000000
theorem yemb_obj {t : yT} {c a : Nat} (h : yisO c a) : (yemb t).1 a = some (.inr (c, yfds t a 0 (ytm c a))) := by
  show ycellT t a = _
  unfold ycellT
  rw [h.1]
theorem yemb_arr {t : yT} {k a n : Nat} (h : yisA k a n) : (yemb t).1 a = some (.inl (k, (n, .inl (t.A a)))) := by
  show ycellT t a = _
  unfold ycellT
  rw [h.1]
theorem yrd_lt {σ : xS} {a : Nat} (h : a < 1000000) : xRd σ a = σ.1 a := by
  unfold xRd
  rw [if_pos h]
theorem yemb_sA {t : yT} {k a n : Nat} (h : yisA k a n) (f : Nat → Int32) : xwr (yemb t) a (.inl (k, (n, .inl f))) = yemb (t.sA a f) := by
  unfold xwr yemb
  refine Prod.ext ?_ rfl
  funext b
  show (if b = a then _ else ycellT t b) = ycellT (t.sA a f) b
  split
  · rename_i hb
    subst hb
    unfold ycellT
    rw [h.1]
    simp [ysA_A]
  · rename_i hb
    unfold ycellT
    split <;> simp [ysA_A, ysA_L, ysA_R, ysA_K, hb]
    all_goals exact yfds_ext _ (fun s hq => by simp [ysA_A, ysA_L, ysA_R, ys1_A, ys1_L, ys1_R, ysL_A, ysL_L, ysL_R, ysR_A, ysR_L, ysR_R, yal_A, yal_L, yal_R, hb]) (fun s hq => by simp [ysA_A, ysA_L, ysA_R, ys1_A, ys1_L, ys1_R, ysL_A, ysL_L, ysL_R, ysR_A, ysR_L, ysR_R, yal_A, yal_L, yal_R, hb]) (fun s hq => by simp [ysA_A, ysA_L, ysA_R, ys1_A, ys1_L, ys1_R, ysL_A, ysL_L, ysL_R, ysR_A, ysR_L, ysR_R, yal_A, yal_L, yal_R, hb])
theorem yemb_s1 {t : yT} {c a j : Nat} (h : yisO c a) (hj : (ytm c a)[j]? = some .i) (v : Int32) : xwr (yemb t) a (.inr (c, (yfds t a 0 (ytm c a)).set j (.int v))) = yemb (t.s1 a j v) := by
  unfold xwr yemb
  refine Prod.ext ?_ rfl
  funext b
  show (if b = a then _ else ycellT t b) = ycellT (t.s1 a j v) b
  split
  · rename_i hb
    subst hb
    unfold ycellT
    rw [h.1]
    simp only
    refine congrArg (fun l => some (Sum.inr (c, l))) ?_
    apply List.ext_getElem?
    intro s
    rw [yfds_get, List.getElem?_set, yfds_len, yfds_get]
    by_cases hs : j = s
    · subst hs
      have hl : j < (ytm c b).length := (List.getElem?_eq_some_iff.mp hj).1
      rw [if_pos rfl, if_pos hl, hj]
      simp [ys1_A, upd]
    · rw [if_neg hs]
      cases hq : (ytm c b)[s]? with
      | none => rfl
      | some q => rcases q with _ | _ | _ | x <;> simp [ys1_A, ys1_L, ys1_R, upd, Ne.symm hs]
  · rename_i hb
    unfold ycellT
    split <;> simp [ys1_A, ys1_L, ys1_R, ys1_K, hb]
    all_goals exact yfds_ext _ (fun s hq => by simp [ysA_A, ysA_L, ysA_R, ys1_A, ys1_L, ys1_R, ysL_A, ysL_L, ysL_R, ysR_A, ysR_L, ysR_R, yal_A, yal_L, yal_R, hb]) (fun s hq => by simp [ysA_A, ysA_L, ysA_R, ys1_A, ys1_L, ys1_R, ysL_A, ysL_L, ysL_R, ysR_A, ysR_L, ysR_R, yal_A, yal_L, yal_R, hb]) (fun s hq => by simp [ysA_A, ysA_L, ysA_R, ys1_A, ys1_L, ys1_R, ysL_A, ysL_L, ysL_R, ysR_A, ysR_L, ysR_R, yal_A, yal_L, yal_R, hb])
theorem yemb_sL {t : yT} {c a j : Nat} (h : yisO c a) (hj : (ytm c a)[j]? = some .l) (v : Int64) : xwr (yemb t) a (.inr (c, (yfds t a 0 (ytm c a)).set j (.long v))) = yemb (t.sL a j v) := by
  unfold xwr yemb
  refine Prod.ext ?_ rfl
  funext b
  show (if b = a then _ else ycellT t b) = ycellT (t.sL a j v) b
  split
  · rename_i hb
    subst hb
    unfold ycellT
    rw [h.1]
    simp only
    refine congrArg (fun l => some (Sum.inr (c, l))) ?_
    apply List.ext_getElem?
    intro s
    rw [yfds_get, List.getElem?_set, yfds_len, yfds_get]
    by_cases hs : j = s
    · subst hs
      have hl : j < (ytm c b).length := (List.getElem?_eq_some_iff.mp hj).1
      rw [if_pos rfl, if_pos hl, hj]
      simp [ysL_L, vp_updL]
    · rw [if_neg hs]
      cases hq : (ytm c b)[s]? with
      | none => rfl
      | some q => rcases q with _ | _ | _ | x <;> simp [ysL_A, ysL_L, ysL_R, vp_updL, Ne.symm hs]
  · rename_i hb
    unfold ycellT
    split <;> simp [ysL_A, ysL_L, ysL_R, ysL_K, hb]
    all_goals exact yfds_ext _ (fun s hq => by simp [ysA_A, ysA_L, ysA_R, ys1_A, ys1_L, ys1_R, ysL_A, ysL_L, ysL_R, ysR_A, ysR_L, ysR_R, yal_A, yal_L, yal_R, hb]) (fun s hq => by simp [ysA_A, ysA_L, ysA_R, ys1_A, ys1_L, ys1_R, ysL_A, ysL_L, ysL_R, ysR_A, ysR_L, ysR_R, yal_A, yal_L, yal_R, hb]) (fun s hq => by simp [ysA_A, ysA_L, ysA_R, ys1_A, ys1_L, ys1_R, ysL_A, ysL_L, ysL_R, ysR_A, ysR_L, ysR_R, yal_A, yal_L, yal_R, hb])
theorem yemb_sR {t : yT} {c a j v : Nat} (h : yisO c a) (hj : (ytm c a)[j]? = some .m) (hu : ∀ s, (ytm c a)[s]? = some .m → s = j) : xwr (yemb t) a (.inr (c, (yfds t a 0 (ytm c a)).set j (.ref v))) = yemb (t.sR a v) := by
  unfold xwr yemb
  refine Prod.ext ?_ rfl
  funext b
  show (if b = a then _ else ycellT t b) = ycellT (t.sR a v) b
  split
  · rename_i hb
    subst hb
    unfold ycellT
    rw [h.1]
    simp only
    refine congrArg (fun l => some (Sum.inr (c, l))) ?_
    apply List.ext_getElem?
    intro s
    rw [yfds_get, List.getElem?_set, yfds_len, yfds_get]
    by_cases hs : j = s
    · subst hs
      have hl : j < (ytm c b).length := (List.getElem?_eq_some_iff.mp hj).1
      rw [if_pos rfl, if_pos hl, hj]
      simp [ysR_R]
    · rw [if_neg hs]
      cases hq : (ytm c b)[s]? with
      | none => rfl
      | some q =>
        rcases q with _ | _ | _ | x <;> simp [ysR_A, ysR_L, ysR_R]
        exact absurd (hu s hq).symm hs
  · rename_i hb
    unfold ycellT
    split <;> simp [ysR_A, ysR_L, ysR_R, ysR_K, hb]
    all_goals exact yfds_ext _ (fun s hq => by simp [ysA_A, ysA_L, ysA_R, ys1_A, ys1_L, ys1_R, ysL_A, ysL_L, ysL_R, ysR_A, ysR_L, ysR_R, yal_A, yal_L, yal_R, hb]) (fun s hq => by simp [ysA_A, ysA_L, ysA_R, ys1_A, ys1_L, ys1_R, ysL_A, ysL_L, ysL_R, ysR_A, ysR_L, ysR_R, yal_A, yal_L, yal_R, hb]) (fun s hq => by simp [ysA_A, ysA_L, ysA_R, ys1_A, ys1_L, ys1_R, ysL_A, ysL_L, ysL_R, ysR_A, ysR_L, ysR_R, yal_A, yal_L, yal_R, hb])
theorem yemb_wL {t : yT} {a n j : Nat} (h : yla a = .arrL n) (v : Int64) : xwr (yemb t) a (.inl (3, (n, .inr (.inl (vp_updL (t.L a) j v))))) = yemb (t.sL a j v) := by
  unfold xwr yemb
  refine Prod.ext ?_ rfl
  funext b
  show (if b = a then _ else ycellT t b) = ycellT (t.sL a j v) b
  split
  · rename_i hb
    subst hb
    unfold ycellT
    rw [h]
    simp [ysL_L]
  · rename_i hb
    unfold ycellT
    split <;> simp [ysL_A, ysL_L, ysL_R, ysL_K, hb]
    all_goals exact yfds_ext _ (fun s hq => by simp [ysA_A, ysA_L, ysA_R, ys1_A, ys1_L, ys1_R, ysL_A, ysL_L, ysL_R, ysR_A, ysR_L, ysR_R, yal_A, yal_L, yal_R, hb]) (fun s hq => by simp [ysA_A, ysA_L, ysA_R, ys1_A, ys1_L, ys1_R, ysL_A, ysL_L, ysL_R, ysR_A, ysR_L, ysR_R, yal_A, yal_L, yal_R, hb]) (fun s hq => by simp [ysA_A, ysA_L, ysA_R, ys1_A, ys1_L, ys1_R, ysL_A, ysL_L, ysL_R, ysR_A, ysR_L, ysR_R, yal_A, yal_L, yal_R, hb])
theorem yemb_al {t : yT} {n : Nat} {f : Nat → Int32} (h : yla t.z.1.1 = .no) : xnew (yemb t) (.inl (0, (n, .inl f))) n = yemb (t.al n f) := by
  unfold xnew yemb
  refine Prod.ext ?_ rfl
  funext b
  show (if b = t.z.1.1 then _ else ycellT t b) = ycellT (t.al n f) b
  split
  · rename_i hb
    subst hb
    unfold ycellT
    rw [h]
    simp [yal_K]
  · rename_i hb
    unfold ycellT
    split <;> simp [yal_A, yal_L, yal_R, yal_K, hb]
    all_goals exact yfds_ext _ (fun s hq => by simp [ysA_A, ysA_L, ysA_R, ys1_A, ys1_L, ys1_R, ysL_A, ysL_L, ysL_R, ysR_A, ysR_L, ysR_R, yal_A, yal_L, yal_R, hb]) (fun s hq => by simp [ysA_A, ysA_L, ysA_R, ys1_A, ys1_L, ys1_R, ysL_A, ysL_L, ysL_R, ysR_A, ysR_L, ysR_R, yal_A, yal_L, yal_R, hb]) (fun s hq => by simp [ysA_A, ysA_L, ysA_R, ys1_A, ys1_L, ys1_R, ysL_A, ysL_L, ysL_R, ysR_A, ysR_L, ysR_R, yal_A, yal_L, yal_R, hb])
