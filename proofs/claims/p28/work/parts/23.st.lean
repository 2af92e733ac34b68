/-! ===== steps of the small machine over the places ===== -/
def yn (a : Nat) : Nat := match yla a with
  | some (.inl (_, n)) => n
  | some (.inr (.inl n)) => n
  | some (.inr (.inr (.inl (_, (n, _))))) => n
  | _ => 0
def yA (k a : Nat) : Prop := yla a = .arr k (yn a) ∧ a < 1000000
def yLA (a : Nat) : Prop := yla a = .arrL (yn a) ∧ a < 1000000
def yix (j : Int32) (n : Nat) : Prop := ¬ (j < 0 ∨ n ≤ j.toNatClampNeg)
def ykl (v : Option Value) : Option Value := match v with
  | some (.long _) => none
  | some (.double _) => none
  | v => v
def ybo (x : Int32) : Prop := narrow .boolean (.int x) = .int x
section
variable {d k i : Nat} {pc : Nat} {ins : Instr} {aux : List Int} {ls : xL} {st r : List Value} {σ : xS} {Q : xR → xS → Prop}
theorem gs_go {i' : Nat} {ls' : xL} {st' : List Value} {σ' : xS} (hf : ft k i = some (pc, ins, aux)) (h : stp k i ins aux ls st σ = some (.inl (i', ls', st', σ'))) : G d k i ls st σ Q ↔ G d k i' ls' st' σ' Q := by
  rw [G_eq hf]
  show Gs d k i ls σ Q (stp k i ins aux ls st σ) ↔ _
  rw [h]
  rfl
theorem gs_if {c : Prop} [Decidable c] {t : Nat} (hf : ft k i = some (pc, ins, aux)) (h : stp k i ins aux ls st σ = if decide c = true then some (.inl (t, ls, r, σ)) else some (.inl (i + 1, ls, r, σ))) : G d k i ls st σ Q ↔ if c then G d k t ls r σ Q else G d k (i + 1) ls r σ Q := by
  rw [G_eq hf]
  show Gs d k i ls σ Q (stp k i ins aux ls st σ) ↔ _
  rw [h]
  by_cases hc : c
  · simp [hc, Gs]
  · simp [hc, Gs]
theorem gs_ret {v : Option Value} (hf : ft k i = some (pc, ins, aux)) (h : stp k i ins aux ls st σ = some (.inr (.inr (.inl v)))) : G d k i ls st σ Q ↔ Q (.inl v) σ := by
  rw [G_eq hf]
  show Gs d k i ls σ Q (stp k i ins aux ls st σ) ↔ _
  rw [h]
  rfl
theorem gs_retb {x : Int32} (hf : ft k i = some (pc, .ireturn, aux)) (hk : xrtf k = some .boolean) : G d k i ls [.int x] σ Q ↔ ybo x ∧ Q (.inl (some (.int x))) σ := by
  rw [G_eq hf]
  show Gs d k i ls σ Q (xret k [.int x]) ↔ _
  unfold xret
  simp only [hk, ybo]
  split <;> rename_i h <;> simp [Gs, h]
  rfl
theorem gs_reti {x : Int32} (hf : ft k i = some (pc, .ireturn, aux)) (hk : xrtf k = some .int) : G d k i ls [.int x] σ Q ↔ Q (.inl (some (.int x))) σ := by
  rw [G_eq hf]
  show Gs d k i ls σ Q (xret k [.int x]) ↔ _
  unfold xret
  simp only [hk]
  rw [if_pos (show narrow .int (.int x) = .int x from rfl)]
  rfl
theorem gs_thr {n : Nat} {e : Nat} {a b c : Int} (hf : ft k i = some (pc, .new n, [a, (e : Int), b, c])) : G d k i ls st σ Q ↔ (xcat st ≤ 8 ∧ σ.2.1.1 < 900000) ∧ Q (.inr e) (xbump (.inr e) σ) := by
  rw [G_eq hf]
  show Gs d k i ls σ Q (if xcat st ≤ 8 ∧ σ.2.1.1 < 900000 then some (.inr (.inr (.inr ((e : Int).toNat)))) else none) ↔ _
  split <;> rename_i h <;> simp [Gs, h]
theorem xbump_emb {t : yT} {e : Nat} : xbump (.inr e) (yemb t) = yemb t.bp := by
  refine Prod.ext ?_ rfl
  funext b
  show ycellT t b = ycellT t.bp b
  unfold ycellT
  split <;> simp [ybp_A, ybp_L, ybp_R, ybp_K]
  exact yfds_ext _ (fun s hq => rfl) (fun s hq => rfl) (fun s hq => rfl)
end
section
variable {d k i : Nat} {pc n : Nat} {c j a b : Nat} {u w : Int} {aux : List Int} {ls : xL} {r : List Value} {t : yT} {Q : xR → xS → Prop}
theorem yrd_o (h : yisO c a) : xRd (yemb t) a = some (.inr (c, yfds t a 0 (ytm c a))) := by
  rw [yrd_lt h.2, yemb_obj h]
def yfv (t : yT) (a j : Nat) : yFd → Value
  | none => .int (t.A a j)
  | some none => .long (t.L a j)
  | some (some none) => .ref (t.R a)
  | some (some (some x)) => .ref x
theorem gs_getf (hf : ft k i = some (pc, .getfield n, [(c : Int), (j : Int), u, w])) (ho : yisO c a) {q : yFd} (hj : (ytm c a)[j]? = some q) : G d k i ls (.ref a :: r) (yemb t) Q ↔ G d k (i + 1) ls (yfv t a j q :: r) (yemb t) Q := by
  refine gs_go hf ?_
  show xget ((c : Int).toNat) ((j : Int).toNat) i ls (.ref a :: r) (yemb t) = _
  unfold xget
  simp only [yrd_o ho, Int.toNat_natCast, yfds_get, hj, Option.map_some, Nat.zero_add, if_true]
  rcases q with _ | _ | _ | x <;> rfl
theorem gs_putI {x : Int32} (hf : ft k i = some (pc, .putfield n, [(c : Int), (j : Int), u, w])) (hj : ∀ a, (ytm c a)[j]? = some .i) (hn : narrow (xtyf c j) (.int x) = .int x) (hi : fits (xtyf c j) (.int x) = true) (ho : yisO c a) : G d k i ls (.int x :: .ref a :: r) (yemb t) Q ↔ G d k (i + 1) ls r (yemb (t.s1 a j x)) Q := by
  refine gs_go hf ?_
  show xput ((c : Int).toNat) ((j : Int).toNat) i ls (.int x :: .ref a :: r) (yemb t) = _
  unfold xput
  have hl : j < (ytm c a).length := (List.getElem?_eq_some_iff.mp (hj a)).1
  simp only [if_pos ho.2, yemb_obj ho, Int.toNat_natCast, yfds_len]
  rw [if_pos ⟨trivial, hl, hn, hi⟩, yemb_s1 ho (hj a)]
theorem gs_putL {x : Int64} (hf : ft k i = some (pc, .putfield n, [(c : Int), (j : Int), u, w])) (hj : ∀ a, (ytm c a)[j]? = some .l) (hn : narrow (xtyf c j) (.long x) = .long x) (hi : fits (xtyf c j) (.long x) = true) (ho : yisO c a) : G d k i ls (.long x :: .ref a :: r) (yemb t) Q ↔ G d k (i + 1) ls r (yemb (t.sL a j x)) Q := by
  refine gs_go hf ?_
  show xput ((c : Int).toNat) ((j : Int).toNat) i ls (.long x :: .ref a :: r) (yemb t) = _
  unfold xput
  have hl : j < (ytm c a).length := (List.getElem?_eq_some_iff.mp (hj a)).1
  simp only [if_pos ho.2, yemb_obj ho, Int.toNat_natCast, yfds_len]
  rw [if_pos ⟨trivial, hl, hn, hi⟩, yemb_sL ho (hj a)]
theorem gs_putR {x : Nat} (hf : ft k i = some (pc, .putfield n, [(c : Int), (j : Int), u, w])) (hj : ∀ a, (ytm c a)[j]? = some .m) (hu : ∀ a s, (ytm c a)[s]? = some .m → s = j) (hn : narrow (xtyf c j) (.ref x) = .ref x) (hi : fits (xtyf c j) (.ref x) = true) (ho : yisO c a) : G d k i ls (.ref x :: .ref a :: r) (yemb t) Q ↔ G d k (i + 1) ls r (yemb (t.sR a x)) Q := by
  refine gs_go hf ?_
  show xput ((c : Int).toNat) ((j : Int).toNat) i ls (.ref x :: .ref a :: r) (yemb t) = _
  unfold xput
  have hl : j < (ytm c a).length := (List.getElem?_eq_some_iff.mp (hj a)).1
  simp only [if_pos ho.2, yemb_obj ho, Int.toNat_natCast, yfds_len]
  rw [if_pos ⟨trivial, hl, hn, hi⟩, yemb_sR ho (hj a) (hu a)]
theorem gs_iald {x : Int32} (hf : ft k i = some (pc, .iaload, aux)) (ha : yA 0 a) : G d k i ls (.int x :: .ref a :: r) (yemb t) Q ↔ yix x (yn a) ∧ G d k (i + 1) ls (.int (t.A a x.toNatClampNeg) :: r) (yemb t) Q := by
  rw [G_eq hf]
  show Gs d k i ls (yemb t) Q (xaldI 0 i ls (.int x :: .ref a :: r) (yemb t)) ↔ _
  unfold xaldI yix
  simp only [yrd_lt ha.2, yemb_arr ha, true_and]
  split <;> rename_i h <;> simp only [Gs, h, true_and, not_true_eq_false, false_and, not_false_eq_true]
theorem gs_iast {x v : Int32} (hf : ft k i = some (pc, .iastore, aux)) (ha : yA 0 a) : G d k i ls (.int v :: .int x :: .ref a :: r) (yemb t) Q ↔ yix x (yn a) ∧ G d k (i + 1) ls r (yemb (t.s1 a x.toNatClampNeg v)) Q := by
  rw [G_eq hf]
  show Gs d k i ls (yemb t) Q (xastI i ls (.int v :: .int x :: .ref a :: r) (yemb t)) ↔ _
  unfold xastI yix
  simp only [if_pos ha.2, yemb_arr ha, true_and, yemb_sA ha]
  split <;> rename_i h <;> simp only [Gs, h, true_and, not_true_eq_false, false_and, not_false_eq_true] <;> rfl
theorem gs_bald {x : Int32} (hf : ft k i = some (pc, .baload, aux)) (ha : yA c a) (hc : c = 1) : G d k i ls (.int x :: .ref a :: r) (yemb t) Q ↔ yix x (yn a) ∧ G d k (i + 1) ls (.int (t.A a x.toNatClampNeg) :: r) (yemb t) Q := by
  rw [G_eq hf]
  show Gs d k i ls (yemb t) Q (xaldB i ls (.int x :: .ref a :: r) (yemb t)) ↔ _
  unfold xaldB yix
  simp only [yrd_lt ha.2, yemb_arr ha, hc, true_and]
  split <;> rename_i h <;> simp only [Gs, h, true_and, not_true_eq_false, false_and, not_false_eq_true]
theorem gs_bast1 {x v : Int32} (hf : ft k i = some (pc, .bastore, aux)) (ha : yA 1 a) : G d k i ls (.int v :: .int x :: .ref a :: r) (yemb t) Q ↔ yix x (yn a) ∧ G d k (i + 1) ls r (yemb (t.s1 a x.toNatClampNeg (vp_nar .byte v))) Q := by
  rw [G_eq hf]
  show Gs d k i ls (yemb t) Q (xastB i ls (.int v :: .int x :: .ref a :: r) (yemb t)) ↔ _
  unfold xastB yix
  simp only [if_pos ha.2, yemb_arr ha, yemb_sA ha, if_true]
  split <;> rename_i h <;> simp only [Gs, h, true_and, not_true_eq_false, false_and, not_false_eq_true] <;> rfl
end
