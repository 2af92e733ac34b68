/-! ===== steps over any cells ===== -/
def hsel (fs : List Value) (j : Nat) (F : Value → Prop) : Prop := match fs[j]? with
  | some v => F v
  | none => False
def hgf (c j : Nat) (e : Option xE) (F : Value → Prop) : Prop := match e with
  | some (.inr (c', fs)) => c' = c ∧ hsel fs j F
  | _ => False
def hpf (c j : Nat) (v : Value) (e : Option xE) (F : List Value → Prop) : Prop := match e with
  | some (.inr (c', fs)) => (c' = c ∧ (j < fs.length ∧ (narrow (xtyf c j) v = v ∧ fits (xtyf c j) v = true))) ∧ F (fs.set j v)
  | _ => False
def hai (t : Nat) (x : Int32) (e : Option xE) (F : Int32 → Prop) : Prop := match e with
  | some (.inl (t', (n, .inl f))) => t' = t ∧ (yix x n ∧ F (f x.toNatClampNeg))
  | _ => False
def haa (a : Nat) (x : Int32) (e : Option xE) (F : Value → Prop) : Prop := match e with
  | some (.inl (t', (n, .inr (.inr (.inr (.inr f)))))) => (((4 ≤ t' ∧ t' ≤ 8 ∧ a < 1000000) ∨ (t' = 9 ∧ 1000000 ≤ a)) ∧ yix x n) ∧ (match f x.toNatClampNeg with
    | some b => (b < 1000000 ∨ 1000000 ≤ a) ∧ F (.ref b)
    | none => a < 1000000 ∧ F .null)
  | _ => False
def hpi (t : Nat) (x v : Int32) (e : Option xE) (F : xE → Prop) : Prop := match e with
  | some (.inl (t', (n, .inl f))) => t' = t ∧ (yix x n ∧ F (.inl (t, (n, .inl (upd f x.toNatClampNeg (if t = 1 then vp_nar .byte v else v))))))
  | _ => False
def hpa (v : Nat) (x : Int32) (e ev : Option xE) (F : xE → Prop) : Prop := match e, ev with
  | some (.inl (t', (n, .inr (.inr (.inr (.inr f)))))), some (.inr (c, _)) => ((t' = 4 ∨ t' = 6 ∨ t' = 7 ∨ t' = 8) ∧ c = xofA t') ∧ (yix x n ∧ F (.inl (t', (n, .inr (.inr (.inr (.inr (va_up f x.toNatClampNeg (some v)))))))))
  | some (.inl (t', (n, .inr (.inr (.inr (.inr f)))))), some (.inl (0, _)) => t' = 5 ∧ (yix x n ∧ F (.inl (5, (n, .inr (.inr (.inr (.inr (va_up f x.toNatClampNeg (some v)))))))))
  | _, _ => False
def hln (a : Nat) (e : Option xE) (F : Int32 → Prop) : Prop := match e with
  | some (.inl (t', (n, _))) => (t' = 0 ∨ t' = 1 ∨ (4 ≤ t' ∧ t' ≤ 8 ∧ a < 1000000)) ∧ F (Int32.ofNat n)
  | _ => False
def hcl (c : Nat) (e : Option xE) : Prop := match e with
  | some (.inr (c', _)) => c' = c
  | _ => False
def hck (z : Nat) (e : Option xE) : Prop := match e with
  | some (.inl (t, (_, .inl _))) => (z = 0 ∧ t = 0) ∨ (z = 1 ∧ t = 1)
  | _ => False
def hcn (z : Nat) (e : Option xE) (F : xE → Nat → Prop) : Prop := match e with
  | some (.inl (t, (n, .inl f))) => (t = z ∧ (z < 2 ∧ (n ≤ 100000 ∧ (z = 0 ∨ xfitB f 0 n = true)))) ∧ F (.inl (t, (n, .inl f))) n
  | _ => False
def hcp (b : Nat) (sp dp n : Int32) (e0 e1 : Option xE) (F : xE → Prop) : Prop := match e0, e1 with
  | some (.inl (t0, (n0, .inl f))), some (.inl (t1, (n1, .inl g))) => (t1 = t0 ∧ (((t0 = 0 ∧ b < 1000000) ∨ t0 = 1) ∧ (¬ sp < 0 ∧ (¬ dp < 0 ∧ (¬ n < 0 ∧ (sp.toNatClampNeg + n.toNatClampNeg ≤ n0 ∧ (dp.toNatClampNeg + n.toNatClampNeg ≤ n1 ∧ (t0 = 0 ∨ xfitB f sp.toNatClampNeg n.toNatClampNeg = true)))))))) ∧ F (.inl (t0, (n1, .inl (va_cpy f g sp.toNatClampNeg dp.toNatClampNeg n.toNatClampNeg))))
  | _, _ => False
section
variable {d k i : Nat} {pc n : Nat} {c j a b v z : Nat} {x y w : Int32} {u1 u2 : Int} {aux : List Int} {ls : xL} {st : List Value} {σ : xS} {Q : xR → xS → Prop} {vv : Value}
theorem hs_getf (hf : ft k i = some (pc, .getfield n, [(c : Int), (j : Int), u1, u2])) : G d k i ls (.ref a :: st) σ Q ↔ hgf c j (xRd σ a) (fun v => G d k (i + 1) ls (v :: st) σ Q) := by
  rw [G_eq hf]
  show Gs d k i ls σ Q (xget ((c : Int).toNat) ((j : Int).toNat) i ls (.ref a :: st) σ) ↔ _
  unfold xget hgf hsel
  simp only [Int.toNat_natCast]
  rcases h : xRd σ a with _ | (e | ⟨c', fs⟩)
  · exact Iff.rfl
  · exact Iff.rfl
  · by_cases hc : c' = c
    · subst hc
      simp only [if_true, true_and]
      cases fs[j]? <;> exact Iff.rfl
    · simp only [hc, if_false, false_and]
      exact Iff.rfl
theorem hs_putf (hf : ft k i = some (pc, .putfield n, [(c : Int), (j : Int), u1, u2])) : G d k i ls (vv :: .ref a :: st) σ Q ↔ a < 1000000 ∧ hpf c j vv (σ.1 a) (fun fs => G d k (i + 1) ls st (xwr σ a (.inr (c, fs))) Q) := by
  rw [G_eq hf]
  show Gs d k i ls σ Q (xput ((c : Int).toNat) ((j : Int).toNat) i ls (vv :: .ref a :: st) σ) ↔ _
  unfold xput hpf
  simp only [Int.toNat_natCast]
  by_cases ha : a < 1000000
  · simp only [ha, if_true, true_and]
    rcases h : σ.1 a with _ | (e | ⟨c', fs⟩)
    · exact Iff.rfl
    · exact Iff.rfl
    · simp only
      split <;> rename_i hc
      · simp only [Gs, hc, true_and]
      · simp only [Gs, hc, false_and]
  · simp only [ha, if_false, false_and]
    exact Iff.rfl
theorem hs_iald (hf : ft k i = some (pc, .iaload, aux)) : G d k i ls (.int x :: .ref a :: st) σ Q ↔ hai 0 x (xRd σ a) (fun v => G d k (i + 1) ls (.int v :: st) σ Q) := by
  rw [G_eq hf]
  show Gs d k i ls σ Q (xaldI 0 i ls (.int x :: .ref a :: st) σ) ↔ _
  unfold xaldI hai yix
  dsimp only
  rcases h : xRd σ a with _ | (⟨t', n, f | f | f | f | f⟩ | ⟨c', fs⟩)
  all_goals first
    | exact Iff.rfl
    | (simp only
       split <;> rename_i hc
       · simp only [Gs, hc, true_and, not_false_eq_true]
       · simp only [Gs]
         refine ⟨fun h => h.elim, fun h => hc ⟨h.1, h.2.1⟩⟩)
theorem hs_bald (hf : ft k i = some (pc, .baload, aux)) : G d k i ls (.int x :: .ref a :: st) σ Q ↔ hai 1 x (xRd σ a) (fun v => G d k (i + 1) ls (.int v :: st) σ Q) := by
  rw [G_eq hf]
  show Gs d k i ls σ Q (xaldB i ls (.int x :: .ref a :: st) σ) ↔ _
  unfold xaldB hai yix
  dsimp only
  rcases h : xRd σ a with _ | (⟨t', n, f | f | f | f | f⟩ | ⟨c', fs⟩)
  all_goals first
    | exact Iff.rfl
    | (simp only
       split <;> rename_i hc
       · simp only [Gs, hc, true_and, not_false_eq_true]
       · simp only [Gs]
         refine ⟨fun h => h.elim, fun h => hc ⟨h.1, h.2.1⟩⟩)
theorem hs_aald (hf : ft k i = some (pc, .aaload, aux)) : G d k i ls (.int x :: .ref a :: st) σ Q ↔ haa a x (xRd σ a) (fun v => G d k (i + 1) ls (v :: st) σ Q) := by
  rw [G_eq hf]
  show Gs d k i ls σ Q (xaldA i ls (.int x :: .ref a :: st) σ) ↔ _
  unfold xaldA haa yix
  dsimp only
  rcases h : xRd σ a with _ | (⟨t', n, f | f | f | f | f⟩ | ⟨c', fs⟩)
  all_goals first
    | exact Iff.rfl
    | (simp only
       split <;> rename_i hc
       · simp only [hc, true_and, not_false_eq_true, and_self]
         cases hb : f x.toNatClampNeg with
         | none =>
           simp only
           split <;> rename_i ha <;> simp only [Gs, ha, true_and, false_and]
         | some b =>
           simp only
           split <;> rename_i ha <;> simp only [Gs, ha, true_and, false_and]
       · simp only [Gs, hc, false_and])
theorem hs_iast (hf : ft k i = some (pc, .iastore, aux)) : G d k i ls (.int w :: .int x :: .ref a :: st) σ Q ↔ a < 1000000 ∧ hpi 0 x w (σ.1 a) (fun e => G d k (i + 1) ls st (xwr σ a e) Q) := by
  rw [G_eq hf]
  show Gs d k i ls σ Q (xastI i ls (.int w :: .int x :: .ref a :: st) σ) ↔ _
  unfold xastI hpi yix
  dsimp only
  by_cases ha : a < 1000000
  · simp only [ha, if_true, true_and]
    rcases h : σ.1 a with _ | (⟨t', n, f | f | f | f | f⟩ | ⟨c', fs⟩)
    all_goals first
      | exact Iff.rfl
      | (simp only
         split <;> rename_i hc
         · simp only [Gs, hc, true_and, not_false_eq_true]
           exact Iff.rfl
         · simp only [Gs]
           refine ⟨fun h => h.elim, fun h => hc ⟨h.1, h.2.1⟩⟩)
  · simp only [ha, if_false, false_and]
    exact Iff.rfl
theorem hs_bast (hf : ft k i = some (pc, .bastore, aux)) : G d k i ls (.int w :: .int x :: .ref a :: st) σ Q ↔ a < 1000000 ∧ hpi 1 x w (σ.1 a) (fun e => G d k (i + 1) ls st (xwr σ a e) Q) := by
  rw [G_eq hf]
  show Gs d k i ls σ Q (xastB i ls (.int w :: .int x :: .ref a :: st) σ) ↔ _
  unfold xastB hpi yix
  dsimp only
  by_cases ha : a < 1000000
  · simp only [ha, if_true, true_and]
    rcases h : σ.1 a with _ | (⟨t', n, f | f | f | f | f⟩ | ⟨c', fs⟩)
    all_goals first
      | exact Iff.rfl
      | (simp only
         split <;> rename_i hc
         · split <;> rename_i ht
           · subst ht
             simp only [Gs, hc, true_and, not_false_eq_true, if_true]
           · simp only [Gs, ht, false_and]
         · simp only [Gs]
           refine ⟨fun h => h.elim, fun h => hc h.2.1⟩)
  · simp only [ha, if_false, false_and]
    exact Iff.rfl
theorem hs_aast (hf : ft k i = some (pc, .aastore, aux)) : G d k i ls (.ref v :: .int x :: .ref a :: st) σ Q ↔ (a < 1000000 ∧ v < 1000000) ∧ hpa v x (σ.1 a) (σ.1 v) (fun e => G d k (i + 1) ls st (xwr σ a e) Q) := by
  rw [G_eq hf]
  show Gs d k i ls σ Q (xastA i ls (.ref v :: .int x :: .ref a :: st) σ) ↔ _
  unfold xastA hpa yix
  dsimp only
  by_cases ha : a < 1000000 ∧ v < 1000000
  · rw [if_pos ha]
    simp only [ha, and_self, true_and]
    split
    · rename_i t' n f c fs h1 h2
      simp only [h1, h2]
      split <;> rename_i hc
      · obtain ⟨g1, g2, g3⟩ := hc
        simp only [Gs, g1, g2, g3, true_and, not_false_eq_true]
      · simp only [Gs]
        refine ⟨fun h => h.elim, fun h => hc ⟨h.1.1, h.1.2, h.2.1⟩⟩
    · rename_i t' n f x0 h1 h2
      simp only [h1, h2]
      split <;> rename_i hc
      · obtain ⟨g1, g3⟩ := hc
        simp only [Gs, g1, g3, true_and, not_false_eq_true]
      · simp only [Gs]
        refine ⟨fun h => h.elim, fun h => hc ⟨h.1, h.2.1⟩⟩
    · rename_i h1 h2
      refine ⟨fun h => h.elim, fun h => ?_⟩
      split at h
      · rename_i q1 q2
        exact h1 _ _ _ _ _ q1 q2
      · rename_i q1 q2
        exact h2 _ _ _ _ q1 q2
      · exact h
  · rw [if_neg ha]
    simp only [ha, false_and]
    exact Iff.rfl
theorem hs_alen (hf : ft k i = some (pc, .arraylength, aux)) : G d k i ls (.ref a :: st) σ Q ↔ hln a (xRd σ a) (fun v => G d k (i + 1) ls (.int v :: st) σ Q) := by
  rw [G_eq hf]
  show Gs d k i ls σ Q (match xRd σ a with
      | some (.inl (t', (n, _))) => if t' = 0 ∨ t' = 1 ∨ (4 ≤ t' ∧ t' ≤ 8 ∧ a < 1000000) then xgo (i + 1) ls (.int (Int32.ofNat n) :: st) σ else none
      | _ => none) ↔ _
  unfold hln
  rcases h : xRd σ a with _ | (⟨t', n, f⟩ | ⟨c', fs⟩)
  · exact Iff.rfl
  · simp only
    split <;> rename_i hc
    · simp only [Gs, hc, true_and]
    · simp only [Gs, hc, false_and]
  · exact Iff.rfl
theorem hs_new (hf : ft k i = some (pc, .new n, [u1, (c : Int), u2])) : G d k i ls st σ Q ↔ σ.2.1.1 < 900000 ∧ G d k (i + 1) ls (.ref σ.2.1.1 :: st) (xnew σ (.inr (c, xdef c)) (xnf c)) Q := by
  rw [G_eq hf]
  show Gs d k i ls σ Q (xalloc i ls st σ (.inr ((c : Int).toNat, xdef (c : Int).toNat)) (xnf (c : Int).toNat)) ↔ _
  unfold xalloc
  simp only [Int.toNat_natCast]
  split <;> rename_i h
  · simp only [Gs, h, true_and]
  · simp only [Gs, h, false_and]
theorem hs_newa {ty : ArrayType} (hf : ft k i = some (pc, .newarray ty, [(z : Int)])) : G d k i ls (.int x :: st) σ Q ↔ (¬ x < 0 ∧ x.toNatClampNeg ≤ 100000) ∧ (σ.2.1.1 < 900000 ∧ G d k (i + 1) ls (.ref σ.2.1.1 :: st) (xnew σ (.inl (z, xzero z x.toNatClampNeg)) x.toNatClampNeg) Q) := by
  rw [G_eq hf]
  show Gs d k i ls σ Q (if ¬ x < 0 ∧ x.toNatClampNeg ≤ 100000 then xalloc i ls st σ (.inl ((z : Int).toNat, xzero (z : Int).toNat x.toNatClampNeg)) x.toNatClampNeg else none) ↔ _
  unfold xalloc
  simp only [Int.toNat_natCast]
  split <;> rename_i h
  · split <;> rename_i h2
    · simp only [Gs, h, h2, true_and, not_false_eq_true, and_self]
    · simp only [Gs, h2, false_and, and_false]
  · simp only [Gs, h, false_and]
theorem hs_anew (hf : ft k i = some (pc, .anewarray n, [(z : Int), u1])) (hz : 4 ≤ z ∧ z ≤ 8) : G d k i ls (.int x :: st) σ Q ↔ (¬ x < 0 ∧ x.toNatClampNeg ≤ 100000) ∧ (σ.2.1.1 < 900000 ∧ G d k (i + 1) ls (.ref σ.2.1.1 :: st) (xnew σ (.inl (z, (x.toNatClampNeg, .inr (.inr (.inr (.inr (fun _ => none))))))) x.toNatClampNeg) Q) := by
  rw [G_eq hf]
  show Gs d k i ls σ Q (if 4 ≤ (z : Int) ∧ (z : Int) ≤ 8 ∧ ¬ x < 0 ∧ x.toNatClampNeg ≤ 100000 then xalloc i ls st σ (.inl ((z : Int).toNat, (x.toNatClampNeg, .inr (.inr (.inr (.inr (fun _ => none))))))) x.toNatClampNeg else none) ↔ _
  unfold xalloc
  simp only [Int.toNat_natCast]
  by_cases h : ¬ x < 0 ∧ x.toNatClampNeg ≤ 100000
  · rw [if_pos ⟨by omega, by omega, h⟩]
    split <;> rename_i h2
    · simp only [Gs, h, h2, true_and, not_false_eq_true, and_self]
    · simp only [Gs, h2, false_and, and_false]
  · rw [if_neg (fun q => h q.2.2)]
    simp only [Gs, h, false_and]
theorem hs_ifn {off : Int} {tg : Nat} (hf : ft k i = some (pc, .ifnull off, [(tg : Int)])) : G d k i ls (.null :: st) σ Q ↔ G d k tg ls st σ Q := by
  refine gs_go hf ?_
  show xgo (xtgt [(tg : Int)]) ls st σ = _
  simp [xtgt, xgo]
theorem hs_ifr {off : Int} {tg : Nat} (hf : ft k i = some (pc, .ifnull off, [(tg : Int)])) : G d k i ls (.ref a :: st) σ Q ↔ (a < 1000000 ∨ (1000100 ≤ a ∧ a < 1000126)) ∧ G d k (i + 1) ls st σ Q := by
  rw [G_eq hf]
  show Gs d k i ls σ Q (if a < 1000000 ∨ (1000100 ≤ a ∧ a < 1000126) then xgo (i + 1) ls st σ else none) ↔ _
  split <;> rename_i h
  · simp only [Gs, h, true_and]
  · simp only [Gs, h, false_and]
theorem hs_nnn {off : Int} (hf : ft k i = some (pc, .ifnonnull off, aux)) : G d k i ls (.null :: st) σ Q ↔ G d k (i + 1) ls st σ Q := gs_go hf rfl
theorem hs_nnr {off : Int} {tg : Nat} (hf : ft k i = some (pc, .ifnonnull off, [(tg : Int)])) : G d k i ls (.ref a :: st) σ Q ↔ (a < 1000000 ∨ (1000100 ≤ a ∧ a < 1000126)) ∧ G d k tg ls st σ Q := by
  rw [G_eq hf]
  show Gs d k i ls σ Q (if a < 1000000 ∨ (1000100 ≤ a ∧ a < 1000126) then xgo (xtgt [(tg : Int)]) ls st σ else none) ↔ _
  split <;> rename_i h
  · simp only [Gs, h, true_and]
    exact Iff.rfl
  · simp only [Gs, h, false_and]
theorem hs_cast (hf : ft k i = some (pc, .checkcast n, [(z : Int), u1])) : G d k i ls (.ref a :: st) σ Q ↔ (a < 1000000 ∧ hck z (σ.1 a)) ∧ G d k (i + 1) ls (.ref a :: st) σ Q := by
  rw [G_eq hf]
  show Gs d k i ls σ Q (if a < 1000000 then (match σ.1 a with
      | some (.inl (t, (_, .inl _))) => if ((z : Int) = 0 ∧ t = 0) ∨ ((z : Int) = 1 ∧ t = 1) then xgo (i + 1) ls (.ref a :: st) σ else none
      | _ => none) else none) ↔ _
  unfold hck
  by_cases ha : a < 1000000
  · simp only [ha, if_true, true_and]
    rcases h : σ.1 a with _ | (⟨t', n, f | f | f | f | f⟩ | ⟨c', fs⟩)
    all_goals first
      | (simp only [Gs, false_and]; done)
      | (simp only
         have hz : ((z : Int) = 0 ∧ t' = 0 ∨ (z : Int) = 1 ∧ t' = 1) ↔ (z = 0 ∧ t' = 0 ∨ z = 1 ∧ t' = 1) := by omega
         by_cases hc : z = 0 ∧ t' = 0 ∨ z = 1 ∧ t' = 1
         · rw [if_pos (hz.mpr hc)]
           simp only [Gs, hc, true_and]
         · rw [if_neg (fun q => hc (hz.mp q))]
           simp only [Gs, hc, false_and])
  · simp only [ha, if_false, false_and]
    exact Iff.rfl
theorem hs_clone (hf : ft k i = some (pc, .invokevirtual n, [(z : Int), 1, 22, u1])) : G d k i ls (.ref a :: st) σ Q ↔ (a < 1000000 ∧ xcat st ≤ 8) ∧ hcn z (σ.1 a) (fun e m => σ.2.1.1 < 900000 ∧ G d k (i + 1) ls (.ref σ.2.1.1 :: st) (xnew σ e m) Q) := by
  rw [G_eq hf]
  show Gs d k i ls σ Q (xclone ((z : Int).toNat) i ls (.ref a :: st) σ) ↔ _
  unfold xclone hcn xalloc
  simp only [Int.toNat_natCast]
  by_cases ha : a < 1000000 ∧ xcat st ≤ 8
  · rw [if_pos ha]
    simp only [ha, and_self, true_and]
    rcases h : σ.1 a with _ | (⟨t', n, f | f | f | f | f⟩ | ⟨c', fs⟩)
    all_goals first
      | exact Iff.rfl
      | (simp only
         split <;> rename_i hc
         · split <;> rename_i h2
           · simp only [Gs, hc, h2, true_and, and_self]
           · simp only [Gs, h2, false_and, and_false]
         · simp only [Gs, hc, false_and])
  · rw [if_neg ha]
    simp only [ha, false_and]
    exact Iff.rfl
theorem hs_copy (hf : ft k i = some (pc, .invokestatic n, [0, 5, 21, u1])) : G d k i ls (.int w :: .int y :: .ref a :: .int x :: .ref b :: st) σ Q ↔ (a < 1000000 ∧ xcat st ≤ 8) ∧ hcp b x y w (xRd σ b) (σ.1 a) (fun e => G d k (i + 1) ls st (xwr σ a e) Q) := by
  rw [G_eq hf]
  show Gs d k i ls σ Q (xcopy i ls (.int w :: .int y :: .ref a :: .int x :: .ref b :: st) σ) ↔ _
  unfold xcopy hcp
  dsimp only
  by_cases ha : a < 1000000
  · simp only [ha, if_true, true_and]
    split
    · rename_i t0 n0 f t1 n1 g h1 h2
      simp only [h1, h2]
      split <;> rename_i hc
      · obtain ⟨g1, g2, g3, g4, g5, g6, g7, g8, g9⟩ := hc
        simp only [Gs, g1, g2, g3, g4, g5, g6, g7, g8, g9, true_and, not_false_eq_true, and_self]
      · simp only [Gs]
        refine ⟨fun h => h.elim, fun h => hc ?_⟩
        obtain ⟨g8, ⟨g1, g2, g3, g4, g5, g6, g7, g9⟩, -⟩ := h
        exact ⟨g1, g2, g3, g4, g5, g6, g7, g8, g9⟩
    · rename_i h1
      refine ⟨fun h => h.elim, fun h => ?_⟩
      have h9 := h.2
      split at h9
      · rename_i q1 q2
        exact h1 _ _ _ _ _ _ q1 q2
      · exact h9
  · simp only [ha, if_false, false_and]
    exact Iff.rfl
theorem hs_iret {ty : FieldType} (hf : ft k i = some (pc, .ireturn, aux)) (hk : xrtf k = some ty) : G d k i ls [.int x] σ Q ↔ narrow ty (.int x) = .int x ∧ Q (.inl (some (.int x))) σ := by
  rw [G_eq hf]
  show Gs d k i ls σ Q (xret k [.int x]) ↔ _
  unfold xret
  simp only [hk]
  split <;> rename_i h
  · simp only [Gs, h, true_and]
    exact Iff.rfl
  · simp only [Gs, h, false_and]
theorem hs_vcall {na kind k' : Nat} {as : List Value} {bs : List Value} (hf : ft k i = some (pc, .invokevirtual n, [(k' : Int), (na : Int), (kind : Int), u1])) (hk : kind ≤ 9) (hl : as.length = na) (hr : as.reverse = .ref a :: bs) (hx : (xargs as.reverse).length ≤ xmlf k') (hks : ¬ (kind = 1 ∨ kind = 4 ∨ kind = 6)) : G (d + 1) k i ls (as ++ st) σ Q ↔ hcl (xcxf k') (xRd σ a) ∧ (xcat st ≤ 8 ∧ Cl d k' as.reverse σ (Gk (d + 1) k i ls st Q)) := by
  rw [G_eq hf]
  show Gs (d + 1) k i ls σ Q (xinv i [(k' : Int), (na : Int), (kind : Int), u1] ls (as ++ st) σ) ↔ _
  rw [xinv_call hk]
  unfold hcl
  rcases h : xRd σ a with _ | (e | ⟨c', fs⟩)
  · unfold xcall
    subst hl
    rw [List.take_left, List.drop_left, hr]
    simp only [h, if_neg hks, false_and]
    split <;> exact Iff.rfl
  · unfold xcall
    subst hl
    rw [List.take_left, List.drop_left, hr]
    simp only [h, if_neg hks, false_and]
    split <;> exact Iff.rfl
  · by_cases hc : c' = xcxf k'
    · rw [xcall_vg as hl hr hx hc.symm h]
      simp only [hc, true_and]
      split <;> rename_i h8
      · simp only [Gs, h8, true_and]
      · simp only [Gs, h8, false_and]
    · unfold xcall
      subst hl
      rw [List.take_left, List.drop_left, hr]
      simp only [h, if_neg hks, hc, if_false, false_and]
      split <;> exact Iff.rfl
theorem hs_pcall {na kind k' : Nat} {as : List Value} {bs : List Value} (hf : ft k i = some (pc, .invokespecial n, [(k' : Int), (na : Int), (kind : Int), u1])) (hk : kind ≤ 9) (hl : as.length = na) (hr : as.reverse = .ref a :: bs) (hx : (xargs as.reverse).length ≤ xmlf k') (hks : ¬ (kind = 1 ∨ kind = 4 ∨ kind = 6)) : G (d + 1) k i ls (as ++ st) σ Q ↔ hcl (xcxf k') (xRd σ a) ∧ (xcat st ≤ 8 ∧ Cl d k' as.reverse σ (Gk (d + 1) k i ls st Q)) := by
  rw [G_eq hf]
  show Gs (d + 1) k i ls σ Q (xinv i [(k' : Int), (na : Int), (kind : Int), u1] ls (as ++ st) σ) ↔ _
  rw [xinv_call hk]
  unfold hcl
  rcases h : xRd σ a with _ | (e | ⟨c', fs⟩)
  · unfold xcall
    subst hl
    rw [List.take_left, List.drop_left, hr]
    simp only [h, if_neg hks, false_and]
    split <;> exact Iff.rfl
  · unfold xcall
    subst hl
    rw [List.take_left, List.drop_left, hr]
    simp only [h, if_neg hks, false_and]
    split <;> exact Iff.rfl
  · by_cases hc : c' = xcxf k'
    · rw [xcall_vg as hl hr hx hc.symm h]
      simp only [hc, true_and]
      split <;> rename_i h8
      · simp only [Gs, h8, true_and]
      · simp only [Gs, h8, false_and]
    · unfold xcall
      subst hl
      rw [List.take_left, List.drop_left, hr]
      simp only [h, if_neg hks, hc, if_false, false_and]
      split <;> exact Iff.rfl
theorem hs_oinit (hf : ft k i = some (pc, .invokespecial n, [0, 1, 20, u1])) : G d k i ls (.ref a :: st) σ Q ↔ (a < 1000000 ∧ xcat st ≤ 8) ∧ G d k (i + 1) ls st σ Q := by
  rw [G_eq hf]
  show Gs d k i ls σ Q (if a < 1000000 ∧ xcat st ≤ 8 then xgo (i + 1) ls st σ else none) ↔ _
  split <;> rename_i h
  · simp only [Gs, h, true_and, and_self]
  · simp only [Gs, h, false_and]
end
