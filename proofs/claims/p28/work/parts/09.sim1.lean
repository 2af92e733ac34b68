/-! ===== how the small machine's states stand in the machine's ===== -/
def xVal (B : Nat) (xv : Nat → Value) : Value → Value
  | .ref a => if a < 1000000 then .ref (B + a) else xv (a - 1000000)
  | v => v
def xArr (B : Nat) : vp_A → vp_A
  | (n, .inr (.inr (.inr (.inr f)))) => (n, .inr (.inr (.inr (.inr (fun j => (f j).map (fun a => B + a))))))
  | x => x
def xEnt (B : Nat) (xv : Nat → Value) (dA : Nat → ClassId) : xE → va_E
  | .inl (t, x) => .inl (dA t, xArr B x)
  | .inr (c, fs) => .inr (c, fs.map (xVal B xv))
def xty (t : Nat) : FieldType := match t with
  | 0 => .int
  | 1 => .byte
  | 2 => .boolean
  | 3 => .long
  | 4 => .object "LampStrip$Strip"
  | 5 => .array .int
  | 6 => .object "LampStripLaw$Lamp"
  | 7 => .object "LampStripLaw$Strip"
  | _ => .object "LampStripLaw$Command"
/-- places 2 and 3 stand empty: no such rows here -/
abbrev xtys (dA : Nat → ClassId) : List (ClassId × FieldType) := [(dA 0, .int), (dA 1, .byte), (dA 2, .int), (dA 3, .byte), (dA 4, .object "LampStrip$Strip"), (dA 5, .array .int), (dA 6, .object "LampStripLaw$Lamp"), (dA 7, .object "LampStripLaw$Strip"), (dA 8, .object "LampStripLaw$Command")]
def xHR (B : Nat) (xv : Nat → Value) (D : va_G) (dA : Nat → ClassId) (σ : xS) (H : Heap) : Prop :=
  H.size = B + σ.2.1.1 ∧ σ.2.1.1 ≤ 1000000 ∧ ∀ (a : Nat) (e : xE), σ.1 a = some e → a < σ.2.1.1 ∧ va_at D vwCl (B + a, xEnt B xv dA e) H
def xas (B : Nat) (xv : Nat → Value) : Nat → xL → List (Nat × Value)
  | _, [] => []
  | j, none :: r => xas B xv (j + 1) r
  | j, some v :: r => (j, xVal B xv v) :: xas B xv (j + 1) r
def xLV (B : Nat) (xv : Nat → Value) (LS : Array Slot) (ls : xL) (n : Nat) : Prop := lv_has LS n (xas B xv 0 ls) ∧ ls.length = n
theorem xas_mem {B : Nat} {xv : Nat → Value} : ∀ (ls : xL) (j i : Nat) (w : Value), (i, w) ∈ xas B xv j ls ↔ ∃ (k : Nat) (v : Value), i = j + k ∧ ls[k]? = some (some v) ∧ w = xVal B xv v := by
  intro ls
  induction ls with
  | nil => intro j i w; simp [xas]
  | cons x r ih =>
    intro j i w
    cases x with
    | none =>
      simp only [xas, ih]
      constructor
      · rintro ⟨k, v, h1, h2, h3⟩
        exact ⟨k + 1, v, by omega, by simpa using h2, h3⟩
      · rintro ⟨k, v, h1, h2, h3⟩
        cases k with
        | zero => simp at h2
        | succ k => exact ⟨k, v, by omega, by simpa using h2, h3⟩
    | some u =>
      simp only [xas, List.mem_cons, ih, Prod.mk.injEq]
      constructor
      · rintro (⟨h1, h2⟩ | ⟨k, v, h1, h2, h3⟩)
        · exact ⟨0, u, by omega, by simp, h2⟩
        · exact ⟨k + 1, v, by omega, by simpa using h2, h3⟩
      · rintro ⟨k, v, h1, h2, h3⟩
        cases k with
        | zero =>
          left
          simp only [List.getElem?_cons_zero, Option.some.injEq] at h2
          exact ⟨by omega, by rw [h3, h2]⟩
        | succ k => right; exact ⟨k, v, by omega, by simpa using h2, h3⟩
theorem xLV.get {B : Nat} {xv : Nat → Value} {LS : Array Slot} {ls : xL} {n i : Nat} {v : Value} (h : xLV B xv LS ls n) (hi : ls[i]? = some (some v)) : LS[i]? = some (.val (xVal B xv v)) :=
  h.1.2.2 (i, xVal B xv v) ((xas_mem ls 0 i _).mpr ⟨i, v, by omega, hi, rfl⟩)
theorem xkill_length (ls : xL) (n : Nat) : (xkill ls n).length = ls.length := by
  unfold xkill
  cases n with
  | zero => rfl
  | succ m => simp only; split <;> simp
theorem xkill_get {ls : xL} {n k : Nat} {v : Value} (h : (xkill ls n)[k]? = some (some v)) : ls[k]? = some (some v) ∧ ¬ (k + 1 = n ∧ v.category = 2) := by
  unfold xkill at h
  cases n with
  | zero => exact ⟨h, by omega⟩
  | succ m =>
    simp only at h
    split at h
    · rename_i z hz
      rw [List.getElem?_set] at h
      split at h
      · split at h <;> cases h
      · exact ⟨h, by omega⟩
    · rename_i z hz
      rw [List.getElem?_set] at h
      split at h
      · split at h <;> cases h
      · exact ⟨h, by omega⟩
    · rename_i h1 h2
      refine ⟨h, fun q => ?_⟩
      obtain ⟨q1, q2⟩ := q
      have hk : k = m := by omega
      subst hk
      cases v <;> simp [Value.category] at q2
      · exact h1 _ h
      · exact h2 _ h
theorem xVal_cat {B : Nat} {xv : Nat → Value} (hxv : ∀ k, (xv k).category = 1) (v : Value) : (xVal B xv v).category = v.category := by
  cases v with
  | ref a =>
    simp only [xVal]
    split
    · rfl
    · exact hxv _
  | _ => rfl
theorem xLV.set1 {B : Nat} {xv : Nat → Value} {LS' : Array Slot} {ls : xL} {n i : Nat} {v : Value} (hxv : ∀ k, (xv k).category = 1) (hlen : ls.length = n) (h : lv_has LS' n ((i, xVal B xv v) :: (xas B xv 0 ls).filter (fun q => !(q.1 == i) && !(q.1 + 1 == i && q.2.category == 2)))) : xLV B xv LS' (xset1 ls i v) n := by
  refine ⟨⟨h.1, h.2.1, fun q hq => ?_⟩, by simp [xset1, xkill_length, hlen]⟩
  obtain ⟨j, w⟩ := q
  obtain ⟨k, u, h1, h2, h3⟩ := (xas_mem _ 0 j w).mp hq
  have hjk : j = k := by omega
  subst hjk
  rw [xset1, List.getElem?_set] at h2
  refine h.2.2 (j, w) ?_
  split at h2
  · rename_i hij
    subst hij
    split at h2
    · cases h2
      rw [h3]; exact List.mem_cons_self
    · cases h2
  · rename_i hij
    obtain ⟨g1, g2⟩ := xkill_get h2
    refine List.mem_cons_of_mem _ (List.mem_filter.mpr ⟨(xas_mem ls 0 j w).mpr ⟨j, u, by omega, g1, h3⟩, ?_⟩)
    have hji : ¬ j = i := fun q => hij q.symm
    have hc : w.category = u.category := by rw [h3]; exact xVal_cat hxv u
    simp only [Bool.and_eq_true, Bool.not_eq_true', beq_eq_false_iff_ne, Bool.and_eq_false_imp, beq_iff_eq]
    exact ⟨hji, fun q1 => by rw [hc]; exact fun q2 => g2 ⟨q1, q2⟩⟩
theorem xLV.set2 {B : Nat} {xv : Nat → Value} {LS' : Array Slot} {ls : xL} {n i : Nat} {v : Value} (hxv : ∀ k, (xv k).category = 1) (hlen : ls.length = n) (h : lv_has LS' n ((i, xVal B xv v) :: (xas B xv 0 ls).filter (fun q => !(q.1 == i) && (!(q.1 == i + 1) && !(q.1 + 1 == i && q.2.category == 2))))) : xLV B xv LS' (xset2 ls i v) n := by
  refine ⟨⟨h.1, h.2.1, fun q hq => ?_⟩, by simp [xset2, xkill_length, hlen]⟩
  obtain ⟨j, w⟩ := q
  obtain ⟨k, u, h1, h2, h3⟩ := (xas_mem _ 0 j w).mp hq
  have hjk : j = k := by omega
  subst hjk
  rw [xset2, List.getElem?_set] at h2
  refine h.2.2 (j, w) ?_
  split at h2
  · split at h2 <;> cases h2
  · rename_i hi1
    rw [List.getElem?_set] at h2
    split at h2
    · rename_i hij
      subst hij
      split at h2
      · cases h2
        rw [h3]; exact List.mem_cons_self
      · cases h2
    · rename_i hij
      obtain ⟨g1, g2⟩ := xkill_get h2
      refine List.mem_cons_of_mem _ (List.mem_filter.mpr ⟨(xas_mem ls 0 j w).mpr ⟨j, u, by omega, g1, h3⟩, ?_⟩)
      have hji : ¬ j = i := fun q => hij q.symm
      have hji1 : ¬ j = i + 1 := fun q => hi1 q.symm
      have hc : w.category = u.category := by rw [h3]; exact xVal_cat hxv u
      simp only [Bool.and_eq_true, Bool.not_eq_true', beq_eq_false_iff_ne, Bool.and_eq_false_imp, beq_iff_eq]
      exact ⟨hji, hji1, fun q1 => by rw [hc]; exact fun q2 => g2 ⟨q1, q2⟩⟩
theorem xLV.kill {B : Nat} {xv : Nat → Value} {LS' : Array Slot} {ls : xL} {n i : Nat} {w0 : Value} (hxv : ∀ k, (xv k).category = 1) (hlen : ls.length = n) (h : lv_has LS' n ((i, w0) :: (xas B xv 0 ls).filter (fun q => !(q.1 == i) && !(q.1 + 1 == i && q.2.category == 2)))) : xLV B xv LS' ((xkill ls i).set i none) n := by
  refine ⟨⟨h.1, h.2.1, fun q hq => ?_⟩, by simp [xkill_length, hlen]⟩
  obtain ⟨j, w⟩ := q
  obtain ⟨k, u, h1, h2, h3⟩ := (xas_mem _ 0 j w).mp hq
  have hjk : j = k := by omega
  subst hjk
  rw [List.getElem?_set] at h2
  refine h.2.2 (j, w) ?_
  split at h2
  · split at h2 <;> cases h2
  · rename_i hij
    obtain ⟨g1, g2⟩ := xkill_get h2
    refine List.mem_cons_of_mem _ (List.mem_filter.mpr ⟨(xas_mem ls 0 j w).mpr ⟨j, u, by omega, g1, h3⟩, ?_⟩)
    have hji : ¬ j = i := fun q => hij q.symm
    have hc : w.category = u.category := by rw [h3]; exact xVal_cat hxv u
    simp only [Bool.and_eq_true, Bool.not_eq_true', beq_eq_false_iff_ne, Bool.and_eq_false_imp, beq_iff_eq]
    exact ⟨hji, fun q1 => by rw [hc]; exact fun q2 => g2 ⟨q1, q2⟩⟩
/-! the cells as a list of the kit -/
def xW (B : Nat) (xv : Nat → Value) (dA : Nat → ClassId) (σ : xS) : va_W := (List.range σ.2.1.1).filterMap (fun a => (σ.1 a).map (fun e => (B + a, xEnt B xv dA e)))
theorem xW_mem {B : Nat} {xv : Nat → Value} {dA : Nat → ClassId} {σ : xS} {q : Nat × va_E} (h : q ∈ xW B xv dA σ) : ∃ a e, a < σ.2.1.1 ∧ σ.1 a = some e ∧ q = (B + a, xEnt B xv dA e) := by
  obtain ⟨a, ha, h2⟩ := List.mem_filterMap.mp h
  obtain ⟨e, he, hq⟩ := Option.map_eq_some_iff.mp h2
  exact ⟨a, e, List.mem_range.mp ha, he, hq.symm⟩
theorem xW_get {B : Nat} {xv : Nat → Value} {dA : Nat → ClassId} {σ : xS} {a : Nat} {e : xE} (ha : a < σ.2.1.1) (he : σ.1 a = some e) : ∃ q : Nat, (xW B xv dA σ)[q]? = some (B + a, xEnt B xv dA e) := by
  apply List.getElem?_of_mem
  exact List.mem_filterMap.mpr ⟨a, List.mem_range.mpr ha, by rw [he]; rfl⟩
theorem xW_P {B : Nat} {xv : Nat → Value} {D : va_G} {dA : Nat → ClassId} {σ : xS} {H : Heap} (h : xHR B xv D dA σ H) : va_P D vwCl (xW B xv dA σ) H := by
  intro k q hk
  obtain ⟨a, e, h1, h2, h3⟩ := xW_mem (List.mem_of_getElem? hk)
  rw [h3]
  exact (h.2.2 a e h2).2
theorem xW_pw {B : Nat} {xv : Nat → Value} {dA : Nat → ClassId} {σ : xS} : (xW B xv dA σ).Pairwise (fun p q => p.1 < q.1) := by
  unfold xW
  rw [List.pairwise_filterMap]
  refine List.Pairwise.imp ?_ (List.pairwise_lt_range (n := σ.2.1.1))
  intro a b hab p hp q hq
  obtain ⟨e1, -, h1⟩ := Option.map_eq_some_iff.mp hp
  obtain ⟨e2, -, h2⟩ := Option.map_eq_some_iff.mp hq
  rw [← h1, ← h2]
  show B + a < B + b
  omega
theorem xW_D {B : Nat} {xv : Nat → Value} {dA : Nat → ClassId} {σ : xS} : va_D (fun q => B ≤ q) (xW B xv dA σ) := by
  refine ⟨fun i j p q hi hj hpq => ?_, fun k q hk => ?_⟩
  · obtain ⟨i1, i2⟩ := List.getElem?_eq_some_iff.mp hi
    obtain ⟨j1, j2⟩ := List.getElem?_eq_some_iff.mp hj
    have hp := List.pairwise_iff_getElem.mp (xW_pw (B := B) (xv := xv) (dA := dA) (σ := σ))
    rcases Nat.lt_trichotomy i j with h | h | h
    · have := hp i j i1 j1 h
      rw [i2, j2] at this; omega
    · exact h
    · have := hp j i j1 i1 h
      rw [i2, j2] at this; omega
  · obtain ⟨a, e, -, -, h3⟩ := xW_mem (List.mem_of_getElem? hk)
    rw [h3]; exact Nat.le_add_right _ _
theorem xW_set {B : Nat} {xv : Nat → Value} {D : va_G} {dA : Nat → ClassId} {σ : xS} {H H1 : Heap} {a q : Nat} {e0 e : xE} (h : xHR B xv D dA σ H) (hq : (xW B xv dA σ)[q]? = some (B + a, xEnt B xv dA e0)) (ha : a < σ.2.1.1)
    (hz : H1.size = H.size) (hP : va_P D vwCl ((xW B xv dA σ).set q (B + a, xEnt B xv dA e)) H1) : xHR B xv D dA (xwr σ a e) H1 := by
  refine ⟨by rw [hz]; exact h.1, h.2.1, fun b e1 hb => ?_⟩
  have hlt : q < (xW B xv dA σ).length := (List.getElem?_eq_some_iff.mp hq).1
  by_cases hba : b = a
  · subst hba
    have he : e1 = e := by
      have : (if b = b then some e else σ.1 b) = some e1 := hb
      rw [if_pos rfl] at this
      exact (Option.some.inj this).symm
    rw [he]
    exact ⟨ha, hP q _ (by rw [List.getElem?_set_self hlt])⟩
  · have hb' : σ.1 b = some e1 := by
      have : (if b = a then some e else σ.1 b) = some e1 := hb
      rw [if_neg hba] at this
      exact this
    have hbl := (h.2.2 b e1 hb').1
    obtain ⟨q1, hq1⟩ := xW_get (B := B) (xv := xv) (dA := dA) hbl hb'
    refine ⟨hbl, hP q1 _ ?_⟩
    rw [List.getElem?_set_ne]
    · exact hq1
    · intro hqq
      rw [← hqq, hq] at hq1
      have := congrArg (fun z => z.1) (Option.some.inj hq1)
      simp only at this
      omega
theorem xVS_size {A : Nat → Prop} {H0 H1 : Heap} {locs : List Loc} (h : va_S A H0 H1 locs) : H0.size ≤ H1.size := h.1
