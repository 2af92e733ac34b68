/-! ===== the texts of the program ===== -/
section
variable {d k k' na kind : Nat} {pc : Nat} {ins : Instr} {aux : List Int} {ls : xL} {r st : List Value} {σ : xS} {Q : xR → xS → Prop}
theorem xRd_s {i : Nat} (hi : i < 14) : xRd σ (1000100 + i) = some (.inr (100, [.ref (1000200 + i), .int 0])) := by
  unfold xRd xExt
  rw [if_neg (by omega), if_neg (by omega), if_neg (by omega), if_pos (by omega), show 1000100 + i + 100 = 1000200 + i by omega]
theorem xRd_b {i : Nat} (hi : i < 14) : xRd σ (1000200 + i) = some (.inl (1, ((xstr.getD i []).length, .inl (fun j => (xstr.getD i []).getD j 0)))) := by
  unfold xRd xExt
  rw [if_neg (by omega), if_neg (by omega), if_neg (by omega), if_neg (by omega), if_pos (by omega), show 1000200 + i - 1000200 = i by omega]
theorem xcall_s (as : List Value) {i : Nat} {bs : List Value} (hi : i < 14) (hl : as.length = na) (hr : as.reverse = .ref (1000100 + i) :: bs) (hx : (xargs as.reverse).length ≤ xmlf k') (hc : xcxf k' = 100) : xcall k' na 0 (as ++ r) σ = if xcat r ≤ 8 then some (.inr (.inl (k', as.reverse, r))) else none := by
  subst hl
  unfold xcall
  rw [List.take_left, List.drop_left, List.length_append]
  by_cases h : xcat r ≤ 8
  · rw [if_pos ⟨by omega, h, hx⟩, if_pos h, hr]
    simp only [xRd_s hi, hc, if_true]
    rfl
  · rw [if_neg (fun hh => h hh.2.1), if_neg h]
theorem gs_sf {i j : Nat} {y : Int} {n : Nat} (hi : i < 14) (hf : ft k j = some (pc, .getfield n, [100, 0, 0, y])) : G d k j ls (.ref (1000100 + i) :: r) σ Q ↔ G d k (j + 1) ls (.ref (1000200 + i) :: r) σ Q := by
  refine gs_go hf ?_
  show xget 100 0 j ls (.ref (1000100 + i) :: r) σ = _
  unfold xget
  simp only [xRd_s hi, if_true]
  rfl
theorem gs_sc {i j : Nat} {y : Int} {n : Nat} (hi : i < 14) (hf : ft k j = some (pc, .getfield n, [100, 1, 0, y])) : G d k j ls (.ref (1000100 + i) :: r) σ Q ↔ G d k (j + 1) ls (.int 0 :: r) σ Q := by
  refine gs_go hf ?_
  show xget 100 1 j ls (.ref (1000100 + i) :: r) σ = _
  unfold xget
  simp only [xRd_s hi, if_true]
  rfl
theorem gs_sl {i j : Nat} (hi : i < 14) (hf : ft k j = some (pc, .arraylength, aux)) : G d k j ls (.ref (1000200 + i) :: r) σ Q ↔ G d k (j + 1) ls (.int (yI (xstr.getD i []).length) :: r) σ Q := by
  refine gs_go hf ?_
  show (match xRd σ (1000200 + i) with
      | some (.inl (t', (n, _))) => if t' = 0 ∨ (t' = 1 ∧ 1000000 ≤ 1000200 + i) then xgo (j + 1) ls (.int (Int32.ofNat n) :: r) σ else none
      | _ => none) = _
  rw [xRd_b hi]
  exact if_pos (Or.inr ⟨rfl, by omega⟩)
theorem gs_sb {i j q : Nat} (hi : i < 14) (hq : q < (xstr.getD i []).length) (h2 : q < 100) (hf : ft k j = some (pc, .baload, aux)) : G d k j ls (.int (yI q) :: .ref (1000200 + i) :: r) σ Q ↔ G d k (j + 1) ls (.int ((xstr.getD i []).getD q 0) :: r) σ Q := by
  refine gs_go hf ?_
  show xaldB j ls (.int (yI q) :: .ref (1000200 + i) :: r) σ = _
  have h1 : ¬ (yI q < 0 ∨ (xstr.getD i []).length ≤ q) := fun h => h.elim (yI_nneg (by omega)) (by omega)
  have h3 : (yI q).toNatClampNeg = q := yI_clamp (by omega)
  unfold xaldB
  simp only [xRd_b hi, h3, h1, true_or, true_and, not_false_eq_true, if_true]
end
def ywl (i : Nat) : Nat := (xstr.getD i []).length
def ywc (i q : Nat) : Nat := ((xstr.getD i []).getD q 0).toNatClampNeg
theorem yw_ok : ∀ i, i < 14 → (1 ≤ ywl i ∧ ywl i < 10) ∧ ∀ q, q < ywl i → (97 ≤ ywc i q ∧ ywc i q ≤ 122) ∧ (((xstr.getD i []).getD q 0 &&& 255).toUInt32 % 65536).toInt32 = yI (ywc i q) := by decide
theorem gs_retn {d k i : Nat} {pc : Nat} {aux : List Int} {ls : xL} {σ : xS} {Q : xR → xS → Prop} {x : Int32} {ty : FieldType} (hf : ft k i = some (pc, .ireturn, aux)) (hk : xrtf k = some ty) (hn : narrow ty (.int x) = .int x) : G d k i ls [.int x] σ Q ↔ Q (.inl (some (.int x))) σ := by
  rw [G_eq hf]
  show Gs d k i ls σ Q (xret k [.int x]) ↔ _
  unfold xret
  simp only [hk]
  rw [if_pos hn]
  rfl
theorem ynar : ∀ c, c < 128 → ((yI c).toUInt32 % 65536).toInt32 = yI c := by decide
theorem ynarc {c : Nat} (h : c < 128) : narrow .char (.int (yI c)) = .int (yI c) := congrArg Value.int (ynar c h)
section
variable {d : Nat} {σ : xS}
theorem m_219 {i : Nat} (hi : i < 14) : Ra d 219 [.ref (1000100 + i)] σ (.inl (some (.int 0))) σ := by
  intro Q
  have h1 : ¬ (1 : Int32) = 0 := by decide
  have g3 := fun (st : List Value) (ls : xL) => gs_sc (d := d) (ls := ls) (r := st) (σ := σ) (Q := Q) hi f_219_3
  have g6 := fun (ls : xL) => gs_retn (d := d) (ls := ls) (σ := σ) (Q := Q) (x := 0) f_219_6 rfl rfl
  show G d 219 0 [some (.ref (1000100 + i))] [] σ Q ↔ _
  simp only [s_219_0, s_219_1, s_219_2, s_219_4, s_219_5, h1, if_false, g3, g6, Gk_v, Gk_n, xcat_nil, xcat_i, xcat_r, xcat_l, xcat_d, Nat.zero_le, Nat.reduceAdd, Nat.reduceLeDiff, true_and, and_true, ykl_i, ykl_r, ykl_n, ykl_l]
theorem m_220 {i : Nat} (hi : i < 14) : Ra d 220 [.ref (1000100 + i)] σ (.inl (some (.int 1))) σ := by
  intro Q
  have h1 : ¬ (1 : Int32) = 0 := by decide
  have g3 := fun (st : List Value) (ls : xL) => gs_sc (d := d) (ls := ls) (r := st) (σ := σ) (Q := Q) hi f_220_3
  show G d 220 0 [some (.ref (1000100 + i))] [] σ Q ↔ _
  simp only [s_220_0, s_220_1, s_220_2, s_220_4, s_220_5, s_220_6, s_220_7, s_220_8, h1, if_false, g3, ne_eq, not_true_eq_false, ybo_1, Gk_v, Gk_n, xcat_nil, xcat_i, xcat_r, xcat_l, xcat_d, Nat.zero_le, Nat.reduceAdd, Nat.reduceLeDiff, true_and, and_true, ykl_i, ykl_r, ykl_n, ykl_l]
theorem m_217 {i : Nat} (hi : i < 14) : Ra (d + 1) 217 [.ref (1000100 + i)] σ (.inl (some (.int (yI (ywl i))))) σ := by
  intro Q
  have g1 := fun (st : List Value) (ls : xL) => gs_sf (d := d + 1) (ls := ls) (r := st) (σ := σ) (Q := Q) hi f_217_1
  have g2 := fun (st : List Value) (ls : xL) => gs_sl (d := d + 1) (ls := ls) (r := st) (σ := σ) (Q := Q) hi f_217_2
  have g4 := fun (st : List Value) (ls : xL) => gs_call (d := d) (ls := ls) (σ := σ) (Q := Q) (rest := st) f_217_4 ((xinv_call (i := 4) (n := 700) (ls := ls) (kind := 0) (σ := σ) (by decide)).trans (xcall_s [.ref (1000100 + i)] hi rfl rfl (show (1 : Nat) ≤ 1 by decide) rfl))
  have g4' : ∀ (st : List Value) (ls : xL), G (d + 1) 217 4 ls (.ref (1000100 + i) :: st) σ Q ↔ xcat st ≤ 8 ∧ Cl d 219 [.ref (1000100 + i)] σ (Gk (d + 1) 217 4 ls st Q) := g4
  have h0 : yI (ywl i) >>> ((0 : Int32) &&& 31) = yI (ywl i) := Int32.shiftRight_zero
  have hl : (xstr.getD i []).length = ywl i := rfl
  show G (d + 1) 217 0 [some (.ref (1000100 + i))] [] σ Q ↔ _
  simp only [s_217_0, s_217_3, s_217_5, s_217_6, g1, g2, g4', m_219 hi, hl, h0, Gk_v, Gk_n, xcat_nil, xcat_i, xcat_r, xcat_l, xcat_d, Nat.zero_le, Nat.reduceAdd, Nat.reduceLeDiff, true_and, and_true, ykl_i, ykl_r, ykl_n, ykl_l]
theorem m_225 {q n : Nat} (h : q < n) (hn : n < 2147483648) : Ra d 225 [.int (yI q), .int (yI n), .ref 1000002] σ (.inl (some (.int (yI q)))) σ := by
  intro Q
  have h1 : ¬ yI q < 0 := yI_nneg (by omega)
  have h2 : yI q < yI n := (yI_lt (by omega) hn).mpr h
  show G d 225 0 [some (.int (yI q)), some (.int (yI n)), some (.ref 1000002)] [] σ Q ↔ _
  simp only [s_225_0, s_225_1, s_225_2, s_225_3, s_225_4, s_225_10, s_225_11, h1, h2, if_true, if_false, Gk_v, Gk_n, xcat_nil, xcat_i, xcat_r, xcat_l, xcat_d, Nat.zero_le, Nat.reduceAdd, Nat.reduceLeDiff, true_and, and_true, ykl_i, ykl_r, ykl_n, ykl_l]
theorem m_221 {q n : Nat} (h : q < n) (hn : n < 2147483648) : Ra (d + 1) 221 [.int (yI q), .int (yI n)] σ (.inl none) σ := by
  intro Q
  have g := m_225 (d := d) (σ := σ) h hn
  show G (d + 1) 221 0 [some (.int (yI q)), some (.int (yI n))] [] σ Q ↔ _
  simp only [s_221_0, s_221_1, s_221_2, s_221_3, s_221_4, s_221_4i, s_221_5, g, s_221_4i, Gk_v, Gk_n, xcat_nil, xcat_i, xcat_r, xcat_l, xcat_d, Nat.zero_le, Nat.reduceAdd, Nat.reduceLeDiff, true_and, and_true, ykl_i, ykl_r, ykl_n, ykl_l]
theorem m_222 {i q : Nat} (hi : i < 14) (hq : q < ywl i) : Ra (d + 2) 222 [.ref (1000200 + i), .int (yI q)] σ (.inl (some (.int (yI (ywc i q))))) σ := by
  intro Q
  obtain ⟨⟨b1, b2⟩, b3⟩ := yw_ok i hi
  obtain ⟨⟨b4, b5⟩, b6⟩ := b3 q hq
  have g2 := fun (st : List Value) (ls : xL) => gs_sl (d := d + 2) (ls := ls) (r := st) (σ := σ) (Q := Q) hi f_222_2
  have g6 := fun (st : List Value) (ls : xL) => gs_sb (d := d + 2) (ls := ls) (r := st) (σ := σ) (Q := Q) hi hq (by omega) f_222_6
  have g10 := fun (ls : xL) => gs_retn (d := d + 2) (ls := ls) (σ := σ) (Q := Q) (x := yI (ywc i q)) f_222_10 rfl (ynarc (by omega))
  have hl : (xstr.getD i []).length = ywl i := rfl
  have g221 := m_221 (d := d) (σ := σ) hq (by omega)
  show G (d + 2) 222 0 [some (.ref (1000200 + i)), some (.int (yI q))] [] σ Q ↔ _
  simp only [s_222_0, s_222_1, s_222_3, s_222_4, s_222_5, s_222_7, s_222_8, s_222_9, g2, g6, hl, g221, b6, g10, Gk_v, Gk_n, xcat_nil, xcat_i, xcat_r, xcat_l, xcat_d, Nat.zero_le, Nat.reduceAdd, Nat.reduceLeDiff, true_and, and_true, ykl_i, ykl_r, ykl_n, ykl_l]
theorem m_218 {i q : Nat} (hi : i < 14) (hq : q < ywl i) : Ra (d + 3) 218 [.ref (1000100 + i), .int (yI q)] σ (.inl (some (.int (yI (ywc i q))))) σ := by
  intro Q
  obtain ⟨⟨b1, b2⟩, b3⟩ := yw_ok i hi
  obtain ⟨⟨b4, b5⟩, b6⟩ := b3 q hq
  have h1 : ¬ (1 : Int32) = 0 := by decide
  have g1 : ∀ (st : List Value) (ls : xL), G (d + 3) 218 1 ls (.ref (1000100 + i) :: st) σ Q ↔ xcat st ≤ 8 ∧ Cl (d + 2) 220 [.ref (1000100 + i)] σ (Gk (d + 3) 218 1 ls st Q) := fun st ls => gs_call (d := d + 2) (ls := ls) (σ := σ) (Q := Q) (rest := st) f_218_1 ((xinv_call (i := 1) (n := 710) (ls := ls) (kind := 0) (σ := σ) (by decide)).trans (xcall_s [.ref (1000100 + i)] hi rfl rfl (show (1 : Nat) ≤ 1 by decide) rfl))
  have g4 := fun (st : List Value) (ls : xL) => gs_sf (d := d + 3) (ls := ls) (r := st) (σ := σ) (Q := Q) hi f_218_4
  have g7 := fun (ls : xL) => gs_retn (d := d + 3) (ls := ls) (σ := σ) (Q := Q) (x := yI (ywc i q)) f_218_7 rfl (ynarc (by omega))
  have g222 := m_222 (d := d) (σ := σ) hi hq
  show G (d + 3) 218 0 [some (.ref (1000100 + i)), some (.int (yI q))] [] σ Q ↔ _
  simp only [s_218_0, s_218_2, s_218_3, s_218_5, s_218_6, g1, m_220 hi, h1, if_false, g4, g222, g7, Gk_v, Gk_n, xcat_nil, xcat_i, xcat_r, xcat_l, xcat_d, Nat.zero_le, Nat.reduceAdd, Nat.reduceLeDiff, true_and, and_true, ykl_i, ykl_r, ykl_n, ykl_l]
end
