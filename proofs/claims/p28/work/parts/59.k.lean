/-! ===== the texts of the program ===== -/
section
variable {d k k' na kind : Nat} {pc : Nat} {ins : Instr} {aux : List Int} {ls : xL} {r st : List Value} {σ : xS} {Q : xR → xS → Prop}
theorem xRd_s {i : Nat} (hi : i < 26) : xRd σ (1000100 + i) = some (.inr (13, [.ref (1000200 + i), .int 0])) := by
  unfold xRd xExt
  rw [if_neg (by omega), if_neg (by omega), if_neg (by omega), if_pos (by omega), show 1000100 + i + 100 = 1000200 + i by omega]
theorem xRd_b {i : Nat} (hi : i < 26) : xRd σ (1000200 + i) = some (.inl (1, ((xstr.getD i []).length, .inl (fun j => (xstr.getD i []).getD j 0)))) := by
  unfold xRd xExt
  rw [if_neg (by omega), if_neg (by omega), if_neg (by omega), if_neg (by omega), if_neg (by omega), if_neg (by omega), if_pos (by omega), show 1000200 + i - 1000200 = i by omega]
theorem xcall_s (as : List Value) {i : Nat} {bs : List Value} (hi : i < 14) (hl : as.length = na) (hr : as.reverse = .ref (1000100 + i) :: bs) (hx : (xargs as.reverse).length ≤ xmlf k') (hc : xcxf k' = 13) : xcall k' na 0 (as ++ r) σ = if xcat r ≤ 8 then some (.inr (.inl (k', as.reverse, r))) else none := xcall_vg as hl hr hx hc (xRd_s (by omega))
end
def ywl (i : Nat) : Nat := (xstr.getD i []).length
def ywc (i q : Nat) : Nat := ((xstr.getD i []).getD q 0).toNatClampNeg
theorem yw_ok : ∀ i, i < 14 → (1 ≤ ywl i ∧ ywl i < 10) ∧ ∀ q, q < ywl i → (97 ≤ ywc i q ∧ ywc i q ≤ 122) ∧ (((xstr.getD i []).getD q 0 &&& 255).toUInt32 % 65536).toInt32 = yI (ywc i q) := by decide
theorem gs_retn {d k i : Nat} {pc : Nat} {aux : List Int} {ls : xL} {σ : xS} {Q : xR → xS → Prop} {x : Int32} {ty : FieldType} (hf : ft k i = some (pc, .ireturn, aux)) (hk : xrtf k = some ty) (hn : narrow ty (.int x) = .int x) : G d k i ls [.int x] σ Q ↔ Q (.inl (some (.int x))) σ := by
  rw [G_eq hf]
  show Gs d k i ls σ Q (xret k [.int x]) ↔ _
  unfold xret
  simp only [hk]
  rw [if_pos hn]
  rfl
theorem ynar : ∀ c, c < 128 → ((yI c).toUInt32 % 65536).toInt32 = yI c := by decide
theorem ynarc {c : Nat} (h : c < 128) : narrow .char (.int (yI c)) = .int (yI c) := congrArg Value.int (ynar c h)
/-- a text: its object, its bytes -/
abbrev xStr (σ : xS) (a b n : Nat) (f : Nat → Int32) (tl : List Value) : Prop := xRd σ a = some (.inr (13, .ref b :: .int 0 :: tl)) ∧ xRd σ b = some (.inl (1, (n, .inl f)))
theorem xStr_t {σ : xS} {i : Nat} (hi : i < 26) : xStr σ (1000100 + i) (1000200 + i) (ywl i) (fun j => (xstr.getD i []).getD j 0) [] := ⟨xRd_s hi, xRd_b hi⟩
theorem ynar8 : ∀ c, c < 128 → ((yI c &&& 255).toUInt32 % 65536).toInt32 = yI c := by decide
section
variable {d : Nat} {σ : xS} {a b n : Nat} {f : Nat → Int32} {tl : List Value}
theorem m_219g (h : xStr σ a b n f tl) : Ra d 219 [.ref a] σ (.inl (some (.int 0))) σ := by
  intro Q
  have h1 : ¬ (1 : Int32) = 0 := by decide
  have h2 : narrow .byte (.int 0) = .int 0 := rfl
  show G d 219 0 [some (.ref a)] [] σ Q ↔ _
  simp only [s_219_0, s_219_1, s_219_2, s_219_3, s_219_4, s_219_5, s_219_6, h.1, hgf_s, hsel_1, h1, h2, if_false, Gk_v, Gk_n, xcat_nil, xcat_i, xcat_r, xcat_l, xcat_d, Nat.zero_le, Nat.reduceAdd, Nat.reduceLeDiff, true_and, and_true, ykl_i, ykl_r, ykl_n, ykl_l]
theorem m_220g (h : xStr σ a b n f tl) : Ra d 220 [.ref a] σ (.inl (some (.int 1))) σ := by
  intro Q
  have h1 : ¬ (1 : Int32) = 0 := by decide
  show G d 220 0 [some (.ref a)] [] σ Q ↔ _
  simp only [s_220_0, s_220_1, s_220_2, s_220_3, s_220_4, s_220_5, s_220_6, s_220_7, s_220_8, h.1, hgf_s, hsel_1, h1, ybo_1, ne_eq, not_true_eq_false, if_false, Gk_v, Gk_n, xcat_nil, xcat_i, xcat_r, xcat_l, xcat_d, Nat.zero_le, Nat.reduceAdd, Nat.reduceLeDiff, true_and, and_true, ykl_i, ykl_r, ykl_n, ykl_l]
theorem m_217g (h : xStr σ a b n f tl) : Ra (d + 1) 217 [.ref a] σ (.inl (some (.int (yI n)))) σ := by
  intro Q
  have h0 : yI n >>> ((0 : Int32) &&& 31) = yI n := Int32.shiftRight_zero
  show G (d + 1) 217 0 [some (.ref a)] [] σ Q ↔ _
  simp only [s_217_0, s_217_1, s_217_2, s_217_3, s_217_4, s_217_5, s_217_6, h.1, h.2, hgf_s, hsel_0, hln_1, hcl_s, m_219g h, h0, Gk_v, Gk_n, xcat_nil, xcat_i, xcat_r, xcat_l, xcat_d, Nat.zero_le, Nat.reduceAdd, Nat.reduceLeDiff, true_and, and_true, ykl_i, ykl_r, ykl_n, ykl_l]
theorem m_217 {i : Nat} (hi : i < 14) : Ra (d + 1) 217 [.ref (1000100 + i)] σ (.inl (some (.int (yI (ywl i))))) σ := m_217g (xStr_t (by omega))
theorem m_225 {q n : Nat} (h : q < n) (hn : n < 2147483648) : Ra d 225 [.int (yI q), .int (yI n), .ref 1000002] σ (.inl (some (.int (yI q)))) σ := by
  intro Q
  have h1 : ¬ yI q < 0 := yI_nneg (by omega)
  have h2 : yI q < yI n := (yI_lt (by omega) hn).mpr h
  show G d 225 0 [some (.int (yI q)), some (.int (yI n)), some (.ref 1000002)] [] σ Q ↔ _
  simp only [s_225_0, s_225_1, s_225_2, s_225_3, s_225_4, s_225_10, s_225_11, h1, h2, if_true, if_false, Gk_v, Gk_n, xcat_nil, xcat_i, xcat_r, xcat_l, xcat_d, Nat.zero_le, Nat.reduceAdd, Nat.reduceLeDiff, true_and, and_true, ykl_i, ykl_r, ykl_n, ykl_l]
theorem m_221 {q n : Nat} (h : q < n) (hn : n < 2147483648) : Ra (d + 1) 221 [.int (yI q), .int (yI n)] σ (.inl none) σ := by
  intro Q
  have g := m_225 (d := d) (σ := σ) h hn
  show G (d + 1) 221 0 [some (.int (yI q)), some (.int (yI n))] [] σ Q ↔ _
  simp only [s_221_0, s_221_1, s_221_2, s_221_3, s_221_4, s_221_4i, s_221_5, g, s_221_4i, Gk_v, Gk_n, xcat_nil, xcat_i, xcat_r, xcat_l, xcat_d, Nat.zero_le, Nat.reduceAdd, Nat.reduceLeDiff, true_and, and_true, ykl_i, ykl_r, ykl_n, ykl_l]
theorem m_222g (h : xRd σ b = some (.inl (1, (n, .inl f)))) {q c : Nat} (hq : q < n) (hn : n < 2147483648) (hc : f q = yI c) (hc8 : c < 128) : Ra (d + 2) 222 [.ref b, .int (yI q)] σ (.inl (some (.int (yI c)))) σ := by
  intro Q
  have g221 := m_221 (d := d) (σ := σ) hq hn
  have h1 := yix_I hq (by omega)
  have h2 : (yI q).toNatClampNeg = q := yI_clamp (by omega)
  have h3 := ynar8 c hc8
  have h4 := ynarc hc8
  show G (d + 2) 222 0 [some (.ref b), some (.int (yI q))] [] σ Q ↔ _
  simp only [s_222_0, s_222_1, s_222_2, s_222_3, s_222_4, s_222_5, s_222_6, s_222_7, s_222_8, s_222_9, s_222_10, h, hln_1, hai_s, g221, h1, h2, hc, h3, h4, Gk_v, Gk_n, xcat_nil, xcat_i, xcat_r, xcat_l, xcat_d, Nat.zero_le, Nat.reduceAdd, Nat.reduceLeDiff, true_and, and_true, ykl_i, ykl_r, ykl_n, ykl_l]
theorem m_218g (h : xStr σ a b n f tl) {q c : Nat} (hq : q < n) (hn : n < 2147483648) (hc : f q = yI c) (hc8 : c < 128) : Ra (d + 3) 218 [.ref a, .int (yI q)] σ (.inl (some (.int (yI c)))) σ := by
  intro Q
  have h1 : ¬ (1 : Int32) = 0 := by decide
  have g222 := m_222g (d := d) h.2 hq hn hc hc8
  have h4 := ynarc hc8
  show G (d + 3) 218 0 [some (.ref a), some (.int (yI q))] [] σ Q ↔ _
  simp only [s_218_0, s_218_1, s_218_2, s_218_3, s_218_4, s_218_5, s_218_6, s_218_7, s_218_8, s_218_9, s_218_10, s_218_12, h.1, hgf_s, hsel_0, hcl_s, m_220g h, h1, if_false, g222, h4, Gk_v, Gk_n, xcat_nil, xcat_i, xcat_r, xcat_l, xcat_d, Nat.zero_le, Nat.reduceAdd, Nat.reduceLeDiff, true_and, and_true, ykl_i, ykl_r, ykl_n, ykl_l]
theorem yw_8 : ∀ i, i < 26 → ywl i < 10 ∧ ∀ q, q < ywl i → ywc i q < 128 ∧ (xstr.getD i []).getD q 0 = yI (ywc i q) := by decide +kernel
theorem m_218 {i q : Nat} (hi : i < 14) (hq : q < ywl i) : Ra (d + 3) 218 [.ref (1000100 + i), .int (yI q)] σ (.inl (some (.int (yI (ywc i q))))) σ := by
  obtain ⟨h0, h1⟩ := yw_8 i (by omega)
  obtain ⟨h2, h3⟩ := h1 q hq
  exact m_218g (xStr_t (by omega)) hq (by omega) h3 h2
end
