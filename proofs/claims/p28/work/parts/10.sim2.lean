/-! ===== one step of the small machine is a step of the machine: what is common ===== -/
def xTG : List Jvm.Cond := (xsels ++ lw_tbl).filter goodWord
def xisN : Jvm.Cond → Bool
  | .fieldLinkNest .. => true
  | .methodLinkNest .. => true
  | .declares _ => true
  | .castable .. => true
  | _ => false
def xNest : List Jvm.Cond := lw_tbl.filter xisN
theorem xwd_in {j : Nat} {w : Jvm.Cond} (h : xwd j w = true) : w ∈ xTG := by
  simp only [xwd, Bool.and_eq_true, decide_eq_true_eq] at h
  exact List.mem_filter.mpr ⟨List.mem_append_right _ (List.mem_of_getElem? h.1), h.2⟩
theorem xwn_in {j : Nat} {w : Jvm.Cond} (h : xwn j w = true) (hw : xisN w = true) : w ∈ xNest := by
  simp only [xwn, decide_eq_true_eq] at h
  exact List.mem_filter.mpr ⟨List.mem_of_getElem? h, hw⟩
def xtext (i : Nat) : String := (["bad", "burnt", "bypass", "curve", "dead", "feed", "fill", "level", "repeat", "shift", "show", "strip", "stutter", "x", "good", "", " ", " - ", " ;", "(", ")", "* ", "+", "/", ";", "curve "] : List String).getD i ""
abbrev xA0 (B : Nat) : Nat → Prop := fun q => B ≤ q
/-- the texts: their objects, coders, bytes -/
def xSt (adK adV : Nat → Nat) (A : Nat → Prop) (U : State) (H : Heap) : Prop := ∀ i : Nat, i < 26 → va_O "java/lang/String" (adK i) A U H ∧ va_OF "java/lang/String" "coder" "B" (.int 0) (adK i) A U H ∧ va_OF "java/lang/String" "value" "[B" (.ref (adV i)) (adK i) A U H ∧ va_T .byte (adV i) (xstr.getD i []).length (fun j => .int ((xstr.getD i []).getD j 0)) A U H
theorem xSt.moved {adK adV : Nat → Nat} {A : Nat → Prop} {u U : State} {H : Heap} (hvm : u.vm.Alike U.vm) (h : xSt adK adV A u H) : xSt adK adV A U H := fun i hi => ⟨va_O.moved hvm (h i hi).1, va_OF.moved hvm (h i hi).2.1, va_OF.moved hvm (h i hi).2.2.1, va_T.moved hvm (h i hi).2.2.2⟩
theorem xSt.kept {adK adV : Nat → Nat} {A : Nat → Prop} {U : State} {H H1 : Heap} (h : xSt adK adV A U H) (hq : ∀ a : Nat, a < H.size → ¬ A a → H1[a]? = H[a]?) : xSt adK adV A U H1 := fun i hi => ⟨(h i hi).1.kept hq, (h i hi).2.1.kept hq, (h i hi).2.2.1.kept hq, (h i hi).2.2.2.kept hq⟩
/-- what stands in the machine ahead of all that the law makes -/
def xEx (B : Nat) (xv : Nat → Value) (scr : Nat × (Nat → Int32)) (s : State) : Prop :=
  (∀ k, xv k = .null ∨ ∃ a, xv k = .ref a) ∧
  (∃ b, xv 0 = .ref b ∧ va_T .int b scr.1 (fun j => .int (scr.2 j)) (xA0 B) s s.heap) ∧
  (∃ t, xv 1 = .ref t ∧ va_Z "LampStrip$Script" "NUMBERS_OF" "[I" (.ref t) (xA0 B) s s.heap ∧ va_T .int t 6 (fun j => .int (([5, 1, 1, 0, 1, 1] : List Int32).getD j 0)) (xA0 B) s s.heap) ∧
  va_Z "java/lang/String" "COMPACT_STRINGS" "Z" (.int 1) (xA0 B) s s.heap ∧
  va_Z "jdk/internal/util/Preconditions" "SIOOBE_FORMATTER" "Ljava/util/function/BiFunction;" (xv 2) (xA0 B) s s.heap ∧
  (∃ adK adV : Nat → Nat, (∀ i, i < 26 → xv (100 + i) = .ref (adK i) ∧ xv (200 + i) = .ref (adV i)) ∧ xSt adK adV (xA0 B) s s.heap ∧ ∀ q ∈ xsr, vk_R q.1 q.2.1 (xtext q.2.2) (adK q.2.2) s) ∧
  vx_Zq Bundle.tN "UNASSIGNED_STACK" Bundle.steD (xA0 B) s s.heap ∧ vx_Zq Bundle.tN "SUPPRESSED_SENTINEL" Bundle.listD (xA0 B) s s.heap ∧
  (∀ w ∈ xNest, va_Nw w s) ∧ (va_AO "LampStrip$Strip" s ∧ va_AO "LampStripLaw$Lamp" s ∧ va_AO "LampStripLaw$Strip" s ∧ va_AO "LampStripLaw$Command" s) ∧ (Jvm.Cond.arrayOver (.array .int)).before #[] s = true ∧
  (∀ a b, a < 4 → b < 4 → a ≠ b → va_Nc (xEX a) (xEX b) s) ∧
  (∀ z, z < 3 → ∃ t, xv (3 + z) = .ref t ∧ va_Z (xsn (3 + z)).1 (xsn (3 + z)).2.1 (xsn (3 + z)).2.2 (.ref t) (xA0 B) s s.heap ∧ va_T (.object "java/lang/String") t (xrows z).length (fun j => xv (100 + (xrows z).getD j 0)) (xA0 B) s s.heap) ∧
  (∀ z, z < 2 → ∃ t, xv (6 + z) = .ref t ∧ va_Z (xsn (6 + z)).1 (xsn (6 + z)).2.1 (xsn (6 + z)).2.2 (.ref t) (xA0 B) s s.heap ∧ va_T .byte t 100 (fun j => .int (xdig z j)) (xA0 B) s s.heap)
/-- a frame of method k: the machine, the code, the tables' words, the room -/
def xCx (B : Nat) (xv : Nat → Value) (scr : Nat × (Nat → Int32)) (D : va_G) (dA : Nat → ClassId) (n0 : Nat) (k d : Nat) (p : Program) (l : Launch) (R : Room) (s : State) (m : MethodId) (args : Array Value) (meth : Method) (c : Code) : Prop :=
  p.tables.exec = Jvm.exec ∧ c.code = xbyf k ∧ c.maxLocals = xmlf k ∧ s.vm.findClass (xowf k) = some m.cls ∧ (∀ w ∈ xTG, w.before args s = true) ∧ va_K D vwCl (xtys dA) s ∧ xEx B xv scr s ∧
  meth.sig.returnType = xrtf k ∧ meth.locks = false ∧ meth.name = (xynf k).name ∧ l.stackTraces = false ∧ d + 6 ≤ R.frames ∧ 60 * d + 100 ≤ R.locals ∧ s.heap.size = B + n0
theorem xEx.cat {B : Nat} {xv : Nat → Value} {scr : Nat × (Nat → Int32)} {s : State} (h : xEx B xv scr s) (k : Nat) : (xv k).category = 1 := by
  rcases h.1 k with h | ⟨a, h⟩ <;> rw [h] <;> rfl
theorem xcat_sum (st : List Value) : xcat st = (st.map fun v => v.category).sum := by
  induction st with
  | nil => rfl
  | cons v r ih => simp [xcat, ih]
theorem xcat_map {B : Nat} {xv : Nat → Value} (hxv : ∀ k, (xv k).category = 1) (st : List Value) : ((st.map (xVal B xv)).map fun v => v.category).sum = xcat st := by
  induction st with
  | nil => rfl
  | cons v r ih => simp only [List.map_cons, List.sum_cons, xcat, ih, xVal_cat hxv]
theorem xS_trans {A : Nat → Prop} {H0 H H1 : Heap} {l0 l1 : List Loc} (h : va_S A H0 H l0) (h1 : va_S A H H1 l1) : va_S A H0 H1 l1 :=
  ⟨Nat.le_trans h.1 h1.1, fun q hq ha => (h1.2.1 q (Nat.lt_of_lt_of_le hq h.1) ha).trans (h.2.1 q hq ha), h1.2.2⟩
theorem xS_self {A : Nat → Prop} {H0 H : Heap} {l0 : List Loc} (h : va_S A H0 H l0) : va_S A H H l0 := ⟨Nat.le_refl _, fun _ _ _ => rfl, h.2.2⟩
section XS
variable {B : Nat} {xv : Nat → Value} {scr : Nat × (Nat → Int32)} {D : va_G} {dA : Nat → ClassId} {n0 k d : Nat} {p : Program} {l : Launch} {e : Env} {R : Room} {s : State} {m : MethodId} {args : Array Value} {below : List Frame} {meth : Method} {c : Code} {Q : State → Prop}
/-- the heap's size is bounded by the cells that are counted -/
theorem xsize {H : Heap} {locs : List Loc} {cells slots : Nat} {g : JFrame} (kk : H.size ≤ s.heap.size + cells → W p l e R s m args below meth c H locs cells slots Q g) : W p l e R s m args below meth c H locs cells slots Q g := by
  intro T hT X
  have h := X.same.2.2.1
  have h2 : (T.setVm s.vm).heap.size = H.size := by rw [← hT]; rfl
  rw [h2] at h
  exact kk h T hT X
/-- the way on: in a state of the small machine -/
def xWk (B : Nat) (xv : Nat → Value) (scr : Nat × (Nat → Int32)) (D : va_G) (dA : Nat → ClassId) (n0 k : Nat) (p : Program) (l : Launch) (e : Env) (R : Room) (s : State) (m : MethodId) (args : Array Value) (below : List Frame) (meth : Method) (c : Code) (Q : State → Prop) (slots : Nat) (σ : xS) (i' : Nat) (ls' : xL) (st' : List Value) (σ' : xS) : Prop :=
  ∀ (H' : Heap) (LS' : Array Slot) (locs' : List Loc) (cells' slots' pc' : Nat), xHR B xv D dA σ' H' → σ'.2.2 = scr → xLV B xv LS' ls' (xmlf k) → va_S (xA0 B) s.heap H' locs' → xpc k i' = some pc' → cells' + n0 = σ'.2.1.1 → slots' + σ.2.1.2 = slots + σ'.2.1.2 →
    W p l e R s m args below meth c H' locs' cells' slots' Q (F0 m pc' LS' (st'.map (xVal B xv)))
/-- a step's own theorem: what it says of an instruction -/
def xOK (B : Nat) (xv : Nat → Value) (scr : Nat × (Nat → Int32)) (D : va_G) (dA : Nat → ClassId) (n0 k : Nat) (p : Program) (l : Launch) (e : Env) (R : Room) (s : State) (m : MethodId) (args : Array Value) (below : List Frame) (meth : Method) (c : Code) (Q : State → Prop) (ins : Instr) : Prop :=
  ∀ (i pc : Nat) (aux : List Int) (ls : xL) (st : List Value) (σ : xS) (i' : Nat) (ls' : xL) (st' : List Value) (σ' : xS) (H : Heap) (LS : Array Slot) (locs : List Loc) (cells slots : Nat),
    xrow k i (pc, ins, aux) = true → stp k i ins aux ls st σ = some (.inl (i', ls', st', σ')) → xHR B xv D dA σ H → σ.2.2 = scr → xLV B xv LS ls (xmlf k) → va_S (xA0 B) s.heap H locs → cells + n0 = σ.2.1.1 →
    cells + σ'.2.1.1 ≤ R.cells + σ.2.1.1 → slots + σ'.2.1.2 ≤ R.slots + σ.2.1.2 → xWk B xv scr D dA n0 k p l e R s m args below meth c Q slots σ i' ls' st' σ' →
    W p l e R s m args below meth c H locs cells slots Q (F0 m pc LS (st.map (xVal B xv)))
abbrev xOKc (B : Nat) (xv : Nat → Value) (scr : Nat × (Nat → Int32)) (D : va_G) (dA : Nat → ClassId) (n0 k d : Nat) (p : Program) (l : Launch) (e : Env) (R : Room) (s : State) (m : MethodId) (args : Array Value) (below : List Frame) (meth : Method) (c : Code) (Q : State → Prop) (ins : Instr) : Prop :=
  xCx B xv scr D dA n0 k d p l R s m args meth c → xOK B xv scr D dA n0 k p l e R s m args below meth c Q ins
theorem xrow_parts {i pc : Nat} {ins : Instr} {aux : List Int} (h : xrow k i (pc, ins, aux) = true) (hn : ∀ a b c o, ins ≠ .tableswitch a b c o) : decode (xbyf k) pc = .ok (ins, xlen ins) ∧ xck k pc ins aux = true ∧ xjp k i pc ins aux = true := by
  unfold xrow at h
  simp only [Bool.and_eq_true] at h
  obtain ⟨⟨h1, h2⟩, h3⟩ := h
  refine ⟨?_, h2, h3⟩
  have hd : xdec k pc ins (xlen ins) = true := by
    cases ins <;> first | exact h1 | (exfalso; exact hn _ _ _ _ rfl)
  unfold xdec at hd
  split at hd
  · rename_i j mm hj
    simp only [Bool.and_eq_true, decide_eq_true_eq] at hd
    rw [hj, hd.1, hd.2]
  · cases hd
theorem xnx {i pc n : Nat} (h : decide (xpc k (i + 1) = some (pc + n)) = true) : xpc k (i + 1) = some (pc + n) := of_decide_eq_true h
end XS
