/-! ===== the law's walk, out of a run of the small machine ===== -/
/-! THE CLAIM OUT OF ONE WALK OF THE LAW'S BODY. Your part is whole_start (and what it stands on); all else here is the same for every law, but numbers. -/
def R_law : String := "LampStripLaw"
def lw_P (b : Addr) (xs : List Int32) (args : Array Value) (s : State) : Prop := args = #[.ref b] ∧ s.IntsAt b xs ∧ xs.length ≤ 260 ∧ (Jvm.Cond.and given_1 narrow_1).before args s = true
def lw_Q (_ : Array Value) (s : State) (o : Outcome) (t : State) : Prop := o = .returned (some (.int 1)) ∧ Framed s o t [] 600086 7301442
def lw_Z (below : List Frame) (a : Array Value) (s : State) : State → Prop := fun t => ∃ o, t.status = .running ∧ Ended t below o ∧ lw_Q a s o t
/-- the law's own end, with 1 on the stack, nothing written that was there before, its room as the claim has it -/
theorem lw_ret {p : Program} {l : Launch} {e : Env} {s : State} {m : MethodId} {below : List Frame} {meth : Method} {c : Code} {b : Nat} (hx : p.tables.exec = Jvm.exec) (hb : c.code = code) (hr : meth.sig.returnType = ret) (hlocks : meth.locks = false) {pc : Nat} {H : Heap} {ls : Array Slot} (hdg : decode code pc = .ok (.ireturn, 1)) : W p l e room_1 s m #[Value.ref b] below meth c H [] 600086 7301442 (lw_Z below #[Value.ref b] s) (F0 m pc ls [.int 1]) := by
  intro T hT X
  obtain ⟨fs, hret, hrun, hended, hW, hframe⟩ := X.leave (v := some (.int 1)) (hlocks := hlocks) (fun h => by rw [hr] at h; cases h)
  have hmeth' : T.vm.method? m = some meth := X.method'
  refine ⟨T.setFrames fs, ?_, .returned (some (.int 1)), hrun, hended, rfl, ⟨_, rfl⟩, hW, hframe⟩
  jvm_step X.here [X.here.top, hx, hb, hdg, hmeth', hr, ret, narrow_b1]
  (try refine ⟨rfl, ?_⟩); (try refine ⟨rfl, ?_⟩)
  first | (intro acts; rw [hret _ acts rfl rfl rfl]) | rw [hret _ _ rfl rfl rfl]
  exact Steps.refl _
/-- what holds at the law's entry: the machine, the code, the tables' words (any of lw_tbl by 'hts w (by decide +kernel)'), the script of L ints xs at the cell b, what the Statement gives of the start (any of its parts by flat_of_before) -/
def lw_At (p : Program) (s : State) (m : MethodId) (meth : Method) (c : Code) (b L : Nat) (xs : Nat → Int32) : Prop :=
  p.tables.exec = Jvm.exec ∧ c.code = code ∧ meth.sig.returnType = ret ∧ c.maxLocals = 33 ∧ s.vm.findClass R_law = some m.cls ∧ (∀ w ∈ lw_tbl, w.before #[Value.ref b] s = true) ∧ va_X b L xs s s.heap ∧ b < s.heap.size ∧ meth.locks = false ∧ (Jvm.Cond.and given_1 narrow_1).before #[Value.ref b] s = true
def xs0 (L : Nat) (xs : Nat → Int32) : xS := (fun _ => none, (0, 0), (L, xs))
/-- the law, of the small machine -/
def xLaw : Prop := ∀ (L : Nat) (xs : Nat → Int32), L ≤ 260 → ∃ (n : Nat) (σ' : xS), ax n 100 244 0 (xentry [.ref 1000000] 33) [] (xs0 L xs) = some (.inl (some (.int 1)), σ') ∧ σ'.2.1.1 ≤ 600086 ∧ σ'.2.1.2 ≤ 7301442
abbrev xfl : List Jvm.Cond := flatC (Jvm.Cond.and given_1 narrow_1)
def xrep (i : Nat) : String × Nat := ([("LampStripLaw", 160), ("LampStripLaw", 342), ("LampStripLaw", 348), ("LampStrip$Setup", 102), ("LampStripLaw", 340), ("LampStripLaw", 147), ("LampStripLaw", 174), ("LampStripLaw", 177), ("LampStripLaw", 349), ("LampStripLaw", 346), ("LampStripLaw", 347), ("LampStripLaw", 139), ("LampStripLaw", 344), ("LampStripLaw", 333), ("LampStripLaw", 338), ("LampStripLaw$Node", 37), ("LampStripLaw", 115), ("LampStripLaw$Node", 62), ("LampStripLaw", 194), ("LampStripLaw", 215), ("LampStripLaw", 225), ("LampStripLaw$Node", 64), ("LampStripLaw$Node", 60), ("LampStripLaw$Node", 66), ("LampStripLaw", 145), ("LampStripLaw", 188)] : List (String × Nat)).getD i ("", 0)
abbrev xtm (i : Nat) : Term := .string (xrep i).1 (xrep i).2
theorem xstr_in1 : ∀ i, i < 26 → Jvm.Cond.exactly (xtm i) "java/lang/String" ∈ xfl := by decide +kernel
theorem xstr_in2 : ∀ i, i < 26 → Jvm.Cond.eq (.field (xtm i) "java/lang/String" "coder" "B") (.int 0) ∈ xfl := by decide +kernel
theorem xstr_in3 : ∀ i, i < 26 → Jvm.Cond.arrayOf (.field (xtm i) "java/lang/String" "value" "[B") .byte ∈ xfl := by decide +kernel
theorem xstr_in4 : ∀ i, i < 26 → Jvm.Cond.eq (.length (.field (xtm i) "java/lang/String" "value" "[B")) (.int (Int32.ofNat (xstr.getD i []).length)) ∈ xfl := by decide +kernel
theorem xstr_el0 : ∀ j, j < (xstr.getD 0 []).length → Jvm.Cond.eq (.elem (.field (xtm 0) "java/lang/String" "value" "[B") (.int (Int32.ofNat j))) (.int ((xstr.getD 0 []).getD j 0)) ∈ xfl := by decide +kernel
theorem xstr_el1 : ∀ j, j < (xstr.getD 1 []).length → Jvm.Cond.eq (.elem (.field (xtm 1) "java/lang/String" "value" "[B") (.int (Int32.ofNat j))) (.int ((xstr.getD 1 []).getD j 0)) ∈ xfl := by decide +kernel
theorem xstr_el2 : ∀ j, j < (xstr.getD 2 []).length → Jvm.Cond.eq (.elem (.field (xtm 2) "java/lang/String" "value" "[B") (.int (Int32.ofNat j))) (.int ((xstr.getD 2 []).getD j 0)) ∈ xfl := by decide +kernel
theorem xstr_el3 : ∀ j, j < (xstr.getD 3 []).length → Jvm.Cond.eq (.elem (.field (xtm 3) "java/lang/String" "value" "[B") (.int (Int32.ofNat j))) (.int ((xstr.getD 3 []).getD j 0)) ∈ xfl := by decide +kernel
theorem xstr_el4 : ∀ j, j < (xstr.getD 4 []).length → Jvm.Cond.eq (.elem (.field (xtm 4) "java/lang/String" "value" "[B") (.int (Int32.ofNat j))) (.int ((xstr.getD 4 []).getD j 0)) ∈ xfl := by decide +kernel
theorem xstr_el5 : ∀ j, j < (xstr.getD 5 []).length → Jvm.Cond.eq (.elem (.field (xtm 5) "java/lang/String" "value" "[B") (.int (Int32.ofNat j))) (.int ((xstr.getD 5 []).getD j 0)) ∈ xfl := by decide +kernel
theorem xstr_el6 : ∀ j, j < (xstr.getD 6 []).length → Jvm.Cond.eq (.elem (.field (xtm 6) "java/lang/String" "value" "[B") (.int (Int32.ofNat j))) (.int ((xstr.getD 6 []).getD j 0)) ∈ xfl := by decide +kernel
theorem xstr_el7 : ∀ j, j < (xstr.getD 7 []).length → Jvm.Cond.eq (.elem (.field (xtm 7) "java/lang/String" "value" "[B") (.int (Int32.ofNat j))) (.int ((xstr.getD 7 []).getD j 0)) ∈ xfl := by decide +kernel
theorem xstr_el8 : ∀ j, j < (xstr.getD 8 []).length → Jvm.Cond.eq (.elem (.field (xtm 8) "java/lang/String" "value" "[B") (.int (Int32.ofNat j))) (.int ((xstr.getD 8 []).getD j 0)) ∈ xfl := by decide +kernel
theorem xstr_el9 : ∀ j, j < (xstr.getD 9 []).length → Jvm.Cond.eq (.elem (.field (xtm 9) "java/lang/String" "value" "[B") (.int (Int32.ofNat j))) (.int ((xstr.getD 9 []).getD j 0)) ∈ xfl := by decide +kernel
theorem xstr_el10 : ∀ j, j < (xstr.getD 10 []).length → Jvm.Cond.eq (.elem (.field (xtm 10) "java/lang/String" "value" "[B") (.int (Int32.ofNat j))) (.int ((xstr.getD 10 []).getD j 0)) ∈ xfl := by decide +kernel
theorem xstr_el11 : ∀ j, j < (xstr.getD 11 []).length → Jvm.Cond.eq (.elem (.field (xtm 11) "java/lang/String" "value" "[B") (.int (Int32.ofNat j))) (.int ((xstr.getD 11 []).getD j 0)) ∈ xfl := by decide +kernel
theorem xstr_el12 : ∀ j, j < (xstr.getD 12 []).length → Jvm.Cond.eq (.elem (.field (xtm 12) "java/lang/String" "value" "[B") (.int (Int32.ofNat j))) (.int ((xstr.getD 12 []).getD j 0)) ∈ xfl := by decide +kernel
theorem xstr_el13 : ∀ j, j < (xstr.getD 13 []).length → Jvm.Cond.eq (.elem (.field (xtm 13) "java/lang/String" "value" "[B") (.int (Int32.ofNat j))) (.int ((xstr.getD 13 []).getD j 0)) ∈ xfl := by decide +kernel
theorem xstr_el14 : ∀ j, j < (xstr.getD 14 []).length → Jvm.Cond.eq (.elem (.field (xtm 14) "java/lang/String" "value" "[B") (.int (Int32.ofNat j))) (.int ((xstr.getD 14 []).getD j 0)) ∈ xfl := by decide +kernel
theorem xstr_el15 : ∀ j, j < (xstr.getD 15 []).length → Jvm.Cond.eq (.elem (.field (xtm 15) "java/lang/String" "value" "[B") (.int (Int32.ofNat j))) (.int ((xstr.getD 15 []).getD j 0)) ∈ xfl := by decide +kernel
theorem xstr_el16 : ∀ j, j < (xstr.getD 16 []).length → Jvm.Cond.eq (.elem (.field (xtm 16) "java/lang/String" "value" "[B") (.int (Int32.ofNat j))) (.int ((xstr.getD 16 []).getD j 0)) ∈ xfl := by decide +kernel
theorem xstr_el17 : ∀ j, j < (xstr.getD 17 []).length → Jvm.Cond.eq (.elem (.field (xtm 17) "java/lang/String" "value" "[B") (.int (Int32.ofNat j))) (.int ((xstr.getD 17 []).getD j 0)) ∈ xfl := by decide +kernel
theorem xstr_el18 : ∀ j, j < (xstr.getD 18 []).length → Jvm.Cond.eq (.elem (.field (xtm 18) "java/lang/String" "value" "[B") (.int (Int32.ofNat j))) (.int ((xstr.getD 18 []).getD j 0)) ∈ xfl := by decide +kernel
theorem xstr_el19 : ∀ j, j < (xstr.getD 19 []).length → Jvm.Cond.eq (.elem (.field (xtm 19) "java/lang/String" "value" "[B") (.int (Int32.ofNat j))) (.int ((xstr.getD 19 []).getD j 0)) ∈ xfl := by decide +kernel
theorem xstr_el20 : ∀ j, j < (xstr.getD 20 []).length → Jvm.Cond.eq (.elem (.field (xtm 20) "java/lang/String" "value" "[B") (.int (Int32.ofNat j))) (.int ((xstr.getD 20 []).getD j 0)) ∈ xfl := by decide +kernel
theorem xstr_el21 : ∀ j, j < (xstr.getD 21 []).length → Jvm.Cond.eq (.elem (.field (xtm 21) "java/lang/String" "value" "[B") (.int (Int32.ofNat j))) (.int ((xstr.getD 21 []).getD j 0)) ∈ xfl := by decide +kernel
theorem xstr_el22 : ∀ j, j < (xstr.getD 22 []).length → Jvm.Cond.eq (.elem (.field (xtm 22) "java/lang/String" "value" "[B") (.int (Int32.ofNat j))) (.int ((xstr.getD 22 []).getD j 0)) ∈ xfl := by decide +kernel
theorem xstr_el23 : ∀ j, j < (xstr.getD 23 []).length → Jvm.Cond.eq (.elem (.field (xtm 23) "java/lang/String" "value" "[B") (.int (Int32.ofNat j))) (.int ((xstr.getD 23 []).getD j 0)) ∈ xfl := by decide +kernel
theorem xstr_el24 : ∀ j, j < (xstr.getD 24 []).length → Jvm.Cond.eq (.elem (.field (xtm 24) "java/lang/String" "value" "[B") (.int (Int32.ofNat j))) (.int ((xstr.getD 24 []).getD j 0)) ∈ xfl := by decide +kernel
theorem xstr_el25 : ∀ j, j < (xstr.getD 25 []).length → Jvm.Cond.eq (.elem (.field (xtm 25) "java/lang/String" "value" "[B") (.int (Int32.ofNat j))) (.int ((xstr.getD 25 []).getD j 0)) ∈ xfl := by decide +kernel
theorem xstr_el : ∀ i, i < 26 → ∀ j, j < (xstr.getD i []).length → Jvm.Cond.eq (.elem (.field (xtm i) "java/lang/String" "value" "[B") (.int (Int32.ofNat j))) (.int ((xstr.getD i []).getD j 0)) ∈ xfl := by
  intro i hi
  by_cases h : i < 13
  · match i, h with
    | 0, _ => exact xstr_el0
    | 1, _ => exact xstr_el1
    | 2, _ => exact xstr_el2
    | 3, _ => exact xstr_el3
    | 4, _ => exact xstr_el4
    | 5, _ => exact xstr_el5
    | 6, _ => exact xstr_el6
    | 7, _ => exact xstr_el7
    | 8, _ => exact xstr_el8
    | 9, _ => exact xstr_el9
    | 10, _ => exact xstr_el10
    | 11, _ => exact xstr_el11
    | 12, _ => exact xstr_el12
  · obtain ⟨k, rfl⟩ : ∃ k, i = 13 + k := ⟨i - 13, by omega⟩
    have hk : k < 13 := by omega
    match k, hk with
    | 0, _ => exact xstr_el13
    | 1, _ => exact xstr_el14
    | 2, _ => exact xstr_el15
    | 3, _ => exact xstr_el16
    | 4, _ => exact xstr_el17
    | 5, _ => exact xstr_el18
    | 6, _ => exact xstr_el19
    | 7, _ => exact xstr_el20
    | 8, _ => exact xstr_el21
    | 9, _ => exact xstr_el22
    | 10, _ => exact xstr_el23
    | 11, _ => exact xstr_el24
    | 12, _ => exact xstr_el25
theorem xsr_in : ∀ q ∈ xsr, q.2.2 < 26 ∧ Jvm.Cond.stringRef q.1 q.2.1 (xtext q.2.2) ∈ lw_tbl ∧ ((q.1, q.2.1) = xrep q.2.2 ∨ Jvm.Cond.eq (.string q.1 q.2.1) (xtm q.2.2) ∈ xfl) := by decide +kernel
theorem xmisc_in : Jvm.Cond.isRef (.static "java/lang/Throwable" "UNASSIGNED_STACK" "[Ljava/lang/StackTraceElement;") ∈ xfl ∧ Jvm.Cond.isRef (.static "java/lang/Throwable" "SUPPRESSED_SENTINEL" "Ljava/util/List;") ∈ xfl ∧ Jvm.Cond.eq (.static "java/lang/String" "COMPACT_STRINGS" "Z") (.int 1) ∈ xfl ∧
    Jvm.Cond.isRef (.static "jdk/internal/util/Preconditions" "SIOOBE_FORMATTER" "Ljava/util/function/BiFunction;") ∈ xfl ∧ Jvm.Cond.arrayOf (.static "LampStrip$Script" "NUMBERS_OF" "[I") .int ∈ xfl ∧ Jvm.Cond.eq (.length (.static "LampStrip$Script" "NUMBERS_OF" "[I")) (.int (Int32.ofNat 6)) ∈ xfl ∧
    (∀ j, j < 6 → Jvm.Cond.eq (.elem (.static "LampStrip$Script" "NUMBERS_OF" "[I") (.int (Int32.ofNat j))) (.int (([5, 1, 1, 0, 1, 1] : List Int32).getD j 0)) ∈ xfl) ∧ (∀ a b, a < 4 → b < 4 → a ≠ b → Jvm.Cond.not (.castable (xEX a) (xEX b)) ∈ xfl) := by
  refine ⟨by decide +kernel, by decide +kernel, by decide +kernel, by decide +kernel, by decide +kernel, by decide +kernel, by decide +kernel, ?_⟩
  have h : ∀ a, a < 4 → ∀ b, b < 4 → a ≠ b → Jvm.Cond.not (.castable (xEX a) (xEX b)) ∈ xfl := by decide +kernel
  exact fun a b ha hb => h a ha b hb
theorem xwords_in : Jvm.Cond.laysStatic "java/lang/Throwable" "UNASSIGNED_STACK" "[Ljava/lang/StackTraceElement;" ∈ lw_tbl ∧ Jvm.Cond.laysStatic "java/lang/Throwable" "SUPPRESSED_SENTINEL" "Ljava/util/List;" ∈ lw_tbl ∧ Jvm.Cond.laysStatic "java/lang/String" "COMPACT_STRINGS" "Z" ∈ lw_tbl ∧
    Jvm.Cond.laysStatic "jdk/internal/util/Preconditions" "SIOOBE_FORMATTER" "Ljava/util/function/BiFunction;" ∈ lw_tbl ∧ Jvm.Cond.laysStatic "LampStrip$Script" "NUMBERS_OF" "[I" ∈ lw_tbl ∧ Jvm.Cond.initialized "java/lang/Throwable" ∈ lw_tbl ∧ Jvm.Cond.initialized "java/lang/String" ∈ lw_tbl ∧ Jvm.Cond.initialized "jdk/internal/util/Preconditions" ∈ lw_tbl ∧ Jvm.Cond.initialized "LampStrip$Script" ∈ lw_tbl ∧
    Jvm.Cond.arrayClass .int ∈ lw_tbl ∧ Jvm.Cond.arrayClass .byte ∈ lw_tbl ∧ Jvm.Cond.arrayOver (.object "LampStripLaw$Lamp") ∈ lw_tbl ∧ Jvm.Cond.arrayOver (.object "LampStripLaw$Strip") ∈ lw_tbl ∧ Jvm.Cond.arrayOver (.object "LampStrip$Strip") ∈ lw_tbl ∧ Jvm.Cond.arrayOver (.array .int) ∈ lw_tbl ∧ Jvm.Cond.arrayOver (.object "LampStripLaw$Command") ∈ lw_tbl := by decide +kernel
theorem xwords_st : ∀ z, z < 5 → Jvm.Cond.laysStatic (xsn (3 + z)).1 (xsn (3 + z)).2.1 (xsn (3 + z)).2.2 ∈ lw_tbl ∧ Jvm.Cond.initialized (xsn (3 + z)).1 ∈ lw_tbl := by decide +kernel
abbrev xstm (z : Nat) : Term := .static (xsn (3 + z)).1 (xsn (3 + z)).2.1 (xsn (3 + z)).2.2
theorem xrow_in : ∀ z, z < 3 → Jvm.Cond.arrayOf (xstm z) (.object "java/lang/String") ∈ xfl ∧ Jvm.Cond.eq (.length (xstm z)) (.int (Int32.ofNat (xrows z).length)) ∈ xfl ∧ (xrows z).length < 7 ∧ ∀ j, j < (xrows z).length → (xrows z).getD j 0 < 26 ∧ Jvm.Cond.eq (.elem (xstm z) (.int (Int32.ofNat j))) (xtm ((xrows z).getD j 0)) ∈ xfl := by decide +kernel
theorem xdig_in : ∀ z, z < 2 → Jvm.Cond.arrayOf (xstm (3 + z)) .byte ∈ xfl ∧ Jvm.Cond.eq (.length (xstm (3 + z))) (.int (Int32.ofNat 100)) ∈ xfl := by decide +kernel
theorem xdig_b0 : (List.range 100).map (fun j => Jvm.Cond.eq (.elem (xstm 3) (.int (Int32.ofNat j))) (.int (xdig 0 j))) = (xfl.drop 30).take 100 := by decide +kernel
theorem xdig_e0 : ∀ j, j < 100 → Jvm.Cond.eq (.elem (xstm 3) (.int (Int32.ofNat j))) (.int (xdig 0 j)) ∈ xfl := fun j hj => List.mem_of_mem_drop (i := 30) (List.mem_of_mem_take (i := 100) (by rw [← xdig_b0]; exact List.mem_map.mpr ⟨j, List.mem_range.mpr hj, rfl⟩))
theorem xdig_b1 : (List.range 100).map (fun j => Jvm.Cond.eq (.elem (xstm 4) (.int (Int32.ofNat j))) (.int (xdig 1 j))) = (xfl.drop 133).take 100 := by decide +kernel
theorem xdig_e1 : ∀ j, j < 100 → Jvm.Cond.eq (.elem (xstm 4) (.int (Int32.ofNat j))) (.int (xdig 1 j)) ∈ xfl := fun j hj => List.mem_of_mem_drop (i := 133) (List.mem_of_mem_take (i := 100) (by rw [← xdig_b1]; exact List.mem_map.mpr ⟨j, List.mem_range.mpr hj, rfl⟩))
theorem xdig_e : ∀ z, z < 2 → ∀ j, j < 100 → Jvm.Cond.eq (.elem (xstm (3 + z)) (.int (Int32.ofNat j))) (.int (xdig z j)) ∈ xfl := by
  intro z hz
  match z, hz with
  | 0, _ => exact xdig_e0
  | 1, _ => exact xdig_e1
theorem xeqR {args : Array Value} {s : State} {t u : Term} {a : Nat} (h : (Jvm.Cond.eq t u).before args s = true) (hu : u.eval args s none [] s = some (.ref a)) : t.eval args s none [] s = some (.ref a) := by
  cases hv : t.eval args s none [] s with
  | none => simp [Cond.before, Cond.holds, Cond.value, hv] at h
  | some w =>
    simp only [Cond.before, Cond.holds, Cond.value, hv, hu] at h
    cases w <;> simp_all
theorem xArrK {s : State} {args : Array Value} {ty : FieldType} (h : (Jvm.Cond.arrayClass ty).before args s = true) : ∃ cA : ClassId, ArrOfT s cA ty ∧ s.vm.findClass ("[" ++ ty.toString) = some cA := by
  obtain ⟨cA, kA, comp, hfind, hk, hkind⟩ := Cond.arrayClass_spec h
  exact ⟨cA, fun n z => ⟨(fun q hq => by cases hq), kA, hk, comp, hkind⟩, hfind⟩
theorem xArrO {s : State} {args : Array Value} {C : String} (h : (Jvm.Cond.arrayOver (.object C)).before args s = true) : ∃ cA : ClassId, ArrOfT s cA (.object C) ∧ va_RA s cA (.object C) := by
  obtain ⟨comp, cc, kk, h1, h2, h3, h4, h5⟩ := Cond.arrayOver_spec h
  exact ⟨cc, fun n z => ⟨(fun q hq => by cases hq), kk, h3, comp, h4⟩, kk, comp, h3, h4, h1, h5⟩
theorem xArrA {s : State} {args : Array Value} {ty : FieldType} (h : (Jvm.Cond.arrayOver (.array ty)).before args s = true) : ∃ cA : ClassId, ArrOfT s cA (.array ty) ∧ s.vm.findClass ("[" ++ (FieldType.array ty).toString) = some cA := by
  obtain ⟨comp, cc, kk, h1, h2, h3, h4, h5⟩ := arrayOverA_spec h
  exact ⟨cc, fun n z => ⟨(fun q hq => by cases hq), kk, h3, comp, h4⟩, h5⟩
theorem xlaw_end {i : Nat} {ins : Instr} {aux : List Int} {ls : xL} {st : List Value} {σ : xS} (hst : stp 244 i ins aux ls st σ = some (.inr (.inr (.inl (some (.int 1)))))) : ins = .ireturn ∧ st = [.int 1] := by
  by_cases h1 : ins = .ireturn
  · subst h1
    simp only [stp] at hst
    unfold xret at hst
    split at hst
    · split at hst
      · split at hst
        · cases hst; exact ⟨rfl, rfl⟩
        · cases hst
      · cases hst
    · cases hst
  · exfalso
    by_cases h2 : ins = .lreturn
    · subst h2; simp only [stp] at hst; split at hst <;> cases hst
    · by_cases h3 : False
      · exact h3
      · by_cases h4 : ins = .areturn
        · subst h4; simp only [stp] at hst; split at hst <;> cases hst
        · by_cases h5 : ins = .return_
          · subst h5; simp only [stp] at hst; split at hst <;> cases hst
          · by_cases h6 : ∃ n, ins = .new n
            · obtain ⟨n, h6⟩ := h6
              subst h6
              simp only [stp] at hst
              split at hst
              · unfold xalloc at hst
                split at hst <;> cases hst
              · split at hst <;> cases hst
              · cases hst
            · by_cases h7 : ∃ n, ins = .invokevirtual n
              · obtain ⟨n, h7⟩ := h7
                subst h7
                exact xinv_end (by simpa only [stp] using hst)
              · by_cases h8 : ∃ n, ins = .invokespecial n
                · obtain ⟨n, h8⟩ := h8
                  subst h8
                  exact xinv_end (by simpa only [stp] using hst)
                · by_cases h9 : ∃ n, ins = .invokestatic n
                  · obtain ⟨n, h9⟩ := h9
                    subst h9
                    exact xinv_end (by simpa only [stp] using hst)
                  · exact xno_end hst h1 h2 h4 h5 (fun n h => h6 ⟨n, h⟩) (fun n h => h7 ⟨n, h⟩) (fun n h => h8 ⟨n, h⟩) (fun n h => h9 ⟨n, h⟩)
/-- a private method of the superclass, called on an object of the class -/
theorem xsel_priv {C : String} {y y0 : MethodName} {s : State} {args : Array Value} (hcl : y0.cls = y.cls) (hy : y.cls ≠ "java/lang/invoke/MethodHandle" ∧ y.cls ≠ "java/lang/invoke/VarHandle") (h0 : (Jvm.Cond.selects C y0 y0).before args s = true)
    (hpriv : (Jvm.Cond.privateMethod y).before args s = true) (hinst : (Jvm.Cond.instanceMethod y).before args s = true) : (Jvm.Cond.selects C y y).before args s = true := by
  obtain ⟨mk, methM, hnamed, hmethM, -, -⟩ := Cond.instanceMethod_spec hinst
  have hfound : s.methodFound? y.cls y.name y.desc = some mk := State.methodFound?_of_named hnamed hy
  simp only [Cond.before, Cond.holds, Cond.value] at h0 ⊢
  cases hc : s.vm.findClass C with
  | none => simp [hc] at h0
  | some c =>
    have hsel : selectMethod {} s.vm c mk = .method mk := selectMethod_private hmethM (Cond.privateMethod_at hpriv mk methM hnamed hmethM)
    cases hn0 : s.methodNamed? y0 with
    | none => simp [hc, hn0] at h0
    | some m0 =>
      cases hf0 : s.methodFound? y0.cls y0.name y0.desc with
      | none => simp [hc, hn0, hf0] at h0
      | some r0 =>
        have hm : m0.cls = mk.cls := by
          have a := findClass_of_methodNamed hn0
          have b := findClass_of_methodNamed hnamed
          rw [hcl] at a
          exact Option.some.inj (a.symm.trans b)
        simp only [hc, hf0, hn0] at h0
        simp only [hfound, hnamed, hsel]
        split at h0
        · simp at h0 ⊢
          rw [← hm]
          exact h0.2
        · simp at h0
abbrev xSB0 : MethodName := ⟨xASB, "isLatin1", "()Z"⟩
theorem xprv_in : ∀ q ∈ xprv, Jvm.Cond.privateMethod ⟨xASB, q.1, q.2⟩ ∈ lw_tbl ∧ Jvm.Cond.instanceMethod ⟨xASB, q.1, q.2⟩ ∈ lw_tbl := by decide +kernel
theorem xsels_ok {s : State} {args : Array Value} (hts : ∀ w ∈ lw_tbl, w.before args s = true) : ∀ w ∈ xTG, w.before args s = true := by
  intro w hw
  rcases List.mem_append.mp (List.mem_filter.mp hw).1 with h | h
  · obtain ⟨q, hq, rfl⟩ := List.mem_map.mp h
    obtain ⟨h1, h2⟩ := xprv_in q hq
    exact xsel_priv (y0 := xSB0) rfl ⟨show xASB ≠ _ from by decide, show xASB ≠ _ from by decide⟩ (hts _ (by decide +kernel)) (hts _ h1) (hts _ h2)
  · exact hts w h
set_option maxHeartbeats 4000000 in
theorem whole_of (T : xOKT) (hlaw : xLaw) {p : Program} {e : Env} {s : State} {m : MethodId} {below : List Frame} {meth : Method} {c : Code} (l : Launch) (hflags : l.flags = flags0) {b L : Nat} {xs : Nat → Int32} (hL : L ≤ 260) (htab : c.exceptionTable.toList = []) (hname : meth.name = "law") (C0 : lw_At p s m meth c b L xs) : W p l e room_1 s m #[Value.ref b] below meth c s.heap [] 0 0 (lw_Z below #[Value.ref b] s) (entryFrame m ([Value.ref b] : List Value).toArray 33) := by
  obtain ⟨hx, hb, hr, hml, hown, hts, hX, hbl, hlocks, hgv⟩ := id C0
  obtain ⟨n, σ', hax, hcells, hslots⟩ := hlaw L xs hL
  have hs : ∀ w ∈ xfl, w.before #[Value.ref b] s = true := flat_of_before _ hgv
  obtain ⟨w1, w2, w3, w4, w5, w6, w7, w8, w9, w10, w11, w12, w13, w14, w15, w16⟩ := xwords_in
  obtain ⟨f1, f2, f3, f4, f5, f6, f7, f8⟩ := xmisc_in
  have g1 := xstr_in1
  have g2 := xstr_in2
  have g3 := xstr_in3
  have g4 := xstr_in4
  have g5 := xstr_el
  have hA : ∀ a : Nat, a < s.heap.size → ¬ xA0 s.heap.size a := fun a h => Nat.not_le.mpr h
  -- the classes
  have hcl : ∀ c, ∃ q : ClassId × (Nat → Nat), c < 15 → u_Kn s (xRXf c) (xTF c) (xnf c) q.1 q.2 := by
    intro c
    by_cases h9 : c < 15
    · obtain ⟨-, hin, -, -, hinst, -⟩ := xcl h9
      obtain ⟨cC, iS, h⟩ := u_known (xsels_ok hts) hin (xsels_ok hts _ hinst)
      exact ⟨(cC, iS), fun _ => h⟩
    · exact ⟨(0, fun _ => 0), fun h => absurd h h9⟩
  obtain ⟨fc, hfc⟩ := Classical.axiomOfChoice hcl
  obtain ⟨a0, k0, r0⟩ := xArrK (hts _ w10)
  obtain ⟨a1, k1, r1⟩ := xArrK (hts _ w11)
  obtain ⟨a6, k6, r6⟩ := xArrO (hts _ w12)
  obtain ⟨a7, k7, r7⟩ := xArrO (hts _ w13)
  obtain ⟨a4, k4, r4⟩ := xArrO (hts _ w14)
  obtain ⟨a5, k5, r5⟩ := xArrA (hts _ w15)
  obtain ⟨a8, k8, r8⟩ := xArrO (hts _ w16)
  have hK : va_K (fun c => (fc c).1, fun c => (fc c).2) vwCl (xtys (fun t => ([a0, a1, a0, a1, a4, a5, a6, a7, a8] : List ClassId).getD t 0)) s := by
    refine ⟨fun c q hq => ?_, fun k q hq => ?_⟩
    · have h9 : c < 15 := (List.getElem?_eq_some_iff.mp hq).1
      obtain ⟨hc, -⟩ := xcl h9
      have := hc.symm.trans hq
      cases this
      exact hfc c h9
    · match k, hq with
      | 0, hq => cases hq; exact ⟨k0, r0⟩
      | 1, hq => cases hq; exact ⟨k1, r1⟩
      | 2, hq => cases hq; exact ⟨k0, r0⟩
      | 3, hq => cases hq; exact ⟨k1, r1⟩
      | 4, hq => cases hq; exact ⟨k4, r4⟩
      | 5, hq => cases hq; exact ⟨k5, r5⟩
      | 6, hq => cases hq; exact ⟨k6, r6⟩
      | 7, hq => cases hq; exact ⟨k7, r7⟩
      | 8, hq => cases hq; exact ⟨k8, r8⟩
      | k + 9, hq => cases hq
  -- the texts
  have hstr : ∀ i : Nat, ∃ q : Nat × Nat, i < 26 → (xtm i).eval #[Value.ref b] s none [] s = some (.ref q.1) ∧ va_O "java/lang/String" q.1 (xA0 s.heap.size) s s.heap ∧ va_OF "java/lang/String" "coder" "B" (.int 0) q.1 (xA0 s.heap.size) s s.heap ∧ va_OF "java/lang/String" "value" "[B" (.ref q.2) q.1 (xA0 s.heap.size) s s.heap ∧ va_T .byte q.2 (xstr.getD i []).length (fun j => .int ((xstr.getD i []).getD j 0)) (xA0 s.heap.size) s s.heap := by
    intro i
    by_cases hi : i < 26
    · obtain ⟨a, cc, cA, kA, q1, q2, q3, q4, q5, q6, -⟩ := Cond.exactly_spec (args := #[Value.ref b]) (first := s) (o := none) (s := s) (idx := []) (t := xtm i) (cls := "java/lang/String") (hs _ (g1 i hi))
      have hlt : (xstr.getD i []).length < 2 ^ 31 := by
        have h : ∀ i, i < 26 → (xstr.getD i []).length < 2 ^ 31 := by decide +kernel
        exact h i hi
      obtain ⟨t, ht, hT⟩ := va_Tof (f := fun j => .int ((xstr.getD i []).getD j 0)) (A := xA0 s.heap.size) hlt (hs _ (g3 i hi)) (va_eqt (hs _ (g4 i hi))) (fun j hj => va_eqt (hs _ (g5 i hi j hj))) hA
      exact ⟨(a, t), fun _ => ⟨q1, ⟨cA, q3, q5, by rw [q6]; exact q2, hA a (Array.getElem?_eq_some_iff.mp q3).1⟩, vk_OFof q1 (va_eqt (hs _ (g2 i hi))) hA, vk_OFof q1 ht hA, hT⟩⟩
    · exact ⟨(0, 0), fun h => absurd h hi⟩
  obtain ⟨ad, had⟩ := Classical.axiomOfChoice hstr
  have hrws : ∀ z : Nat, ∃ q : Nat, z < 3 → va_Z (xsn (3 + z)).1 (xsn (3 + z)).2.1 (xsn (3 + z)).2.2 (.ref q) (xA0 s.heap.size) s s.heap ∧ va_T (.object "java/lang/String") q (xrows z).length (fun j => .ref (ad ((xrows z).getD j 0)).1) (xA0 s.heap.size) s s.heap := by
    intro z
    by_cases hz : z < 3
    · obtain ⟨q1, q2, q3, q4⟩ := xrow_in z hz
      obtain ⟨p1, p2⟩ := xwords_st z (by omega)
      obtain ⟨t, ht, hT⟩ := va_Tof (tm := xstm z) (ty := .object "java/lang/String") (f := fun j => .ref (ad ((xrows z).getD j 0)).1) (A := xA0 s.heap.size) (by omega) (hs _ q1) (va_eqt (hs _ q2)) (fun j hj => xeqR (hs _ (q4 j hj).2) (had _ (q4 j hj).1).1) hA
      exact ⟨t, fun _ => ⟨va_Zref (hts _ p1) (hts _ p2) ht hA, hT⟩⟩
    · exact ⟨0, fun h => absurd h hz⟩
  obtain ⟨rwa, hrwa⟩ := Classical.axiomOfChoice hrws
  have hdgs : ∀ z : Nat, ∃ q : Nat, z < 2 → va_Z (xsn (6 + z)).1 (xsn (6 + z)).2.1 (xsn (6 + z)).2.2 (.ref q) (xA0 s.heap.size) s s.heap ∧ va_T .byte q 100 (fun j => .int (xdig z j)) (xA0 s.heap.size) s s.heap := by
    intro z
    by_cases hz : z < 2
    · obtain ⟨q1, q2⟩ := xdig_in z hz
      obtain ⟨p1, p2⟩ := xwords_st (3 + z) (by omega)
      obtain ⟨t, ht, hT⟩ := va_Tof (tm := xstm (3 + z)) (ty := .byte) (f := fun j => .int (xdig z j)) (A := xA0 s.heap.size) (by decide) (hs _ q1) (va_eqt (hs _ q2)) (fun j hj => va_eqt (hs _ (xdig_e z hz j hj))) hA
      have e36 : xstm (3 + z) = .static (xsn (6 + z)).1 (xsn (6 + z)).2.1 (xsn (6 + z)).2.2 := by
        show Term.static (xsn (3 + (3 + z))).1 (xsn (3 + (3 + z))).2.1 (xsn (3 + (3 + z))).2.2 = _
        rw [show 3 + (3 + z) = 6 + z by omega]
      rw [show 3 + (3 + z) = 6 + z by omega] at p1 p2
      rw [e36] at ht
      exact ⟨t, fun _ => ⟨va_Zref (hts _ p1) (hts _ p2) ht hA, hT⟩⟩
    · exact ⟨0, fun h => absurd h hz⟩
  obtain ⟨dga, hdga⟩ := Classical.axiomOfChoice hdgs
  -- the statics
  obtain ⟨tN, htN, hTN⟩ := va_Tof (f := fun j => .int (([5, 1, 1, 0, 1, 1] : List Int32).getD j 0)) (A := xA0 s.heap.size) (N := 6) (by decide) (hs _ f5) (va_eqt (hs _ f6)) (fun j hj => va_eqt (hs _ (f7 j hj))) hA
  have hZN := va_Zref (A := xA0 s.heap.size) (hts _ w5) (hts _ w9) htN hA
  have hZC := va_Zof (A := xA0 s.heap.size) (hts _ w3) (hts _ w7) (va_eqt (hs _ f3)) hA
  obtain ⟨v2, hv2, hZS⟩ : ∃ v2 : Value, (v2 = .null ∨ ∃ a, v2 = .ref a) ∧ va_Z "jdk/internal/util/Preconditions" "SIOOBE_FORMATTER" "Ljava/util/function/BiFunction;" v2 (xA0 s.heap.size) s s.heap := by
    rcases va_Zqof (A := xA0 s.heap.size) (hts _ w4) (hts _ w8) (hs _ f4) hA with h | ⟨t, h⟩
    · exact ⟨.null, Or.inl rfl, h⟩
    · exact ⟨.ref t, Or.inr ⟨t, rfl⟩, h⟩
  obtain ⟨xv, hxv⟩ : ∃ xv : Nat → Value, xv = fun k => if k = 0 then .ref b else if k = 1 then .ref tN else if k = 2 then v2 else if k < 6 then .ref (rwa (k - 3)) else if k < 8 then .ref (dga (k - 6)) else if 100 ≤ k ∧ k < 126 then .ref (ad (k - 100)).1 else if 200 ≤ k ∧ k < 226 then .ref (ad (k - 200)).2 else .null := ⟨_, rfl⟩
  have hxr : ∀ k, xv k = .null ∨ ∃ a, xv k = .ref a := by
    intro k
    rw [hxv]
    simp only
    repeat' split
    all_goals first | exact Or.inr ⟨_, rfl⟩ | exact Or.inl rfl | exact hv2
  have hxt : ∀ i, i < 26 → xv (100 + i) = .ref (ad i).1 := by
    intro i hi
    rw [hxv]
    simp only
    rw [if_neg (by omega), if_neg (by omega), if_neg (by omega), if_neg (by omega), if_neg (by omega), if_pos (by omega), show 100 + i - 100 = i by omega]
  have hEx : xEx s.heap.size xv (L, xs) s := by
    refine ⟨hxr, ⟨b, by rw [hxv]; rfl, ?_⟩, ⟨tN, by rw [hxv]; rfl, hZN, hTN⟩, hZC, by rw [show xv 2 = v2 by rw [hxv]; rfl]; exact hZS, ⟨fun i => (ad i).1, fun i => (ad i).2, fun i hi => ?_, fun i hi => (had i hi).2, fun q hq => ?_⟩,
      vx_Zqof (hts _ w1) (hts _ w6) (hs _ f1) hA, vx_Zqof (hts _ w2) (hts _ w6) (hs _ f2) hA, fun w hw => ?_, ⟨va_AO.of (hts _ w14), va_AO.of (hts _ w12), va_AO.of (hts _ w13), va_AO.of (hts _ w16)⟩, hts _ w15, fun a b ha hb hab => va_Nc.of (hs _ (f8 a b ha hb hab)), fun z hz => ?_, fun z hz => ?_⟩
    · obtain ⟨scr, h1, h2, h3, h4, h5⟩ := hX
      exact ⟨scr, h1, h2, h3, by rw [h4]; exact Nat.le_refl _, by rw [h4], h5, hA b hbl⟩
    · refine ⟨hxt i hi, ?_⟩
      rw [hxv]
      simp only
      rw [if_neg (by omega), if_neg (by omega), if_neg (by omega), if_neg (by omega), if_neg (by omega), if_neg (by omega), if_pos (by omega), show 200 + i - 200 = i by omega]
    · obtain ⟨h14, hw, hrep⟩ := xsr_in q hq
      have hev := (had q.2.2 h14).1
      refine vk_R.of (A := #[Value.ref b]) (hts _ hw) ?_
      rcases hrep with e1 | he
      · have e2 : xtm q.2.2 = .string q.1 q.2.1 := by
          show Term.string (xrep q.2.2).1 (xrep q.2.2).2 = _
          rw [← e1]
        rw [← e2]; exact hev
      · exact xeqR (hs _ he) hev
    · obtain ⟨h1, h2⟩ := List.mem_filter.mp hw
      have hot : w.onTables = true := by cases w <;> first | rfl | cases h2
      exact va_Nw.of hot (hts _ h1)
    · obtain ⟨p1, p2⟩ := hrwa z hz
      have e : (fun j => xv (100 + (xrows z).getD j 0)) = fun j => .ref (ad ((xrows z).getD j 0)).1 := by
        funext j
        refine hxt _ ?_
        by_cases hj : j < (xrows z).length
        · exact ((xrow_in z hz).2.2.2 j hj).1
        · rw [List.getD_eq_getElem?_getD, List.getElem?_eq_none (by omega)]
          decide
      refine ⟨rwa z, ?_, p1, by rw [e]; exact p2⟩
      rw [hxv]
      simp only
      rw [if_neg (by omega), if_neg (by omega), if_neg (by omega), if_pos (by omega), show 3 + z - 3 = z by omega]
    · obtain ⟨p1, p2⟩ := hdga z hz
      refine ⟨dga z, ?_, p1, p2⟩
      rw [hxv]
      simp only
      rw [if_neg (by omega), if_neg (by omega), if_neg (by omega), if_neg (by omega), if_pos (by omega), show 6 + z - 6 = z by omega]
  have C : xCx s.heap.size xv (L, xs) (fun c => (fc c).1, fun c => (fc c).2) (fun t => ([a0, a1, a0, a1, a4, a5, a6, a7, a8] : List ClassId).getD t 0) 0 244 100 p l room_1 s m #[Value.ref b] meth c :=
    ⟨hx, hb, hml, hown, xsels_ok hts, hK, hEx, hr, hlocks, hname, by rw [Launch.stackTraces, hflags]; decide +kernel, Nat.le_of_ble_eq_true rfl, Nat.le_of_ble_eq_true rfl, rfl⟩
  have hR0 : xHR s.heap.size xv (fun c => (fc c).1, fun c => (fc c).2) (fun t => ([a0, a1, a0, a1, a4, a5, a6, a7, a8] : List ClassId).getD t 0) (xs0 L xs) s.heap := ⟨rfl, Nat.zero_le _, fun a e h => by cases h⟩
  have hxr0 : xVal s.heap.size xv (.ref 1000000) = .ref b := by rw [xVal_str (i := 0) rfl, hxv]; rfl
  have hLV := xentry_LV (B := s.heap.size) (xv := xv) (fun k => xEx.cat hEx k) (as := [.ref 1000000]) (n := 33) (by decide)
  have he : ([Value.ref 1000000] : List Value).map (xVal s.heap.size xv) = [.ref b] := by simp [hxr0]
  rw [he] at hLV
  rw [lg_entry_eq]
  refine xsim T n 100 244 0 _ [] (xs0 L xs) _ σ' hax s.heap.size xv (L, xs) _ _ 0 p l e room_1 s m _ below meth c _ C htab s.heap _ [] 0 0 0 rfl hR0 rfl hLV va_S.rf rfl (by show σ'.2.1.1 ≤ 600086 + 0; omega) (by show 0 + σ'.2.1.2 ≤ 7301442 + 0; omega) ?_
  intro H' LS' locs' cells' slots' i' pc' ins' aux' ls' st' σf hft hst hbu hR' hsc' hL' hS' hc' hs'
  obtain ⟨hins, hst1⟩ := xlaw_end hst
  subst hins
  subst hst1
  obtain ⟨hdg, -, -⟩ := xrow_parts (T.1 244 i' _ hft) (fun _ _ _ _ h => by cases h)
  have hb1 : σ'.2.1.1 = σf.2.1.1 := by rw [hbu]; rfl
  have hb2 : σ'.2.1.2 = σf.2.1.2 := by rw [hbu]; rfl
  have hs9 : slots' + 0 = 0 + σf.2.1.2 := hs'
  refine va_forget (fun q hq => hS'.2.2 q hq) ?_
  refine W.widen (k := 600086) (n := 7301442) (by omega) (by omega) ?_
  exact lw_ret hx hb hr hlocks hdg
