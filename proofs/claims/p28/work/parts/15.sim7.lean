/-! ===== steps: rows of rows, switches, the JDK's own members ===== -/
section XX
variable {B : Nat} {xv : Nat → Value} {scr : Nat × (Nat → Int32)} {D : va_G} {dA : Nat → ClassId} {n0 k d : Nat} {p : Program} {l : Launch} {e : Env} {R : Room} {s : State} {m : MethodId} {args : Array Value} {below : List Frame} {meth : Method} {c : Code} {Q : State → Prop}
theorem xcall_no {k' na kind : Nat} {st : List Value} {σ σ' : xS} {i' : Nat} {ls' : xL} {st' : List Value} : ¬ xcall k' na kind st σ = some (.inl (i', ls', st', σ')) := by
  intro hst
  unfold xcall at hst
  split at hst
  · split at hst
    · cases hst
    · split at hst
      · split at hst
        · split at hst <;> cases hst
        · cases hst
      · cases hst
  · cases hst
theorem xcloneW {cc : ByteArray} {pc : Nat} {H : Heap} {locs : List Loc} {cells slots a : Nat} {ls : Array Slot} {rest : List Value} {tys : List (ClassId × FieldType)} (hexec : p.tables.exec = Jvm.exec) (hb : c.code = cc) (hml : c.maxLocals = ls.size) {own ad : String} {index : Nat} (hown : s.vm.findClass own = some m.cls)
    (hlink : (Jvm.Cond.methodLink own index ⟨ad, "clone", "()Ljava/lang/Object;"⟩).before args s = true) (hsame : (Jvm.Cond.sameMethod ad "java/lang/Object" "clone" "()Ljava/lang/Object;").before args s = true)
    (hnat : (Jvm.Cond.native ⟨"java/lang/Object", "clone", "()Ljava/lang/Object;"⟩).before args s = true) (hinst : (Jvm.Cond.instanceMethod ⟨"java/lang/Object", "clone", "()Ljava/lang/Object;"⟩).before args s = true)
    (hsel : (Jvm.Cond.selects ad ⟨ad, "clone", "()Ljava/lang/Object;"⟩ ⟨"java/lang/Object", "clone", "()Ljava/lang/Object;"⟩).before args s = true) (hcl : va_Nw (.castable ad "java/lang/Cloneable") s)
    (hK : va_K D vwCl tys s) (t0 : Nat) {cA : ClassId} {x : vp_A} {ty : FieldType} (ha : H[a]? = some (vp_cell cA x)) (ht : tys[t0]? = some (cA, ty))
    (hnm : s.vm.findClass ad = some cA) (hfit : ∀ (i : Nat) (v : Value), (vp_cell cA x).slots[i]? = some v → fits ty v = true)
    (hframes : 1 ≤ R.frames) (hlocals : (rest.map fun v => v.category).sum + 14 ≤ R.locals) (hcells : cells + 1 ≤ R.cells) (hslots : slots + x.1 ≤ R.slots) (hdg : decode cc pc = .ok (.invokevirtual index, 3))
    (kk : W p l e R s m args below meth c (H.push (vp_cell cA x)) locs (cells + 1) (slots + x.1) Q (F0 m (pc + 3) ls (.ref H.size :: rest))) : W p l e R s m args below meth c H locs cells slots Q (F0 m pc ls (.ref a :: rest)) := by
  have hsz : (vp_cell cA x).slots.size = x.1 := by
    obtain ⟨n, f | f | f | f | f⟩ := x <;> exact arrV_size _ _ _
  have hvm0 : (vp_cell cA x).vm = .none := by
    obtain ⟨n, f | f | f | f | f⟩ := x <;> rfl
  have hcl0 : (vp_cell cA x).cls = cA := by
    obtain ⟨n, f | f | f | f | f⟩ := x <;> rfl
  have hcellE : ({ cls := (vp_cell cA x).cls, slots := (vp_cell cA x).slots } : Cell) = vp_cell cA x := by
    obtain ⟨n, f | f | f | f | f⟩ := x <;> rfl
  obtain ⟨c0, t0', f1, f2, f3⟩ := Cond.castable_spec (va_Nw.use (A := args) rfl hcl)
  cases hnm.symm.trans f1
  intro T hT X
  have hcellT : T.heap[a]? = some (vp_cell cA x) := by rw [hT]; exact ha
  obtain ⟨-, kA, hkA, comp, hkind⟩ := State.isArrayOf_alike X.warmed.alike ((hK.2 t0 _ ht).1 0 (fun _ => .null))
  obtain ⟨-, kS, hkS, compS, hkindS⟩ := (hK.2 t0 _ ht).1 0 (fun _ => .null)
  obtain ⟨vm', X', st⟩ := X.cloneArray hexec hown hlink hsame hnat hinst hsel (a := a) (cell := vp_cell cA x) hcellT (fun k h => by rw [hvm0] at h; cases h) (by rw [hvm0]; exact fun h => by cases h) (by rw [hcl0]; exact hnm) f2 (by rw [hcl0]; exact f3)
    (fun i v hv => by
      rw [hcl0]
      have hk' : T.vm.classes[cA]? = some kA := hkA
      simpa [State.fitsSlot, State.slotType?, hk', hkind] using hfit i v hv)
    (g := F0 m pc ls (.ref a :: rest)) rfl (by rw [hml]) rfl (by rw [hb]; exact hdg) hframes (by show 2 * 0 + _ + 14 ≤ _; omega) hcells (by rw [hsz]; exact hslots) (hloader := by rw [hcl0]; exact Vm.clonesLoader_of_array hkS hkindS)
  rw [hcellE, hsz] at X'
  obtain ⟨t, b1, b2⟩ := kk ((T.setVm vm').pushCell (vp_cell cA x)) (by rw [← hT]; rfl) X'
  refine ⟨t, st t ?_, b2⟩
  rw [hcellE, hT]
  exact b1
theorem xcopyT {cc : ByteArray} {pc : Nat} {H H0 : Heap} {A : Nat → Prop} {locs : List Loc} {cells slots a : Nat} {ls : Array Slot} {rest : List Value} {tys : List (ClassId × FieldType)} {ws : va_W} {cl : List vw_C} (hexec : p.tables.exec = Jvm.exec) (hb : c.code = cc) (hml : c.maxLocals = ls.size) {own : String} {index : Nat} (hown : s.vm.findClass own = some m.cls) (hlink : (Jvm.Cond.methodLink own index arraycopyName).before args s = true) (hnat : (Jvm.Cond.native arraycopyName).before args s = true) (hstat : (Jvm.Cond.static arraycopyName).before args s = true) (hini : (Jvm.Cond.initialized "java/lang/System").before args s = true)
    (hK : va_K D cl tys s) (hP : va_P D cl ws H) (hD : va_D A ws) (hS : va_S A H0 H locs) {b0 n0 : Nat} {f : Nat → Int32} {scr : Cell} (hc0 : H[b0]? = some scr) (hs2 : s.isArrayOf scr .byte) (hs3 : scr.vm ≠ .unknown) (hs4 : n0 ≤ scr.slots.size) (hs5 : ∀ j : Nat, j < n0 → scr.slots[j]? = some (.int (f j))) (q1 t1 : Nat) {c1 : ClassId} {n1 : Nat} {g : Nat → Int32} (ha1 : ws[q1]? = some (a, .inl (c1, n1, .inl g))) (ht1 : tys[t1]? = some (c1, .byte))
    {sp dp n : Int32} (h1 : ¬ sp < 0) (h2 : ¬ dp < 0) (h3 : ¬ n < 0) (h4 : sp.toNatClampNeg + n.toNatClampNeg ≤ n0) (h5 : dp.toNatClampNeg + n.toNatClampNeg ≤ n1) (hfit : ∀ i, i < n.toNatClampNeg → fits .byte (.int (f (sp.toNatClampNeg + i))) = true)
    (hframes : 1 ≤ R.frames) (hlocals : (rest.map fun v => v.category).sum + (nativeFrameWords "java/lang/System" "arraycopy" 5 + 11) ≤ R.locals) (hdg : decode cc pc = .ok (.invokestatic index, 3))
    (kk : ∀ (H1 : Heap) (locs1 : List Loc), va_P D cl (ws.set q1 (a, .inl (c1, n1, .inl (va_cpy f g sp.toNatClampNeg dp.toNatClampNeg n.toNatClampNeg)))) H1 → va_D A (ws.set q1 (a, .inl (c1, n1, .inl (va_cpy f g sp.toNatClampNeg dp.toNatClampNeg n.toNatClampNeg)))) → va_S A H0 H1 locs1 → W p l e R s m args below meth c H1 locs1 cells slots Q (F0 m (pc + 3) ls rest)) : W p l e R s m args below meth c H locs cells slots Q (F0 m pc ls (.int n :: .int dp :: .ref a :: .int sp :: .ref b0 :: rest)) := by
  have nn : ∀ z : Int32, ¬ z < 0 → z.toInt = (z.toNatClampNeg : Int) := by
    intro z hz
    have hz0 : (0 : Int) ≤ z.toInt := by
      have := Int32.not_lt.mp hz
      simpa using Int32.le_iff_toInt_le.mp this
    show z.toInt = ((z.toInt.toNat : Nat) : Int)
    omega
  intro T hT X
  have hc1 : H[a]? = some (vp_cell c1 (n1, .inl g)) := hP q1 _ ha1
  obtain ⟨hs6, k0, hk0, cm0, hkk0⟩ := hs2
  obtain ⟨-, k1, hk1, cm1, hkk1⟩ := (hK.2 t1 _ ht1).1 n1 (fun j => .int (g j))
  obtain ⟨vm', X', step⟩ := X.arraycopy hexec hown hlink hnat hstat hini (src := b0) (dst := a) (cs := scr) (cd := vp_cell c1 (n1, .inl g)) (srcPos := sp) (destPos := dp) (n := n) (by rw [hT]; exact hc0) (by rw [hT]; exact hc1)
    hs6 (fun _ h => by cases h) hs3 (fun h => by cases h) hk0 hk1 hkk0 hkk1 (by simp [refKind]) h1 h2 h3
    (by rw [nn sp h1, nn n h3]; omega)
    (by rw [nn dp h2, nn n h3]; show ¬ _ > ((arrV c1 n1 (fun j => .int (g j))).slots.size : Int); rw [arrV_size]; omega)
    (fun vm₁ _ i hi => by
      have e : scr.slots.getD (sp.toNatClampNeg + i) .null = .int (f (sp.toNatClampNeg + i)) := by
        rw [Array.getD_eq_getD_getElem?, hs5 _ (by omega)]
        rfl
      refine ⟨?_, ?_⟩
      · rw [e]
        exact hfit i hi
      · rw [e]
        exact trivial)
    (g := F0 m pc ls (.int n :: .int dp :: .ref a :: .int sp :: .ref b0 :: rest)) rfl (by rw [hml]) (rest := rest) rfl (by rw [hb]; exact hdg) hframes (by show 2 * 0 + _ + _ ≤ _; omega)
  have e1 : copied scr (vp_cell c1 (n1, .inl g)) sp dp n = vp_cell c1 (n1, .inl (va_cpy f g sp.toNatClampNeg dp.toNatClampNeg n.toNatClampNeg)) := va_copiedX (fun z => .int z) scr c1 f g hs5 h4
  rw [e1] at X' step
  have hl : a < H.size := (Array.getElem?_eq_some_iff.mp hc1).1
  have hheap : ((T.setVm vm').setCell a (vp_cell c1 (n1, .inl (va_cpy f g sp.toNatClampNeg dp.toNatClampNeg n.toNatClampNeg)))).heap = H.setIfInBounds a (vp_cell c1 (n1, .inl (va_cpy f g sp.toNatClampNeg dp.toNatClampNeg n.toNatClampNeg))) := by rw [← hT]; rfl
  have oq : ∀ q : Nat, q ≠ a → (H.setIfInBounds a (vp_cell c1 (n1, .inl (va_cpy f g sp.toNatClampNeg dp.toNatClampNeg n.toNatClampNeg))))[q]? = H[q]? := fun q hq => by simp [Array.getElem?_setIfInBounds, Ne.symm hq]
  obtain ⟨t, a1, b1⟩ := kk _ _ (hP.set hD ha1 (show (H.setIfInBounds a _)[a]? = some _ by simp [Array.getElem?_setIfInBounds, hl]) oq) (hD.set ha1) ⟨by simp; exact hS.1, fun q g1 g2 => by
      rw [oq q (fun e => g2 (by rw [e]; exact hD.2 q1 _ ha1))]
      exact hS.2.1 q g1 g2, fun q hq => by
      rcases List.mem_append.mp hq with h | h
      · exact hS.2.2 q h
      · obtain ⟨z, -, hz⟩ := List.mem_map.mp h
        rw [← hz]
        exact hD.2 q1 _ ha1⟩ _ hheap X'
  exact ⟨t, step t a1, b1⟩
theorem xs_switch {df lo hi : Int} {offs : Array Int} : xOKc B xv scr D dA n0 k d p l e R s m args below meth c Q (.tableswitch df lo hi offs) := by
  intro C i pc aux ls st σ i' ls' st' σ' H LS locs cells slots hrow hst hR hsc hL hS hc hrc hrs kk
  obtain ⟨hx, hb, hml, hown, hts, hK, hE, hr, hlocks, hname, hl, hRf, hRl, hB⟩ := C
  unfold xrow at hrow
  simp only [Bool.and_eq_true] at hrow
  obtain ⟨⟨h1, -⟩, h3⟩ := hrow
  obtain ⟨len, hdg⟩ : ∃ len, decode (xbyf k) pc = .ok (.tableswitch df lo hi offs, len) := by
    split at h1
    · rename_i j len hd
      exact ⟨len, by rw [hd, of_decide_eq_true h1]⟩
    · cases h1
  simp only [xjp, Bool.and_eq_true, decide_eq_true_eq] at h3
  obtain ⟨⟨⟨⟨hd0, hlen⟩, hsz⟩, hlohi⟩, hall⟩ := h3
  simp only [stp] at hst
  split at hst
  · rename_i x r
    simp only [List.map_cons]
    split at hst
    · rename_i hout
      simp only [xgo, Option.some.injEq, Sum.inl.injEq, Prod.mk.injEq] at hst
      obtain ⟨rfl, rfl, rfl, rfl⟩ := hst
      split at hd0
      · rename_i t ht
        exact lv_tableOut hx hb hdg hout (of_decide_eq_true hd0) (kk H LS locs cells slots _ hR hsc hL hS ht hc rfl)
      · cases hd0
    · rename_i hin
      split at hst
      · rename_i t ht
        simp only [xgo, Option.some.injEq, Sum.inl.injEq, Prod.mk.injEq] at hst
        obtain ⟨rfl, rfl, rfl, rfl⟩ := hst
        have hn1 : ¬ x.toInt < lo := fun q => hin (Or.inl q)
        have hn2 : ¬ hi < x.toInt := fun q => hin (Or.inr q)
        have hjlt : (x.toInt - lo).toNat < offs.size := by
          have := (List.getElem?_eq_some_iff.mp ht).1
          omega
        have hq := List.all_eq_true.mp hall (x.toInt - lo).toNat (List.mem_range.mpr hjlt)
        simp only [ht] at hq
        split at hq
        · rename_i t2 off ht2 hoff
          cases ht2
          split at hq
          · rename_i tp htp
            exact lv_tableIn hx hb hdg hn1 hn2 hoff (of_decide_eq_true hq) (kk H LS locs cells slots _ hR hsc hL hS htp hc rfl)
          · cases hq
        · cases hq
      · cases hst
  · cases hst
/-- Object.<init>, arraycopy, Math: what is not a call of the table's methods -/
theorem xs_spec {ix : Nat} : xOKc B xv scr D dA n0 k d p l e R s m args below meth c Q (.invokespecial ix) := by
  intro C i pc aux ls st σ i' ls' st' σ' H LS locs cells slots hrow hst hR hsc hL hS hc hrc hrs kk
  obtain ⟨hdg, hck, hj⟩ := xrow_parts hrow (fun _ _ _ _ h => by cases h)
  have hpc := xnx hj
  obtain ⟨hx, hb, hml, hown, hts, hK, hE, hr, hlocks, hname, hl, hRf, hRl, hB⟩ := C
  simp only [stp] at hst
  unfold xinv at hst
  split at hst
  · rename_i k' na kind pl
    simp only [xck] at hck
    split at hst
    · rename_i h20
      rw [if_pos h20] at hck
      split at hst
      · rename_i a r
        split at hst
        · rename_i hcat
          simp only [xgo, Option.some.injEq, Sum.inl.injEq, Prod.mk.injEq] at hst
          obtain ⟨rfl, rfl, rfl, rfl⟩ := hst
          have K := kk H LS locs cells slots _ hR hsc hL hS hpc hc rfl
          have hsum := xcat_map (B := B) hE.cat r
          simp only [List.map_cons]
          have hLn : LS.size = c.maxLocals := by rw [hml]; exact hL.1.1
          rw [xVal_in hcat.1]
          have hc8 := hcat.2
          exact W.objInit hx hb hown (hts _ (xwd_in hck)) (hts _ (xwd_in (j := 69) (by decide +kernel))) (hts _ (xwd_in (j := 70) (by decide +kernel))) rfl hLn rfl hdg (by omega) (by show 2 * 0 + _ + 12 ≤ _; omega) K
        · cases hst
      · cases hst
    · rename_i h20
      rw [if_neg h20] at hck
      split at hck
      · rename_i h6
        simp only [Bool.and_eq_true, decide_eq_true_eq] at hck
        obtain ⟨⟨⟨hk25, -⟩, -⟩, -⟩ := hck
        rw [if_neg (by omega), if_neg (by omega), if_neg (by omega), if_neg (by omega), if_neg (by omega), if_neg (by omega), if_pos h6] at hst
        exact absurd hst xcall_no
      · have h23 := of_decide_eq_true hck
        subst h23
        simp at hst
  · cases hst
theorem xs_static {ix : Nat} : xOKc B xv scr D dA n0 k d p l e R s m args below meth c Q (.invokestatic ix) := by
  intro C i pc aux ls st σ i' ls' st' σ' H LS locs cells slots hrow hst hR hsc hL hS hc hrc hrs kk
  obtain ⟨hdg, hck, hj⟩ := xrow_parts hrow (fun _ _ _ _ h => by cases h)
  have hpc := xnx hj
  obtain ⟨hx, hb, hml, hown, hts, hK, hE, hr, hlocks, hname, hl, hRf, hRl, hB⟩ := C
  have hLn : c.maxLocals = LS.size := by rw [hml]; exact hL.1.1.symm
  have iM := hts _ (xwd_in (w := .initialized "java/lang/Math") (j := 51) (by decide +kernel))
  simp only [stp] at hst
  unfold xinv at hst
  split at hst
  · rename_i k' na kind pl
    simp only [xck] at hck
    split at hst
    · rename_i h20
      subst h20
      simp at hck
    · split at hst
      · rename_i h21
        rw [if_pos h21] at hck
        unfold xcopy at hst
        split at hst
        · rename_i n dp a sp b r
          split at hst
          · rename_i hab
            split at hst
            · rename_i t0 n0' f t1 n1 g hh0 hh1
              split at hst
              · rename_i hcond
                obtain ⟨ht1, ht0, h1, h2, h3, h4, h5, h6, hfb⟩ := hcond
                simp only [xgo, Option.some.injEq, Sum.inl.injEq, Prod.mk.injEq] at hst
                obtain ⟨rfl, rfl, rfl, rfl⟩ := hst
                subst ht1
                simp only [List.map_cons]
                obtain ⟨-, q1, hq1⟩ := hR.arr hh1
                rw [xVal_in hab]
                have hsum := xcat_map (B := B) hE.cat r
                have hnf : nativeFrameWords "java/lang/System" "arraycopy" 5 + 11 ≤ 60 := by decide +kernel
                have wnat := hts _ (xwd_in (w := .native arraycopyName) (j := 378) (by decide +kernel))
                have wsta := hts _ (xwd_in (w := .static arraycopyName) (j := 377) (by decide +kernel))
                have wini := hts _ (xwd_in (w := .initialized "java/lang/System") (j := 49) (by decide +kernel))
                have fb : ∀ i, i < n.toNatClampNeg → t1 = 1 → fits .byte (.int (f (sp.toNatClampNeg + i))) = true := fun i hi h01 => by
                  rcases hfb with hfb | hfb
                  · omega
                  · exact List.all_eq_true.mp hfb i (List.mem_range.mpr hi)
                have G := xset_go (e0 := .inl (t1, (n1, .inl g))) (e1 := .inl (t1, (n1, .inl (va_cpy f g sp.toNatClampNeg dp.toNatClampNeg n.toNatClampNeg)))) hB hR hsc hL hS hc hq1 (hR.2.2 a _ hh1).1 hpc kk
                have txt : ∀ (tb : Nat) (N : Nat), n0' ≤ N → t1 = 1 → xVal B xv (.ref b) = .ref tb → va_T .byte tb N (fun j => .int (f j)) (xA0 B) s s.heap → W p l e R s m args below meth c H locs cells slots Q (F0 m pc LS (.int n :: .int dp :: .ref (B + a) :: .int sp :: xVal B xv (.ref b) :: r.map (xVal B xv))) := by
                  intro tb N hN h01 hb1 hb2
                  subst h01
                  rw [hb1]
                  obtain ⟨cell, g1, g2, g3, g4, g5, g6, g7⟩ := hb2
                  exact xcopyT (n0 := N) hx hb hLn hown (hts _ (xwd_in hck)) wnat wsta wini hK (xW_P hR) xW_D (xS_self hS) (by rw [hS.2.1 tb (Array.getElem?_eq_some_iff.mp g1).1 g7]; exact g1) g2 g3 g4 g6 q1 1 hq1 rfl h1 h2 h3 (by omega) h5 (fun i hi => fb i hi rfl) (by omega) (by omega) hdg G
                rcases xRd_cases hh0 with ⟨ha, hh⟩ | ⟨h1', h2'⟩ | ⟨h1', h2'⟩ | ⟨z, hz, haz, h2'⟩ | ⟨z, hz, haz, h2'⟩ | ⟨z, hz, haz, h2'⟩ | ⟨z, hz, haz, h2'⟩
                · obtain ⟨-, q0, hq0⟩ := hR.arr hh
                  rw [xVal_in ha]
                  rcases (by omega : t1 = 0 ∨ t1 = 1) with rfl | rfl
                  · exact va_copyi hx hb hLn hown (hts _ (xwd_in hck)) wnat wsta wini hK (xW_P hR) xW_D (xS_self hS) q0 q1 0 0 hq0 hq1 rfl rfl rfl h1 h2 h3 h4 h5 (fun _ _ => rfl) (by omega) (by omega) hdg G
                  · exact va_copyi hx hb hLn hown (hts _ (xwd_in hck)) wnat wsta wini hK (xW_P hR) xW_D (xS_self hS) q0 q1 1 1 hq0 hq1 rfl rfl rfl h1 h2 h3 h4 h5 (fun i hi => fb i hi rfl) (by omega) (by omega) hdg G
                · cases h2'
                  exfalso
                  rcases ht0 with ⟨-, hb9⟩ | hb9
                  · have hb8 : @LT.lt Nat _ b 1000000 := hb9
                    omega
                  · cases hb9
                · cases h2'
                  exfalso
                  rcases ht0 with ⟨-, hb9⟩ | hb9
                  · have hb8 : @LT.lt Nat _ b 1000000 := hb9
                    omega
                  · cases hb9
                · cases h2'
                · cases h2'
                · cases h2'
                  obtain ⟨tN, hb1, -, hb2⟩ := hE.2.2.2.2.2.2.2.2.2.2.2.2.2 z hz
                  exact txt tN 100 (Nat.le_refl _) rfl ((xVal_str (i := 6 + z) (by omega)).trans hb1) hb2
                · cases h2'
                  obtain ⟨adK, adV, had, hvk, hvr⟩ := hE.2.2.2.2.2.1
                  exact txt (adV z) _ (Nat.le_refl _) rfl ((xVal_str (i := 200 + z) (by omega)).trans (had z hz).2) (hvk z hz).2.2.2
              · cases hst
            · cases hst
          · cases hst
        · cases hst
      · rename_i h21
        rw [if_neg h21] at hck
        split at hst
        · rename_i h22
          exfalso
          rw [if_neg (by omega), if_neg (by omega), if_neg (by omega), if_neg (by omega)] at hck
          split at hck
          · simp only [Bool.and_eq_true, decide_eq_true_eq] at hck
            omega
          · have := of_decide_eq_true hck
            omega
        · rename_i h22
          split at hst
          · rename_i h24
            rw [if_pos h24] at hck
            split at hst
            · rename_i y x r
              split at hst
              · rename_i hcat
                simp only [xgo, Option.some.injEq, Sum.inl.injEq, Prod.mk.injEq] at hst
                obtain ⟨rfl, rfl, rfl, rfl⟩ := hst
                have hsum := xcat_map (B := B) hE.cat r
                exact va_mmax hx hb hLn hown (hts _ (xwd_in hck)) (hts _ (xwd_in (j := 667) (by decide +kernel))) iM (hts _ (xwd_in (j := 668) (by decide +kernel))) (by omega) (by omega) (by omega) (by omega) hdg (kk H LS locs cells slots _ hR hsc hL hS hpc hc rfl)
              · cases hst
            · cases hst
          · rename_i h24
            rw [if_neg h24] at hck
            split at hst
            · rename_i h25
              rw [if_pos h25] at hck
              split at hst
              · rename_i y x r
                split at hst
                · rename_i hcat
                  simp only [xgo, Option.some.injEq, Sum.inl.injEq, Prod.mk.injEq] at hst
                  obtain ⟨rfl, rfl, rfl, rfl⟩ := hst
                  have hsum := xcat_map (B := B) hE.cat r
                  exact va_mmin hx hb hLn hown (hts _ (xwd_in hck)) (hts _ (xwd_in (j := 664) (by decide +kernel))) iM (hts _ (xwd_in (j := 665) (by decide +kernel))) (by omega) (by omega) (by omega) (by omega) hdg (kk H LS locs cells slots _ hR hsc hL hS hpc hc rfl)
                · cases hst
              · cases hst
            · rename_i h25
              rw [if_neg h25] at hck
              split at hst
              · rename_i h26
                rw [if_pos h26] at hck
                split at hst
                · rename_i y x r
                  split at hst
                  · rename_i hcat
                    simp only [xgo, Option.some.injEq, Sum.inl.injEq, Prod.mk.injEq] at hst
                    obtain ⟨rfl, rfl, rfl, rfl⟩ := hst
                    have hsum := xcat_map (B := B) hE.cat r
                    exact va_mmax_long hx hb hLn hown (hts _ (xwd_in hck)) (hts _ (xwd_in (j := 538) (by decide +kernel))) iM (hts _ (xwd_in (j := 539) (by decide +kernel))) (by omega) (by omega) (by omega) (by omega) hdg (kk H LS locs cells slots _ hR hsc hL hS hpc hc rfl)
                  · cases hst
                · cases hst
              · rename_i h26
                rw [if_neg h26] at hck
                split at hst
                · rename_i h27
                  rw [if_pos h27] at hck
                  split at hst
                  · rename_i y x r
                    split at hst
                    · rename_i hcat
                      simp only [xgo, Option.some.injEq, Sum.inl.injEq, Prod.mk.injEq] at hst
                      obtain ⟨rfl, rfl, rfl, rfl⟩ := hst
                      have hsum := xcat_map (B := B) hE.cat r
                      exact va_mmin_long hx hb hLn hown (hts _ (xwd_in hck)) (hts _ (xwd_in (j := 535) (by decide +kernel))) iM (hts _ (xwd_in (j := 536) (by decide +kernel))) (by omega) (by omega) (by omega) (by omega) hdg (kk H LS locs cells slots _ hR hsc hL hS hpc hc rfl)
                    · cases hst
                  · cases hst
                · split at hst
                  · exact absurd hst xcall_no
                  · cases hst
  · cases hst
theorem xs_virtual {ix : Nat} : xOKc B xv scr D dA n0 k d p l e R s m args below meth c Q (.invokevirtual ix) := by
  intro C i pc aux ls st σ i' ls' st' σ' H LS locs cells slots hrow hst hR hsc hL hS hc hrc hrs kk
  obtain ⟨hdg, hck, hj⟩ := xrow_parts hrow (fun _ _ _ _ h => by cases h)
  have hpc := xnx hj
  obtain ⟨hx, hb, hml, hown, hts, hK, hE, hr, hlocks, hname, hl, hRf, hRl, hB⟩ := C
  have hLn : c.maxLocals = LS.size := by rw [hml]; exact hL.1.1.symm
  simp only [stp] at hst
  unfold xinv at hst
  split at hst
  · rename_i k' na kind pl
    simp only [xck] at hck
    split at hck
    · rename_i h22
      subst h22
      rw [if_neg (by omega), if_neg (by omega), if_pos rfl] at hst
      simp only [Bool.and_eq_true, decide_eq_true_eq] at hck
      obtain ⟨hk01, hw⟩ := hck
      unfold xclone at hst
      split at hst
      · rename_i a r
        split at hst
        · rename_i hab
          split at hst
          · rename_i t n f hh
            split at hst
            · rename_i hcond
              obtain ⟨ht, hz2, hn5, hfb⟩ := hcond
              unfold xalloc at hst
              split at hst
              · rename_i hn9
                simp only [xgo, Option.some.injEq, Sum.inl.injEq, Prod.mk.injEq] at hst
                obtain ⟨rfl, rfl, rfl, rfl⟩ := hst
                simp only [List.map_cons]
                have hat := (hR.2.2 a _ hh)
                rw [xVal_in hab.1]
                have hsum := xcat_map (B := B) hE.cat r
                have hrc' : cells + (σ.2.1.1 + 1) ≤ R.cells + σ.2.1.1 := hrc
                have hrs' : slots + (σ.2.1.2 + n) ≤ R.slots + σ.2.1.2 := hrs
                have hcell : H[B + a]? = some (vp_cell (dA t) (n, .inl f)) := hat.2
                have go : W p l e R s m args below meth c (H.push (vp_cell (dA t) (n, .inl f))) locs (cells + 1) (slots + n) Q (F0 m (pc + 3) LS (.ref H.size :: r.map (xVal B xv))) := by
                  have h1 := hR.1
                  have z1 : (H.push (vp_cell (dA t) (n, .inl f))).size = H.size + 1 := by simp
                  have o1 : ∀ q, q < H.size → (H.push (vp_cell (dA t) (n, .inl f)))[q]? = H[q]? := fun q hq => by rw [Array.getElem?_push]; rw [if_neg (by omega)]
                  have e1 : (H.push (vp_cell (dA t) (n, .inl f)))[H.size]? = some (vp_cell (dA t) (n, .inl f)) := by simp
                  have K := kk _ LS locs (cells + 1) (slots + n) _ (hR.push z1 o1 hn9 (show _ = some (vp_cell (dA t) (xArr B (n, .inl f))) from e1)) hsc hL (xS_push hS (by omega) o1) hpc (by show cells + 1 + n0 = σ.2.1.1 + 1; omega) (by show slots + n + σ.2.1.2 = slots + (σ.2.1.2 + n); omega)
                  simp only [List.map_cons] at K
                  rw [xVal_in (by omega), ← hR.1] at K
                  exact K
                have mk : ∀ (ad : String) (ty : FieldType), (xtys dA)[t]? = some (dA t, ty) → s.vm.findClass ad = some (dA t) → (Jvm.Cond.methodLink (xowf k) ix ⟨ad, "clone", "()Ljava/lang/Object;"⟩).before args s = true → (Jvm.Cond.sameMethod ad "java/lang/Object" "clone" "()Ljava/lang/Object;").before args s = true → (Jvm.Cond.selects ad ⟨ad, "clone", "()Ljava/lang/Object;"⟩ ⟨"java/lang/Object", "clone", "()Ljava/lang/Object;"⟩).before args s = true → va_Nw (.castable ad "java/lang/Cloneable") s → (∀ j, j < n → fits ty (.int (f j)) = true) → W p l e R s m args below meth c H locs cells slots Q (F0 m pc LS (.ref (B + a) :: r.map (xVal B xv))) := by
                  intro ad ty hty hnm hlk hsm hsel hcast hft
                  have wnat := hts _ (xwd_in (w := .native ⟨"java/lang/Object", "clone", "()Ljava/lang/Object;"⟩) (j := 495) (by decide +kernel))
                  have wins := hts _ (xwd_in (w := .instanceMethod ⟨"java/lang/Object", "clone", "()Ljava/lang/Object;"⟩) (j := 496) (by decide +kernel))
                  refine xcloneW hx hb hLn hown hlk hsm wnat wins hsel hcast hK t hcell hty hnm (fun i v hv => ?_) (by omega) (by omega) (by omega) (by show slots + n ≤ R.slots; omega) hdg go
                  have hv' : (arrV (dA t) n (fun j => .int (f j))).slots[i]? = some v := hv
                  have hin : i < n := by
                    have := (Array.getElem?_eq_some_iff.mp hv').1
                    rwa [arrV_size] at this
                  rw [arrV_read _ _ hin] at hv'
                  cases hv'
                  exact hft i hin
                rcases hk01 with rfl | rfl
                · subst ht
                  exact mk "[I" .int rfl (hK.2 0 _ rfl).2 (hts _ (xwd_in hw)) (hts _ (xwd_in (j := 494) (by decide +kernel))) (hts _ (xwd_in (j := 497) (by decide +kernel))) (hE.2.2.2.2.2.2.2.2.1 _ (xwn_in (j := 498) (by decide +kernel) rfl)) (fun _ _ => rfl)
                · subst ht
                  exact mk "[B" .byte rfl (hK.2 1 _ rfl).2 (hts _ (xwd_in hw)) (hts _ (xwd_in (j := 1408) (by decide +kernel))) (hts _ (xwd_in (j := 1409) (by decide +kernel))) (hE.2.2.2.2.2.2.2.2.1 _ (xwn_in (j := 1410) (by decide +kernel) rfl)) (fun j hj => by
                    rcases hfb with hfb | hfb
                    · exact absurd hfb (by decide)
                    · have := List.all_eq_true.mp hfb j (List.mem_range.mpr hj)
                      rwa [Nat.zero_add] at this)
              · cases hst
            · cases hst
          · cases hst
        · cases hst
      · cases hst
    · split at hck
      · rename_i h6
        simp only [Bool.and_eq_true, decide_eq_true_eq] at hck
        obtain ⟨⟨⟨hk, -⟩, -⟩, -⟩ := hck
        rw [if_neg (by omega), if_neg (by omega), if_neg (by omega), if_neg (by omega), if_neg (by omega), if_neg (by omega), if_neg (by omega), if_pos h6] at hst
        exact absurd hst xcall_no
      · have h99 := of_decide_eq_true hck
        subst h99
        simp at hst
  · cases hst
end XX
