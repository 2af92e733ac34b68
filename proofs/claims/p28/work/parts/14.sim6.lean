/-! ===== steps: new cells, switches, the JDK's own ===== -/
section XW
variable {B : Nat} {xv : Nat → Value} {scr : Nat × (Nat → Int32)} {D : va_G} {dA : Nat → ClassId} {n0 k d : Nat} {p : Program} {l : Launch} {e : Env} {R : Room} {s : State} {m : MethodId} {args : Array Value} {below : List Frame} {meth : Method} {c : Code} {Q : State → Prop}
theorem xHR.push {σ : xS} {H H1 : Heap} {e0 : xE} {n : Nat} (h : xHR B xv D dA σ H) (hz : H1.size = H.size + 1) (ho : ∀ q, q < H.size → H1[q]? = H[q]?) (hn : σ.2.1.1 < 900000) (hat : va_at D vwCl (H.size, xEnt B xv dA e0) H1) : xHR B xv D dA (xnew σ e0 n) H1 := by
  have h1 := h.1
  refine ⟨by show H1.size = B + (σ.2.1.1 + 1); omega, by show σ.2.1.1 + 1 ≤ 1000000; omega, fun a e1 ha => ?_⟩
  have ha' : (if a = σ.2.1.1 then some e0 else σ.1 a) = some e1 := ha
  split at ha'
  · rename_i hq
    cases ha'
    refine ⟨by show a < σ.2.1.1 + 1; omega, ?_⟩
    rw [hq, ← h1]; exact hat
  · obtain ⟨g1, g2⟩ := h.2.2 a e1 ha'
    exact ⟨Nat.lt_succ_of_lt g1, g2.kept (ho _ (by omega))⟩
theorem xS_push {A : Nat → Prop} {H0 H H1 : Heap} {locs : List Loc} (h : va_S A H0 H locs) (hz : H.size ≤ H1.size) (ho : ∀ q, q < H.size → H1[q]? = H[q]?) : va_S A H0 H1 locs :=
  ⟨Nat.le_trans h.1 hz, fun q hq ha => (ho q (Nat.lt_of_lt_of_le hq h.1)).trans (h.2.1 q hq ha), h.2.2⟩
theorem xdef_val (cc : Nat) : ∀ j, j < xnf cc → defaultValue (xtyf cc j) = vp_V ((xdef cc).map (xVal B xv)) j := by
  intro j hj
  have hv : ∀ ty : FieldType, xVal B xv (defaultValue ty) = defaultValue ty := fun ty => by cases ty <;> rfl
  simp only [vp_V, xdef, List.map_map, List.getD_eq_getElem?_getD, List.getElem?_map, List.getElem?_range hj, Option.map_some, Option.getD_some, Function.comp]
  exact (hv _).symm
theorem xs_new {ix : Nat} : xOKc B xv scr D dA n0 k d p l e R s m args below meth c Q (.new ix) := by
  intro C i pc aux ls st σ i' ls' st' σ' H LS locs cells slots hrow hst hR hsc hL hS hc hrc hrs kk
  obtain ⟨hx, hb, hml, hown, hts, hK, hE, hr, hlocks, hname, hl, hRf, hRl, hB⟩ := C
  obtain ⟨hdg, hck, hj⟩ := xrow_parts hrow (fun _ _ _ _ h => by cases h)
  simp only [stp] at hst
  split at hst
  · rename_i _ cI pl
    have hpc : xpc k (i + 1) = some (pc + 3) := of_decide_eq_true hj
    simp only [xck, Bool.and_eq_true, decide_eq_true_eq] at hck
    obtain ⟨hc9, hw⟩ := hck
    obtain ⟨hcl, hin, hty, hnm, hinst, hini⟩ := xcl (c := cI.toNat) (by omega)
    unfold xalloc at hst
    split at hst
    · rename_i hn9
      simp only [xgo, Option.some.injEq, Sum.inl.injEq, Prod.mk.injEq] at hst
      obtain ⟨rfl, rfl, rfl, rfl⟩ := hst
      have hKn := hK.1 cI.toNat _ hcl
      have hrc' : cells + (σ.2.1.1 + 1) ≤ R.cells + σ.2.1.1 := hrc
      have hrs' : slots + (σ.2.1.2 + xnf cI.toNat) ≤ R.slots + σ.2.1.2 := hrs
      refine W.newcK hx hb hown (hts _ (xwd_in hw)) (hts _ hinst) (hts _ hini) rfl hdg (by omega) (by omega) hKn.2.1 rfl (fun H1 kC hkC e1 z1 o1 => ?_)
      have K := kk H1 LS locs (cells + 1) (slots + xnf cI.toNat) _ (hR.push z1 o1 hn9 ⟨_, hcl, (u_born (xtyf cI.toNat) hts hin hKn hkC e1 hty).to (xdef_val cI.toNat)⟩) hsc hL (xS_push hS (by omega) o1) hpc (by show cells + 1 + n0 = σ.2.1.1 + 1; omega) (by show slots + xnf cI.toNat + σ.2.1.2 = slots + (σ.2.1.2 + xnf cI.toNat); omega)
      simp only [List.map_cons] at K
      rw [xVal_in (by omega), ← hR.1] at K
      exact K
    · cases hst
  · split at hst <;> cases hst
  · cases hst
theorem xnewarr {i pc : Nat} {atype : ArrayType} {t : Nat} {ls : xL} {r : List Value} {σ : xS} {H : Heap} {LS : Array Slot} {locs : List Loc} {cells slots : Nat} {n : Int32} (x : vp_A)
    (C : xCx B xv scr D dA n0 k d p l R s m args meth c) (hdg : decode (xbyf k) pc = .ok (.newarray atype, 2)) (hpc : xpc k (i + 1) = some (pc + 2)) (harr : (Jvm.Cond.arrayClass (newarray.typeOf atype)) ∈ xTG) (hdA : s.vm.findClass ("[" ++ (newarray.typeOf atype).toString) = some (dA t))
    (hn : ¬ n < 0) (hb1 : n.toNatClampNeg ≤ 100000) (hcb : componentBytes (newarray.typeOf atype) ≤ 8) (hx9 : vp_cell (dA t) (xArr B x) = arrV (dA t) n.toNatClampNeg (fun _ => defaultValue (newarray.typeOf atype))) (hn9 : σ.2.1.1 < 900000)
    (hR : xHR B xv D dA σ H) (hsc : σ.2.2 = scr) (hL : xLV B xv LS ls (xmlf k)) (hS : va_S (xA0 B) s.heap H locs) (hc : cells + n0 = σ.2.1.1) (hrc : cells + (σ.2.1.1 + 1) ≤ R.cells + σ.2.1.1) (hrs : slots + (σ.2.1.2 + n.toNatClampNeg) ≤ R.slots + σ.2.1.2)
    (kk : xWk B xv scr D dA n0 k p l e R s m args below meth c Q slots σ (i + 1) ls (.ref σ.2.1.1 :: r) (xnew σ (.inl (t, x)) n.toNatClampNeg)) :
    W p l e R s m args below meth c H locs cells slots Q (F0 m pc LS (.int n :: r.map (xVal B xv))) := by
  obtain ⟨hx, hb, hml, hown, hts, hK, hE, hr, hlocks, hname, hl, hRf, hRl, hB⟩ := C
  refine va_newaK (atype := atype) hx hb (hts _ harr) rfl hdg rfl hn rfl (Nat.le_trans (Nat.mul_le_mul hb1 hcb) (by decide)) (by omega) (by omega) rfl (fun H1 cA e1 z1 o1 hA hf => ?_)
  have hcA : cA = dA t := Option.some.inj (hf.symm.trans hdA)
  subst hcA
  have K := kk H1 LS locs (cells + 1) (slots + n.toNatClampNeg) _ (hR.push z1 o1 hn9 (show H1[H.size]? = some (vp_cell (dA t) (xArr B x)) by rw [hx9]; exact e1)) hsc hL (xS_push hS (by omega) o1) hpc (by show cells + 1 + n0 = σ.2.1.1 + 1; omega) (by show slots + n.toNatClampNeg + σ.2.1.2 = slots + (σ.2.1.2 + n.toNatClampNeg); omega)
  simp only [List.map_cons] at K
  rw [xVal_in (by omega), ← hR.1] at K
  exact K
theorem xs_newarray {t : ArrayType} : xOKc B xv scr D dA n0 k d p l e R s m args below meth c Q (.newarray t) := by
  intro C i pc aux ls st σ i' ls' st' σ' H LS locs cells slots hrow hst hR hsc hL hS hc hrc hrs kk
  obtain ⟨hdg, hck, hj⟩ := xrow_parts hrow (fun _ _ _ _ h => by cases h)
  have hpc := xnx hj
  have hK := C.2.2.2.2.2.1
  simp only [stp] at hst
  split at hst
  · rename_i a n r
    split at hst
    · rename_i hnn
      obtain ⟨hn, hb1⟩ := hnn
      unfold xalloc at hst
      split at hst
      · rename_i hn9
        simp only [xgo, Option.some.injEq, Sum.inl.injEq, Prod.mk.injEq] at hst
        obtain ⟨rfl, rfl, rfl, rfl⟩ := hst
        simp only [List.map_cons]
        simp only [xck] at hck
        cases t with
        | int =>
          have ha := of_decide_eq_true hck
          subst ha
          exact xnewarr (atype := .int) (t := 0) (xzero 0 n.toNatClampNeg) C hdg hpc (xwd_in (j := 128) (by decide +kernel)) (hK.2 0 _ rfl).2 hn hb1 (by decide) rfl hn9 hR hsc hL hS hc hrc hrs kk
        | byte =>
          have ha := of_decide_eq_true hck
          subst ha
          exact xnewarr (atype := .byte) (t := 1) (xzero 1 n.toNatClampNeg) C hdg hpc (xwd_in (j := 108) (by decide +kernel)) (hK.2 1 _ rfl).2 hn hb1 (by decide) rfl hn9 hR hsc hL hS hc hrc hrs kk
        | _ => cases hck
      · cases hst
    · cases hst
  · cases hst
theorem xanewK {i pc t : Nat} {ls : xL} {r : List Value} {σ : xS} {H : Heap} {LS : Array Slot} {locs : List Loc} {cells slots n : Nat} (C : xCx B xv scr D dA n0 k d p l R s m args meth c) (hpc : xpc k (i + 1) = some (pc + 3)) (hn9 : σ.2.1.1 < 900000)
    (hR : xHR B xv D dA σ H) (hsc : σ.2.2 = scr) (hL : xLV B xv LS ls (xmlf k)) (hS : va_S (xA0 B) s.heap H locs) (hc : cells + n0 = σ.2.1.1) 
    (kk : xWk B xv scr D dA n0 k p l e R s m args below meth c Q slots σ (i + 1) ls (.ref σ.2.1.1 :: r) (xnew σ (.inl (t, (n, .inr (.inr (.inr (.inr (fun _ => none))))))) n)) :
    W p l e R s m args below meth c (H.push ({ cls := dA t, slots := Array.replicate n .null, vm := .none } : Cell)) locs (cells + 1) (slots + n) Q (F0 m (pc + 3) LS (.ref H.size :: r.map (xVal B xv))) := by
  have hcell : ({ cls := dA t, slots := Array.replicate n .null, vm := .none } : Cell) = arrV (dA t) n (fun _ => .null) := arrV_new _ _ _
  rw [hcell]
  have z1 : (H.push (arrV (dA t) n (fun _ => .null))).size = H.size + 1 := by simp
  have o1 : ∀ q, q < H.size → (H.push (arrV (dA t) n (fun _ => .null)))[q]? = H[q]? := fun q hq => by rw [Array.getElem?_push]; rw [if_neg (by omega)]
  have e1 : (H.push (arrV (dA t) n (fun _ => .null)))[H.size]? = some (arrV (dA t) n (fun _ => .null)) := by simp
  have K := kk _ LS locs (cells + 1) (slots + n) _ (hR.push z1 o1 hn9 (show _ = some (vp_cell (dA t) (xArr B (n, .inr (.inr (.inr (.inr (fun _ => none))))))) from e1)) hsc hL (xS_push hS (by omega) o1) hpc (by show cells + 1 + n0 = σ.2.1.1 + 1; omega) (by show slots + n + σ.2.1.2 = slots + (σ.2.1.2 + n); omega)
  simp only [List.map_cons] at K
  rw [xVal_in (by omega), ← hR.1] at K
  exact K
theorem xs_anewarray {ix : Nat} : xOKc B xv scr D dA n0 k d p l e R s m args below meth c Q (.anewarray ix) := by
  intro C i pc aux ls st σ i' ls' st' σ' H LS locs cells slots hrow hst hR hsc hL hS hc hrc hrs kk
  obtain ⟨hdg, hck, hj⟩ := xrow_parts hrow (fun _ _ _ _ h => by cases h)
  have hpc := xnx hj
  have C9 := C
  obtain ⟨hx, hb, hml, hown, hts, hK, hE, hr, hlocks, hname, hl, hRf, hRl, hB⟩ := C
  simp only [stp] at hst
  split at hst
  · rename_i t pl n r
    split at hst
    · rename_i hnn
      obtain ⟨ht4, ht8, hn, hb1⟩ := hnn
      unfold xalloc at hst
      split at hst
      · rename_i hn9
        simp only [xgo, Option.some.injEq, Sum.inl.injEq, Prod.mk.injEq] at hst
        obtain ⟨rfl, rfl, rfl, rfl⟩ := hst
        simp only [List.map_cons]
        simp only [xck, Bool.and_eq_true, decide_eq_true_eq] at hck
        have hw := hck.2
        have hrc' : cells + (σ.2.1.1 + 1) ≤ R.cells + σ.2.1.1 := hrc
        have hrs' : slots + (σ.2.1.2 + n.toNatClampNeg) ≤ R.slots + σ.2.1.2 := hrs
        obtain ⟨ao4, ao6, ao7, ao8⟩ := hE.2.2.2.2.2.2.2.2.2.1
        have obj : ∀ (t : Nat) (C : String), (xtys dA)[t]? = some (dA t, .object C) → va_AO C s → xwd pl.toNat (.classLink (xowf k) ix C) = true → xWk B xv scr D dA n0 k p l e R s m args below meth c Q slots σ (i + 1) ls (.ref σ.2.1.1 :: r) (xnew σ (.inl (t, (n.toNatClampNeg, .inr (.inr (.inr (.inr (fun _ => none))))))) n.toNatClampNeg) → W p l e R s m args below meth c H locs cells slots Q (F0 m pc LS (.int n :: r.map (xVal B xv))) := by
          intro t C hty hao hw kk
          refine W.anew (C := C) hx hb hown (hts _ (xwd_in hw)) (va_AO.use hao) rfl hdg rfl hn (by omega) (by omega) (by omega) (fun cA kA comp f1 f2 f3 f4 => ?_)
          obtain ⟨kA0, comp0, g1, g2, g3, g4⟩ := (hK.2 t _ hty).2
          have hcA : cA = dA t := Option.some.inj (f1.symm.trans g4)
          subst hcA
          exact xanewK C9 hpc hn9 hR hsc hL hS hc kk
        rcases (by omega : t = 4 ∨ t = 5 ∨ t = 6 ∨ t = 7 ∨ t = 8) with rfl | rfl | rfl | rfl | rfl
        · exact obj 4 _ rfl ao4 hw kk
        · refine W.anewA (t := .int) hx hb hown (hts _ (xwd_in hw)) (show (Jvm.Cond.arrayOver (.array .int)).before args s = true from hE.2.2.2.2.2.2.2.2.2.2.1) rfl hdg rfl hn (by omega) (by omega) (by omega) (fun cA kA comp f1 f2 f3 f4 => ?_)
          have hcA : cA = dA 5 := Option.some.inj (f1.symm.trans (hK.2 5 _ rfl).2)
          subst hcA
          exact xanewK C9 hpc hn9 hR hsc hL hS hc kk
        · exact obj 6 _ rfl ao6 hw kk
        · exact obj 7 _ rfl ao7 hw kk
        · exact obj 8 _ rfl ao8 hw kk
      · cases hst
    · cases hst
  · cases hst
end XW
