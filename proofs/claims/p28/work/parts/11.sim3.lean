theorem xVal_ref {B : Nat} {xv : Nat → Value} {a : Nat} (h : ∀ k, xv k = .null ∨ ∃ a, xv k = .ref a) : (∃ z, xVal B xv (.ref a) = .ref z) ∨ xVal B xv (.ref a) = .null := by
  simp only [xVal]
  split
  · exact Or.inl ⟨_, rfl⟩
  · rcases h (a - 1000000) with h | ⟨z, h⟩
    · exact Or.inr h
    · exact Or.inl ⟨z, h⟩
theorem xrefN {B : Nat} {xv : Nat → Value} {scr : Nat × (Nat → Int32)} {s : State} (hE : xEx B xv scr s) {a : Nat} (h : a < 1000000 ∨ (1000100 ≤ a ∧ a < 1000126)) : ∃ z, xVal B xv (.ref a) = .ref z := by
  simp only [xVal]
  rcases h with h | ⟨h1, h2⟩
  · rw [if_pos h]
    exact ⟨_, rfl⟩
  · have h3 : ¬ a < 1000000 := by omega
    rw [if_neg h3]
    obtain ⟨adK, adV, had, -⟩ := hE.2.2.2.2.2.1
    have := (had (a - 1000100) (by omega)).1
    rw [show a - 1000000 = 100 + (a - 1000100) by omega]
    exact ⟨_, this⟩
section XT
variable {B : Nat} {xv : Nat → Value} {scr : Nat × (Nat → Int32)} {D : va_G} {dA : Nat → ClassId} {n0 k d : Nat} {p : Program} {l : Launch} {e : Env} {R : Room} {s : State} {m : MethodId} {args : Array Value} {below : List Frame} {meth : Method} {c : Code} {Q : State → Prop}
theorem xs_iconst {n : Int} : xOKc B xv scr D dA n0 k d p l e R s m args below meth c Q (.iconst n) := by
  intro C i pc aux ls st σ i' ls' st' σ' H LS locs cells slots hrow hst hR hsc hL hS hc hrc hrs kk
  obtain ⟨hx, hb, hml, hown, hts, hK, hE, hr, hlocks, hname, hl, hRf, hRl, hB⟩ := C
  obtain ⟨hdg, hck, hj⟩ := xrow_parts hrow (fun _ _ _ _ h => by cases h)
  have hpc := xnx hj
  simp only [stp] at hst
  simp only [xpush, Option.some.injEq, Sum.inl.injEq, Prod.mk.injEq] at hst
  obtain ⟨rfl, rfl, rfl, rfl⟩ := hst
  exact lv_iconst hx hb hdg rfl (kk H LS locs cells slots _ hR hsc hL hS hpc hc rfl)

theorem xs_bipush {n : Int} : xOKc B xv scr D dA n0 k d p l e R s m args below meth c Q (.bipush n) := by
  intro C i pc aux ls st σ i' ls' st' σ' H LS locs cells slots hrow hst hR hsc hL hS hc hrc hrs kk
  obtain ⟨hx, hb, hml, hown, hts, hK, hE, hr, hlocks, hname, hl, hRf, hRl, hB⟩ := C
  obtain ⟨hdg, hck, hj⟩ := xrow_parts hrow (fun _ _ _ _ h => by cases h)
  have hpc := xnx hj
  simp only [stp] at hst
  simp only [xpush, Option.some.injEq, Sum.inl.injEq, Prod.mk.injEq] at hst
  obtain ⟨rfl, rfl, rfl, rfl⟩ := hst
  exact lv_bipush hx hb hdg rfl (kk H LS locs cells slots _ hR hsc hL hS hpc hc rfl)

theorem xs_sipush {n : Int} : xOKc B xv scr D dA n0 k d p l e R s m args below meth c Q (.sipush n) := by
  intro C i pc aux ls st σ i' ls' st' σ' H LS locs cells slots hrow hst hR hsc hL hS hc hrc hrs kk
  obtain ⟨hx, hb, hml, hown, hts, hK, hE, hr, hlocks, hname, hl, hRf, hRl, hB⟩ := C
  obtain ⟨hdg, hck, hj⟩ := xrow_parts hrow (fun _ _ _ _ h => by cases h)
  have hpc := xnx hj
  simp only [stp] at hst
  simp only [xpush, Option.some.injEq, Sum.inl.injEq, Prod.mk.injEq] at hst
  obtain ⟨rfl, rfl, rfl, rfl⟩ := hst
  exact lv_sipush hx hb hdg rfl (kk H LS locs cells slots _ hR hsc hL hS hpc hc rfl)

theorem xs_lconst {n : Fin 2} : xOKc B xv scr D dA n0 k d p l e R s m args below meth c Q (.lconst n) := by
  intro C i pc aux ls st σ i' ls' st' σ' H LS locs cells slots hrow hst hR hsc hL hS hc hrc hrs kk
  obtain ⟨hx, hb, hml, hown, hts, hK, hE, hr, hlocks, hname, hl, hRf, hRl, hB⟩ := C
  obtain ⟨hdg, hck, hj⟩ := xrow_parts hrow (fun _ _ _ _ h => by cases h)
  have hpc := xnx hj
  simp only [stp] at hst
  simp only [xpush, Option.some.injEq, Sum.inl.injEq, Prod.mk.injEq] at hst
  obtain ⟨rfl, rfl, rfl, rfl⟩ := hst
  exact lv_lconst hx hb hdg rfl (kk H LS locs cells slots _ hR hsc hL hS hpc hc rfl)

theorem xs_null  : xOKc B xv scr D dA n0 k d p l e R s m args below meth c Q (.aconst_null) := by
  intro C i pc aux ls st σ i' ls' st' σ' H LS locs cells slots hrow hst hR hsc hL hS hc hrc hrs kk
  obtain ⟨hx, hb, hml, hown, hts, hK, hE, hr, hlocks, hname, hl, hRf, hRl, hB⟩ := C
  obtain ⟨hdg, hck, hj⟩ := xrow_parts hrow (fun _ _ _ _ h => by cases h)
  have hpc := xnx hj
  simp only [stp] at hst
  simp only [xpush, Option.some.injEq, Sum.inl.injEq, Prod.mk.injEq] at hst
  obtain ⟨rfl, rfl, rfl, rfl⟩ := hst
  exact lv_null hx hb hdg (kk H LS locs cells slots _ hR hsc hL hS hpc hc rfl)

theorem xs_iload {n : Nat} : xOKc B xv scr D dA n0 k d p l e R s m args below meth c Q (.iload n) := by
  intro C i pc aux ls st σ i' ls' st' σ' H LS locs cells slots hrow hst hR hsc hL hS hc hrc hrs kk
  obtain ⟨hx, hb, hml, hown, hts, hK, hE, hr, hlocks, hname, hl, hRf, hRl, hB⟩ := C
  obtain ⟨hdg, hck, hj⟩ := xrow_parts hrow (fun _ _ _ _ h => by cases h)
  have hpc := xnx hj
  simp only [stp] at hst
  unfold xloadI at hst
  split at hst
  · rename_i x hx0
    simp only [xgo, Option.some.injEq, Sum.inl.injEq, Prod.mk.injEq] at hst
    obtain ⟨rfl, rfl, rfl, rfl⟩ := hst
    have hg := hL.get hx0
    exact lv_iload hx hb hdg hg (kk H LS locs cells slots _ hR hsc hL hS hpc hc rfl)
  · cases hst

theorem xs_iload_n {n : Fin 4} : xOKc B xv scr D dA n0 k d p l e R s m args below meth c Q (.iload_n n) := by
  intro C i pc aux ls st σ i' ls' st' σ' H LS locs cells slots hrow hst hR hsc hL hS hc hrc hrs kk
  obtain ⟨hx, hb, hml, hown, hts, hK, hE, hr, hlocks, hname, hl, hRf, hRl, hB⟩ := C
  obtain ⟨hdg, hck, hj⟩ := xrow_parts hrow (fun _ _ _ _ h => by cases h)
  have hpc := xnx hj
  simp only [stp] at hst
  unfold xloadI at hst
  split at hst
  · rename_i x hx0
    simp only [xgo, Option.some.injEq, Sum.inl.injEq, Prod.mk.injEq] at hst
    obtain ⟨rfl, rfl, rfl, rfl⟩ := hst
    have hg := hL.get hx0
    exact lv_iload_n hx hb hdg rfl hg (kk H LS locs cells slots _ hR hsc hL hS hpc hc rfl)
  · cases hst

theorem xs_lload {n : Nat} : xOKc B xv scr D dA n0 k d p l e R s m args below meth c Q (.lload n) := by
  intro C i pc aux ls st σ i' ls' st' σ' H LS locs cells slots hrow hst hR hsc hL hS hc hrc hrs kk
  obtain ⟨hx, hb, hml, hown, hts, hK, hE, hr, hlocks, hname, hl, hRf, hRl, hB⟩ := C
  obtain ⟨hdg, hck, hj⟩ := xrow_parts hrow (fun _ _ _ _ h => by cases h)
  have hpc := xnx hj
  simp only [stp] at hst
  unfold xloadL at hst
  split at hst
  · rename_i x hx0
    simp only [xgo, Option.some.injEq, Sum.inl.injEq, Prod.mk.injEq] at hst
    obtain ⟨rfl, rfl, rfl, rfl⟩ := hst
    have hg := hL.get hx0
    exact lv_lload hx hb hdg hg (kk H LS locs cells slots _ hR hsc hL hS hpc hc rfl)
  · cases hst

theorem xs_lload_n {n : Fin 4} : xOKc B xv scr D dA n0 k d p l e R s m args below meth c Q (.lload_n n) := by
  intro C i pc aux ls st σ i' ls' st' σ' H LS locs cells slots hrow hst hR hsc hL hS hc hrc hrs kk
  obtain ⟨hx, hb, hml, hown, hts, hK, hE, hr, hlocks, hname, hl, hRf, hRl, hB⟩ := C
  obtain ⟨hdg, hck, hj⟩ := xrow_parts hrow (fun _ _ _ _ h => by cases h)
  have hpc := xnx hj
  simp only [stp] at hst
  unfold xloadL at hst
  split at hst
  · rename_i x hx0
    simp only [xgo, Option.some.injEq, Sum.inl.injEq, Prod.mk.injEq] at hst
    obtain ⟨rfl, rfl, rfl, rfl⟩ := hst
    have hg := hL.get hx0
    exact lv_lload_n hx hb hdg rfl hg (kk H LS locs cells slots _ hR hsc hL hS hpc hc rfl)
  · cases hst

theorem xs_aload {n : Nat} : xOKc B xv scr D dA n0 k d p l e R s m args below meth c Q (.aload n) := by
  intro C i pc aux ls st σ i' ls' st' σ' H LS locs cells slots hrow hst hR hsc hL hS hc hrc hrs kk
  obtain ⟨hx, hb, hml, hown, hts, hK, hE, hr, hlocks, hname, hl, hRf, hRl, hB⟩ := C
  obtain ⟨hdg, hck, hj⟩ := xrow_parts hrow (fun _ _ _ _ h => by cases h)
  have hpc := xnx hj
  simp only [stp] at hst
  unfold xloadA at hst
  split at hst
  · rename_i x hx0
    simp only [xgo, Option.some.injEq, Sum.inl.injEq, Prod.mk.injEq] at hst
    obtain ⟨rfl, rfl, rfl, rfl⟩ := hst
    have hg := hL.get hx0
    rcases xVal_ref (B := B) (a := x) hE.1 with ⟨z, hz⟩ | hz
    · have K := kk H LS locs cells slots _ hR hsc hL hS hpc hc rfl
      simp only [List.map_cons] at K
      rw [hz] at K hg
      exact lv_aload hx hb hdg hg K
    · have K := kk H LS locs cells slots _ hR hsc hL hS hpc hc rfl
      simp only [List.map_cons] at K
      rw [hz] at K hg
      exact lv_aloadN hx hb hdg hg K
  · cases hst

theorem xs_aload_n {n : Fin 4} : xOKc B xv scr D dA n0 k d p l e R s m args below meth c Q (.aload_n n) := by
  intro C i pc aux ls st σ i' ls' st' σ' H LS locs cells slots hrow hst hR hsc hL hS hc hrc hrs kk
  obtain ⟨hx, hb, hml, hown, hts, hK, hE, hr, hlocks, hname, hl, hRf, hRl, hB⟩ := C
  obtain ⟨hdg, hck, hj⟩ := xrow_parts hrow (fun _ _ _ _ h => by cases h)
  have hpc := xnx hj
  simp only [stp] at hst
  unfold xloadA at hst
  split at hst
  · rename_i x hx0
    simp only [xgo, Option.some.injEq, Sum.inl.injEq, Prod.mk.injEq] at hst
    obtain ⟨rfl, rfl, rfl, rfl⟩ := hst
    have hg := hL.get hx0
    rcases xVal_ref (B := B) (a := x) hE.1 with ⟨z, hz⟩ | hz
    · have K := kk H LS locs cells slots _ hR hsc hL hS hpc hc rfl
      simp only [List.map_cons] at K
      rw [hz] at K hg
      exact lv_aload_n hx hb hdg rfl hg K
    · have K := kk H LS locs cells slots _ hR hsc hL hS hpc hc rfl
      simp only [List.map_cons] at K
      rw [hz] at K hg
      exact lv_aload_nN hx hb hdg rfl hg K
  · cases hst

theorem xs_istore {n : Nat} : xOKc B xv scr D dA n0 k d p l e R s m args below meth c Q (.istore n) := by
  intro C i pc aux ls st σ i' ls' st' σ' H LS locs cells slots hrow hst hR hsc hL hS hc hrc hrs kk
  obtain ⟨hx, hb, hml, hown, hts, hK, hE, hr, hlocks, hname, hl, hRf, hRl, hB⟩ := C
  obtain ⟨hdg, hck, hj⟩ := xrow_parts hrow (fun _ _ _ _ h => by cases h)
  have hpc := xnx hj
  simp only [stp] at hst
  unfold xstoreI at hst
  split at hst
  · rename_i x r
    split at hst
    · rename_i hn
      simp only [xgo, Option.some.injEq, Sum.inl.injEq, Prod.mk.injEq] at hst
      obtain ⟨rfl, rfl, rfl, rfl⟩ := hst
      refine lv_istore hx hb hdg hL.1 (by rw [← hL.2]; exact hn) rfl (fun LS' h' => ?_)
      exact kk H LS' locs cells slots _ hR hsc (xLV.set1 (v := .int x) hE.cat hL.2 h') hS hpc hc rfl
    · cases hst
  · cases hst

theorem xs_istore_n {n : Fin 4} : xOKc B xv scr D dA n0 k d p l e R s m args below meth c Q (.istore_n n) := by
  intro C i pc aux ls st σ i' ls' st' σ' H LS locs cells slots hrow hst hR hsc hL hS hc hrc hrs kk
  obtain ⟨hx, hb, hml, hown, hts, hK, hE, hr, hlocks, hname, hl, hRf, hRl, hB⟩ := C
  obtain ⟨hdg, hck, hj⟩ := xrow_parts hrow (fun _ _ _ _ h => by cases h)
  have hpc := xnx hj
  simp only [stp] at hst
  unfold xstoreI at hst
  split at hst
  · rename_i x r
    split at hst
    · rename_i hn
      simp only [xgo, Option.some.injEq, Sum.inl.injEq, Prod.mk.injEq] at hst
      obtain ⟨rfl, rfl, rfl, rfl⟩ := hst
      refine lv_istore_n hx hb hdg rfl hL.1 (by rw [← hL.2]; exact hn) rfl (fun LS' h' => ?_)
      exact kk H LS' locs cells slots _ hR hsc (xLV.set1 (v := .int x) hE.cat hL.2 h') hS hpc hc rfl
    · cases hst
  · cases hst

theorem xs_lstore {n : Nat} : xOKc B xv scr D dA n0 k d p l e R s m args below meth c Q (.lstore n) := by
  intro C i pc aux ls st σ i' ls' st' σ' H LS locs cells slots hrow hst hR hsc hL hS hc hrc hrs kk
  obtain ⟨hx, hb, hml, hown, hts, hK, hE, hr, hlocks, hname, hl, hRf, hRl, hB⟩ := C
  obtain ⟨hdg, hck, hj⟩ := xrow_parts hrow (fun _ _ _ _ h => by cases h)
  have hpc := xnx hj
  simp only [stp] at hst
  unfold xstoreL at hst
  split at hst
  · rename_i x r
    split at hst
    · rename_i hn
      simp only [xgo, Option.some.injEq, Sum.inl.injEq, Prod.mk.injEq] at hst
      obtain ⟨rfl, rfl, rfl, rfl⟩ := hst
      refine lv_lstore hx hb hdg hL.1 (by rw [← hL.2]; exact hn) rfl (fun LS' h' => ?_)
      exact kk H LS' locs cells slots _ hR hsc (xLV.set2 (v := .long x) hE.cat hL.2 h') hS hpc hc rfl
    · cases hst
  · cases hst

theorem xs_lstore_n {n : Fin 4} : xOKc B xv scr D dA n0 k d p l e R s m args below meth c Q (.lstore_n n) := by
  intro C i pc aux ls st σ i' ls' st' σ' H LS locs cells slots hrow hst hR hsc hL hS hc hrc hrs kk
  obtain ⟨hx, hb, hml, hown, hts, hK, hE, hr, hlocks, hname, hl, hRf, hRl, hB⟩ := C
  obtain ⟨hdg, hck, hj⟩ := xrow_parts hrow (fun _ _ _ _ h => by cases h)
  have hpc := xnx hj
  simp only [stp] at hst
  unfold xstoreL at hst
  split at hst
  · rename_i x r
    split at hst
    · rename_i hn
      simp only [xgo, Option.some.injEq, Sum.inl.injEq, Prod.mk.injEq] at hst
      obtain ⟨rfl, rfl, rfl, rfl⟩ := hst
      refine lv_lstore_n hx hb hdg rfl hL.1 (by rw [← hL.2]; exact hn) rfl (fun LS' h' => ?_)
      exact kk H LS' locs cells slots _ hR hsc (xLV.set2 (v := .long x) hE.cat hL.2 h') hS hpc hc rfl
    · cases hst
  · cases hst

theorem xs_astore {n : Nat} : xOKc B xv scr D dA n0 k d p l e R s m args below meth c Q (.astore n) := by
  intro C i pc aux ls st σ i' ls' st' σ' H LS locs cells slots hrow hst hR hsc hL hS hc hrc hrs kk
  obtain ⟨hx, hb, hml, hown, hts, hK, hE, hr, hlocks, hname, hl, hRf, hRl, hB⟩ := C
  obtain ⟨hdg, hck, hj⟩ := xrow_parts hrow (fun _ _ _ _ h => by cases h)
  have hpc := xnx hj
  simp only [stp] at hst
  unfold xstoreA at hst
  split at hst
  · rename_i x r
    split at hst
    · rename_i hn
      simp only [xgo, Option.some.injEq, Sum.inl.injEq, Prod.mk.injEq] at hst
      obtain ⟨rfl, rfl, rfl, rfl⟩ := hst
      have hlt : x < 1000000 := hn.2
      have hv : xVal B xv (.ref x) = .ref (B + x) := by simp only [xVal]; rw [if_pos hlt]
      simp only [List.map_cons, hv]
      refine lv_astore hx hb hdg hL.1 (by rw [← hL.2]; exact hn.1) rfl (fun LS' h' => ?_)
      exact kk H LS' locs cells slots _ hR hsc (xLV.set1 (v := .ref x) hE.cat hL.2 (by rw [hv]; exact h')) hS hpc hc rfl
    · cases hst
  · cases hst

theorem xs_astore_n {n : Fin 4} : xOKc B xv scr D dA n0 k d p l e R s m args below meth c Q (.astore_n n) := by
  intro C i pc aux ls st σ i' ls' st' σ' H LS locs cells slots hrow hst hR hsc hL hS hc hrc hrs kk
  obtain ⟨hx, hb, hml, hown, hts, hK, hE, hr, hlocks, hname, hl, hRf, hRl, hB⟩ := C
  obtain ⟨hdg, hck, hj⟩ := xrow_parts hrow (fun _ _ _ _ h => by cases h)
  have hpc := xnx hj
  simp only [stp] at hst
  unfold xstoreA at hst
  split at hst
  · rename_i x r
    split at hst
    · rename_i hn
      simp only [xgo, Option.some.injEq, Sum.inl.injEq, Prod.mk.injEq] at hst
      obtain ⟨rfl, rfl, rfl, rfl⟩ := hst
      have hlt : x < 1000000 := hn.2
      have hv : xVal B xv (.ref x) = .ref (B + x) := by simp only [xVal]; rw [if_pos hlt]
      simp only [List.map_cons, hv]
      refine lv_astore_n hx hb hdg rfl hL.1 (by rw [← hL.2]; exact hn.1) rfl (fun LS' h' => ?_)
      exact kk H LS' locs cells slots _ hR hsc (xLV.set1 (v := .ref x) hE.cat hL.2 (by rw [hv]; exact h')) hS hpc hc rfl
    · cases hst
  · cases hst

theorem xs_iinc {n : Nat} {z : Int} : xOKc B xv scr D dA n0 k d p l e R s m args below meth c Q (.iinc n z) := by
  intro C i pc aux ls st σ i' ls' st' σ' H LS locs cells slots hrow hst hR hsc hL hS hc hrc hrs kk
  obtain ⟨hx, hb, hml, hown, hts, hK, hE, hr, hlocks, hname, hl, hRf, hRl, hB⟩ := C
  obtain ⟨hdg, hck, hj⟩ := xrow_parts hrow (fun _ _ _ _ h => by cases h)
  have hpc := xnx hj
  simp only [stp] at hst
  split at hst
  · rename_i x hx0
    simp only [xgo, Option.some.injEq, Sum.inl.injEq, Prod.mk.injEq] at hst
    obtain ⟨rfl, rfl, rfl, rfl⟩ := hst
    obtain ⟨q, hq⟩ := List.getElem?_of_mem ((xas_mem (B := B) (xv := xv) ls 0 n (.int x)).mpr ⟨n, .int x, by omega, hx0, rfl⟩)
    have hn : n < ls.length := (List.getElem?_eq_some_iff.mp hx0).1
    refine lv_iinc hx hb hdg hL.1 hq rfl (by rw [← hL.2]; exact hn) rfl (fun LS' h' => ?_)
    exact kk H LS' locs cells slots _ hR hsc (xLV.set1 (v := .int (x + Int32.ofInt z)) hE.cat hL.2 h') hS hpc hc rfl
  · cases hst

theorem xs_iadd  : xOKc B xv scr D dA n0 k d p l e R s m args below meth c Q (.iadd) := by
  intro C i pc aux ls st σ i' ls' st' σ' H LS locs cells slots hrow hst hR hsc hL hS hc hrc hrs kk
  obtain ⟨hx, hb, hml, hown, hts, hK, hE, hr, hlocks, hname, hl, hRf, hRl, hB⟩ := C
  obtain ⟨hdg, hck, hj⟩ := xrow_parts hrow (fun _ _ _ _ h => by cases h)
  have hpc := xnx hj
  simp only [stp] at hst
  unfold xII at hst
  split at hst
  · rename_i y x r
    simp only [xgo, Option.some.injEq, Sum.inl.injEq, Prod.mk.injEq] at hst
    obtain ⟨rfl, rfl, rfl, rfl⟩ := hst
    exact lv_iadd hx hb hdg (kk H LS locs cells slots _ hR hsc hL hS hpc hc rfl)
  · cases hst

theorem xs_isub  : xOKc B xv scr D dA n0 k d p l e R s m args below meth c Q (.isub) := by
  intro C i pc aux ls st σ i' ls' st' σ' H LS locs cells slots hrow hst hR hsc hL hS hc hrc hrs kk
  obtain ⟨hx, hb, hml, hown, hts, hK, hE, hr, hlocks, hname, hl, hRf, hRl, hB⟩ := C
  obtain ⟨hdg, hck, hj⟩ := xrow_parts hrow (fun _ _ _ _ h => by cases h)
  have hpc := xnx hj
  simp only [stp] at hst
  unfold xII at hst
  split at hst
  · rename_i y x r
    simp only [xgo, Option.some.injEq, Sum.inl.injEq, Prod.mk.injEq] at hst
    obtain ⟨rfl, rfl, rfl, rfl⟩ := hst
    exact lv_isub hx hb hdg (kk H LS locs cells slots _ hR hsc hL hS hpc hc rfl)
  · cases hst

theorem xs_imul  : xOKc B xv scr D dA n0 k d p l e R s m args below meth c Q (.imul) := by
  intro C i pc aux ls st σ i' ls' st' σ' H LS locs cells slots hrow hst hR hsc hL hS hc hrc hrs kk
  obtain ⟨hx, hb, hml, hown, hts, hK, hE, hr, hlocks, hname, hl, hRf, hRl, hB⟩ := C
  obtain ⟨hdg, hck, hj⟩ := xrow_parts hrow (fun _ _ _ _ h => by cases h)
  have hpc := xnx hj
  simp only [stp] at hst
  unfold xII at hst
  split at hst
  · rename_i y x r
    simp only [xgo, Option.some.injEq, Sum.inl.injEq, Prod.mk.injEq] at hst
    obtain ⟨rfl, rfl, rfl, rfl⟩ := hst
    exact lv_imul hx hb hdg (kk H LS locs cells slots _ hR hsc hL hS hpc hc rfl)
  · cases hst

theorem xs_iand  : xOKc B xv scr D dA n0 k d p l e R s m args below meth c Q (.iand) := by
  intro C i pc aux ls st σ i' ls' st' σ' H LS locs cells slots hrow hst hR hsc hL hS hc hrc hrs kk
  obtain ⟨hx, hb, hml, hown, hts, hK, hE, hr, hlocks, hname, hl, hRf, hRl, hB⟩ := C
  obtain ⟨hdg, hck, hj⟩ := xrow_parts hrow (fun _ _ _ _ h => by cases h)
  have hpc := xnx hj
  simp only [stp] at hst
  unfold xII at hst
  split at hst
  · rename_i y x r
    simp only [xgo, Option.some.injEq, Sum.inl.injEq, Prod.mk.injEq] at hst
    obtain ⟨rfl, rfl, rfl, rfl⟩ := hst
    exact lv_iand hx hb hdg (kk H LS locs cells slots _ hR hsc hL hS hpc hc rfl)
  · cases hst

theorem xs_ior  : xOKc B xv scr D dA n0 k d p l e R s m args below meth c Q (.ior) := by
  intro C i pc aux ls st σ i' ls' st' σ' H LS locs cells slots hrow hst hR hsc hL hS hc hrc hrs kk
  obtain ⟨hx, hb, hml, hown, hts, hK, hE, hr, hlocks, hname, hl, hRf, hRl, hB⟩ := C
  obtain ⟨hdg, hck, hj⟩ := xrow_parts hrow (fun _ _ _ _ h => by cases h)
  have hpc := xnx hj
  simp only [stp] at hst
  unfold xII at hst
  split at hst
  · rename_i y x r
    simp only [xgo, Option.some.injEq, Sum.inl.injEq, Prod.mk.injEq] at hst
    obtain ⟨rfl, rfl, rfl, rfl⟩ := hst
    exact lv_ior hx hb hdg (kk H LS locs cells slots _ hR hsc hL hS hpc hc rfl)
  · cases hst

theorem xs_ishl  : xOKc B xv scr D dA n0 k d p l e R s m args below meth c Q (.ishl) := by
  intro C i pc aux ls st σ i' ls' st' σ' H LS locs cells slots hrow hst hR hsc hL hS hc hrc hrs kk
  obtain ⟨hx, hb, hml, hown, hts, hK, hE, hr, hlocks, hname, hl, hRf, hRl, hB⟩ := C
  obtain ⟨hdg, hck, hj⟩ := xrow_parts hrow (fun _ _ _ _ h => by cases h)
  have hpc := xnx hj
  simp only [stp] at hst
  unfold xII at hst
  split at hst
  · rename_i y x r
    simp only [xgo, Option.some.injEq, Sum.inl.injEq, Prod.mk.injEq] at hst
    obtain ⟨rfl, rfl, rfl, rfl⟩ := hst
    exact lv_ishl hx hb hdg (kk H LS locs cells slots _ hR hsc hL hS hpc hc rfl)
  · cases hst

theorem xs_ishr  : xOKc B xv scr D dA n0 k d p l e R s m args below meth c Q (.ishr) := by
  intro C i pc aux ls st σ i' ls' st' σ' H LS locs cells slots hrow hst hR hsc hL hS hc hrc hrs kk
  obtain ⟨hx, hb, hml, hown, hts, hK, hE, hr, hlocks, hname, hl, hRf, hRl, hB⟩ := C
  obtain ⟨hdg, hck, hj⟩ := xrow_parts hrow (fun _ _ _ _ h => by cases h)
  have hpc := xnx hj
  simp only [stp] at hst
  unfold xII at hst
  split at hst
  · rename_i y x r
    simp only [xgo, Option.some.injEq, Sum.inl.injEq, Prod.mk.injEq] at hst
    obtain ⟨rfl, rfl, rfl, rfl⟩ := hst
    exact lv_ishr hx hb hdg (kk H LS locs cells slots _ hR hsc hL hS hpc hc rfl)
  · cases hst

theorem xs_iushr  : xOKc B xv scr D dA n0 k d p l e R s m args below meth c Q (.iushr) := by
  intro C i pc aux ls st σ i' ls' st' σ' H LS locs cells slots hrow hst hR hsc hL hS hc hrc hrs kk
  obtain ⟨hx, hb, hml, hown, hts, hK, hE, hr, hlocks, hname, hl, hRf, hRl, hB⟩ := C
  obtain ⟨hdg, hck, hj⟩ := xrow_parts hrow (fun _ _ _ _ h => by cases h)
  have hpc := xnx hj
  simp only [stp] at hst
  unfold xII at hst
  split at hst
  · rename_i y x r
    simp only [xgo, Option.some.injEq, Sum.inl.injEq, Prod.mk.injEq] at hst
    obtain ⟨rfl, rfl, rfl, rfl⟩ := hst
    exact lv_iushr hx hb hdg rfl (kk H LS locs cells slots _ hR hsc hL hS hpc hc rfl)
  · cases hst

theorem xs_ladd  : xOKc B xv scr D dA n0 k d p l e R s m args below meth c Q (.ladd) := by
  intro C i pc aux ls st σ i' ls' st' σ' H LS locs cells slots hrow hst hR hsc hL hS hc hrc hrs kk
  obtain ⟨hx, hb, hml, hown, hts, hK, hE, hr, hlocks, hname, hl, hRf, hRl, hB⟩ := C
  obtain ⟨hdg, hck, hj⟩ := xrow_parts hrow (fun _ _ _ _ h => by cases h)
  have hpc := xnx hj
  simp only [stp] at hst
  unfold xLL at hst
  split at hst
  · rename_i y x r
    simp only [xgo, Option.some.injEq, Sum.inl.injEq, Prod.mk.injEq] at hst
    obtain ⟨rfl, rfl, rfl, rfl⟩ := hst
    exact lv_ladd hx hb hdg (kk H LS locs cells slots _ hR hsc hL hS hpc hc rfl)
  · cases hst

theorem xs_lsub  : xOKc B xv scr D dA n0 k d p l e R s m args below meth c Q (.lsub) := by
  intro C i pc aux ls st σ i' ls' st' σ' H LS locs cells slots hrow hst hR hsc hL hS hc hrc hrs kk
  obtain ⟨hx, hb, hml, hown, hts, hK, hE, hr, hlocks, hname, hl, hRf, hRl, hB⟩ := C
  obtain ⟨hdg, hck, hj⟩ := xrow_parts hrow (fun _ _ _ _ h => by cases h)
  have hpc := xnx hj
  simp only [stp] at hst
  unfold xLL at hst
  split at hst
  · rename_i y x r
    simp only [xgo, Option.some.injEq, Sum.inl.injEq, Prod.mk.injEq] at hst
    obtain ⟨rfl, rfl, rfl, rfl⟩ := hst
    exact lv_lsub hx hb hdg (kk H LS locs cells slots _ hR hsc hL hS hpc hc rfl)
  · cases hst

theorem xs_lmul  : xOKc B xv scr D dA n0 k d p l e R s m args below meth c Q (.lmul) := by
  intro C i pc aux ls st σ i' ls' st' σ' H LS locs cells slots hrow hst hR hsc hL hS hc hrc hrs kk
  obtain ⟨hx, hb, hml, hown, hts, hK, hE, hr, hlocks, hname, hl, hRf, hRl, hB⟩ := C
  obtain ⟨hdg, hck, hj⟩ := xrow_parts hrow (fun _ _ _ _ h => by cases h)
  have hpc := xnx hj
  simp only [stp] at hst
  unfold xLL at hst
  split at hst
  · rename_i y x r
    simp only [xgo, Option.some.injEq, Sum.inl.injEq, Prod.mk.injEq] at hst
    obtain ⟨rfl, rfl, rfl, rfl⟩ := hst
    exact lv_lmul hx hb hdg (kk H LS locs cells slots _ hR hsc hL hS hpc hc rfl)
  · cases hst

theorem xs_land  : xOKc B xv scr D dA n0 k d p l e R s m args below meth c Q (.land) := by
  intro C i pc aux ls st σ i' ls' st' σ' H LS locs cells slots hrow hst hR hsc hL hS hc hrc hrs kk
  obtain ⟨hx, hb, hml, hown, hts, hK, hE, hr, hlocks, hname, hl, hRf, hRl, hB⟩ := C
  obtain ⟨hdg, hck, hj⟩ := xrow_parts hrow (fun _ _ _ _ h => by cases h)
  have hpc := xnx hj
  simp only [stp] at hst
  unfold xLL at hst
  split at hst
  · rename_i y x r
    simp only [xgo, Option.some.injEq, Sum.inl.injEq, Prod.mk.injEq] at hst
    obtain ⟨rfl, rfl, rfl, rfl⟩ := hst
    exact lv_land hx hb hdg (kk H LS locs cells slots _ hR hsc hL hS hpc hc rfl)
  · cases hst

theorem xs_lor  : xOKc B xv scr D dA n0 k d p l e R s m args below meth c Q (.lor) := by
  intro C i pc aux ls st σ i' ls' st' σ' H LS locs cells slots hrow hst hR hsc hL hS hc hrc hrs kk
  obtain ⟨hx, hb, hml, hown, hts, hK, hE, hr, hlocks, hname, hl, hRf, hRl, hB⟩ := C
  obtain ⟨hdg, hck, hj⟩ := xrow_parts hrow (fun _ _ _ _ h => by cases h)
  have hpc := xnx hj
  simp only [stp] at hst
  unfold xLL at hst
  split at hst
  · rename_i y x r
    simp only [xgo, Option.some.injEq, Sum.inl.injEq, Prod.mk.injEq] at hst
    obtain ⟨rfl, rfl, rfl, rfl⟩ := hst
    exact lv_lor hx hb hdg (kk H LS locs cells slots _ hR hsc hL hS hpc hc rfl)
  · cases hst

theorem xs_lxor  : xOKc B xv scr D dA n0 k d p l e R s m args below meth c Q (.lxor) := by
  intro C i pc aux ls st σ i' ls' st' σ' H LS locs cells slots hrow hst hR hsc hL hS hc hrc hrs kk
  obtain ⟨hx, hb, hml, hown, hts, hK, hE, hr, hlocks, hname, hl, hRf, hRl, hB⟩ := C
  obtain ⟨hdg, hck, hj⟩ := xrow_parts hrow (fun _ _ _ _ h => by cases h)
  have hpc := xnx hj
  simp only [stp] at hst
  unfold xLL at hst
  split at hst
  · rename_i y x r
    simp only [xgo, Option.some.injEq, Sum.inl.injEq, Prod.mk.injEq] at hst
    obtain ⟨rfl, rfl, rfl, rfl⟩ := hst
    exact lv_lxor hx hb hdg (kk H LS locs cells slots _ hR hsc hL hS hpc hc rfl)
  · cases hst

theorem xs_lshl  : xOKc B xv scr D dA n0 k d p l e R s m args below meth c Q (.lshl) := by
  intro C i pc aux ls st σ i' ls' st' σ' H LS locs cells slots hrow hst hR hsc hL hS hc hrc hrs kk
  obtain ⟨hx, hb, hml, hown, hts, hK, hE, hr, hlocks, hname, hl, hRf, hRl, hB⟩ := C
  obtain ⟨hdg, hck, hj⟩ := xrow_parts hrow (fun _ _ _ _ h => by cases h)
  have hpc := xnx hj
  simp only [stp] at hst
  unfold xLI at hst
  split at hst
  · rename_i y x r
    simp only [xgo, Option.some.injEq, Sum.inl.injEq, Prod.mk.injEq] at hst
    obtain ⟨rfl, rfl, rfl, rfl⟩ := hst
    exact lv_lshl hx hb hdg rfl (kk H LS locs cells slots _ hR hsc hL hS hpc hc rfl)
  · cases hst

theorem xs_lshr  : xOKc B xv scr D dA n0 k d p l e R s m args below meth c Q (.lshr) := by
  intro C i pc aux ls st σ i' ls' st' σ' H LS locs cells slots hrow hst hR hsc hL hS hc hrc hrs kk
  obtain ⟨hx, hb, hml, hown, hts, hK, hE, hr, hlocks, hname, hl, hRf, hRl, hB⟩ := C
  obtain ⟨hdg, hck, hj⟩ := xrow_parts hrow (fun _ _ _ _ h => by cases h)
  have hpc := xnx hj
  simp only [stp] at hst
  unfold xLI at hst
  split at hst
  · rename_i y x r
    simp only [xgo, Option.some.injEq, Sum.inl.injEq, Prod.mk.injEq] at hst
    obtain ⟨rfl, rfl, rfl, rfl⟩ := hst
    exact lv_lshr hx hb hdg rfl (kk H LS locs cells slots _ hR hsc hL hS hpc hc rfl)
  · cases hst

theorem xs_lushr  : xOKc B xv scr D dA n0 k d p l e R s m args below meth c Q (.lushr) := by
  intro C i pc aux ls st σ i' ls' st' σ' H LS locs cells slots hrow hst hR hsc hL hS hc hrc hrs kk
  obtain ⟨hx, hb, hml, hown, hts, hK, hE, hr, hlocks, hname, hl, hRf, hRl, hB⟩ := C
  obtain ⟨hdg, hck, hj⟩ := xrow_parts hrow (fun _ _ _ _ h => by cases h)
  have hpc := xnx hj
  simp only [stp] at hst
  unfold xLI at hst
  split at hst
  · rename_i y x r
    simp only [xgo, Option.some.injEq, Sum.inl.injEq, Prod.mk.injEq] at hst
    obtain ⟨rfl, rfl, rfl, rfl⟩ := hst
    exact lv_lushr hx hb hdg rfl (kk H LS locs cells slots _ hR hsc hL hS hpc hc rfl)
  · cases hst

theorem xs_idiv  : xOKc B xv scr D dA n0 k d p l e R s m args below meth c Q (.idiv) := by
  intro C i pc aux ls st σ i' ls' st' σ' H LS locs cells slots hrow hst hR hsc hL hS hc hrc hrs kk
  obtain ⟨hx, hb, hml, hown, hts, hK, hE, hr, hlocks, hname, hl, hRf, hRl, hB⟩ := C
  obtain ⟨hdg, hck, hj⟩ := xrow_parts hrow (fun _ _ _ _ h => by cases h)
  have hpc := xnx hj
  simp only [stp] at hst
  split at hst
  · rename_i y x r
    split at hst
    · rename_i hy
      simp only [xgo, Option.some.injEq, Sum.inl.injEq, Prod.mk.injEq] at hst
      obtain ⟨rfl, rfl, rfl, rfl⟩ := hst
      exact lv_idiv hx hb hdg hy (kk H LS locs cells slots _ hR hsc hL hS hpc hc rfl)
    · cases hst
  · cases hst

theorem xs_irem  : xOKc B xv scr D dA n0 k d p l e R s m args below meth c Q (.irem) := by
  intro C i pc aux ls st σ i' ls' st' σ' H LS locs cells slots hrow hst hR hsc hL hS hc hrc hrs kk
  obtain ⟨hx, hb, hml, hown, hts, hK, hE, hr, hlocks, hname, hl, hRf, hRl, hB⟩ := C
  obtain ⟨hdg, hck, hj⟩ := xrow_parts hrow (fun _ _ _ _ h => by cases h)
  have hpc := xnx hj
  simp only [stp] at hst
  split at hst
  · rename_i y x r
    split at hst
    · rename_i hy
      simp only [xgo, Option.some.injEq, Sum.inl.injEq, Prod.mk.injEq] at hst
      obtain ⟨rfl, rfl, rfl, rfl⟩ := hst
      exact lv_irem hx hb hdg hy (kk H LS locs cells slots _ hR hsc hL hS hpc hc rfl)
    · cases hst
  · cases hst

theorem xs_ldiv  : xOKc B xv scr D dA n0 k d p l e R s m args below meth c Q (.ldiv) := by
  intro C i pc aux ls st σ i' ls' st' σ' H LS locs cells slots hrow hst hR hsc hL hS hc hrc hrs kk
  obtain ⟨hx, hb, hml, hown, hts, hK, hE, hr, hlocks, hname, hl, hRf, hRl, hB⟩ := C
  obtain ⟨hdg, hck, hj⟩ := xrow_parts hrow (fun _ _ _ _ h => by cases h)
  have hpc := xnx hj
  simp only [stp] at hst
  split at hst
  · rename_i y x r
    split at hst
    · rename_i hy
      simp only [xgo, Option.some.injEq, Sum.inl.injEq, Prod.mk.injEq] at hst
      obtain ⟨rfl, rfl, rfl, rfl⟩ := hst
      exact lv_ldiv hx hb hdg hy (kk H LS locs cells slots _ hR hsc hL hS hpc hc rfl)
    · cases hst
  · cases hst

theorem xs_lcmp  : xOKc B xv scr D dA n0 k d p l e R s m args below meth c Q (.lcmp) := by
  intro C i pc aux ls st σ i' ls' st' σ' H LS locs cells slots hrow hst hR hsc hL hS hc hrc hrs kk
  obtain ⟨hx, hb, hml, hown, hts, hK, hE, hr, hlocks, hname, hl, hRf, hRl, hB⟩ := C
  obtain ⟨hdg, hck, hj⟩ := xrow_parts hrow (fun _ _ _ _ h => by cases h)
  have hpc := xnx hj
  simp only [stp] at hst
  split at hst
  · simp only [xgo, Option.some.injEq, Sum.inl.injEq, Prod.mk.injEq] at hst
    obtain ⟨rfl, rfl, rfl, rfl⟩ := hst
    exact W.lcmp hx hb hdg (kk H LS locs cells slots _ hR hsc hL hS hpc hc rfl)
  · cases hst

theorem xs_ineg  : xOKc B xv scr D dA n0 k d p l e R s m args below meth c Q (.ineg) := by
  intro C i pc aux ls st σ i' ls' st' σ' H LS locs cells slots hrow hst hR hsc hL hS hc hrc hrs kk
  obtain ⟨hx, hb, hml, hown, hts, hK, hE, hr, hlocks, hname, hl, hRf, hRl, hB⟩ := C
  obtain ⟨hdg, hck, hj⟩ := xrow_parts hrow (fun _ _ _ _ h => by cases h)
  have hpc := xnx hj
  simp only [stp] at hst
  split at hst
  · simp only [xgo, Option.some.injEq, Sum.inl.injEq, Prod.mk.injEq] at hst
    obtain ⟨rfl, rfl, rfl, rfl⟩ := hst
    exact lv_ineg hx hb hdg (kk H LS locs cells slots _ hR hsc hL hS hpc hc rfl)
  · cases hst

theorem xs_i2l  : xOKc B xv scr D dA n0 k d p l e R s m args below meth c Q (.i2l) := by
  intro C i pc aux ls st σ i' ls' st' σ' H LS locs cells slots hrow hst hR hsc hL hS hc hrc hrs kk
  obtain ⟨hx, hb, hml, hown, hts, hK, hE, hr, hlocks, hname, hl, hRf, hRl, hB⟩ := C
  obtain ⟨hdg, hck, hj⟩ := xrow_parts hrow (fun _ _ _ _ h => by cases h)
  have hpc := xnx hj
  simp only [stp] at hst
  split at hst
  · simp only [xgo, Option.some.injEq, Sum.inl.injEq, Prod.mk.injEq] at hst
    obtain ⟨rfl, rfl, rfl, rfl⟩ := hst
    exact lv_i2l hx hb hdg rfl (kk H LS locs cells slots _ hR hsc hL hS hpc hc rfl)
  · cases hst

theorem xs_l2i  : xOKc B xv scr D dA n0 k d p l e R s m args below meth c Q (.l2i) := by
  intro C i pc aux ls st σ i' ls' st' σ' H LS locs cells slots hrow hst hR hsc hL hS hc hrc hrs kk
  obtain ⟨hx, hb, hml, hown, hts, hK, hE, hr, hlocks, hname, hl, hRf, hRl, hB⟩ := C
  obtain ⟨hdg, hck, hj⟩ := xrow_parts hrow (fun _ _ _ _ h => by cases h)
  have hpc := xnx hj
  simp only [stp] at hst
  split at hst
  · simp only [xgo, Option.some.injEq, Sum.inl.injEq, Prod.mk.injEq] at hst
    obtain ⟨rfl, rfl, rfl, rfl⟩ := hst
    exact lv_l2i hx hb hdg rfl (kk H LS locs cells slots _ hR hsc hL hS hpc hc rfl)
  · cases hst

theorem xs_i2b  : xOKc B xv scr D dA n0 k d p l e R s m args below meth c Q (.i2b) := by
  intro C i pc aux ls st σ i' ls' st' σ' H LS locs cells slots hrow hst hR hsc hL hS hc hrc hrs kk
  obtain ⟨hx, hb, hml, hown, hts, hK, hE, hr, hlocks, hname, hl, hRf, hRl, hB⟩ := C
  obtain ⟨hdg, hck, hj⟩ := xrow_parts hrow (fun _ _ _ _ h => by cases h)
  have hpc := xnx hj
  simp only [stp] at hst
  split at hst
  · simp only [xgo, Option.some.injEq, Sum.inl.injEq, Prod.mk.injEq] at hst
    obtain ⟨rfl, rfl, rfl, rfl⟩ := hst
    exact lv_i2b hx hb hdg rfl (kk H LS locs cells slots _ hR hsc hL hS hpc hc rfl)
  · cases hst

theorem xs_i2c  : xOKc B xv scr D dA n0 k d p l e R s m args below meth c Q (.i2c) := by
  intro C i pc aux ls st σ i' ls' st' σ' H LS locs cells slots hrow hst hR hsc hL hS hc hrc hrs kk
  obtain ⟨hx, hb, hml, hown, hts, hK, hE, hr, hlocks, hname, hl, hRf, hRl, hB⟩ := C
  obtain ⟨hdg, hck, hj⟩ := xrow_parts hrow (fun _ _ _ _ h => by cases h)
  have hpc := xnx hj
  simp only [stp] at hst
  split at hst
  · simp only [xgo, Option.some.injEq, Sum.inl.injEq, Prod.mk.injEq] at hst
    obtain ⟨rfl, rfl, rfl, rfl⟩ := hst
    exact lv_i2c hx hb hdg rfl (kk H LS locs cells slots _ hR hsc hL hS hpc hc rfl)
  · cases hst

theorem xs_dup  : xOKc B xv scr D dA n0 k d p l e R s m args below meth c Q (.dup) := by
  intro C i pc aux ls st σ i' ls' st' σ' H LS locs cells slots hrow hst hR hsc hL hS hc hrc hrs kk
  obtain ⟨hx, hb, hml, hown, hts, hK, hE, hr, hlocks, hname, hl, hRf, hRl, hB⟩ := C
  obtain ⟨hdg, hck, hj⟩ := xrow_parts hrow (fun _ _ _ _ h => by cases h)
  have hpc := xnx hj
  simp only [stp] at hst
  split at hst
  · split at hst
    · rename_i hcat
      simp only [xgo, Option.some.injEq, Sum.inl.injEq, Prod.mk.injEq] at hst
      obtain ⟨rfl, rfl, rfl, rfl⟩ := hst
      exact lv_dup hx hb hdg (by rw [xVal_cat hE.cat]; exact hcat) (kk H LS locs cells slots _ hR hsc hL hS hpc hc rfl)
    · cases hst
  · cases hst

theorem xs_pop  : xOKc B xv scr D dA n0 k d p l e R s m args below meth c Q (.pop) := by
  intro C i pc aux ls st σ i' ls' st' σ' H LS locs cells slots hrow hst hR hsc hL hS hc hrc hrs kk
  obtain ⟨hx, hb, hml, hown, hts, hK, hE, hr, hlocks, hname, hl, hRf, hRl, hB⟩ := C
  obtain ⟨hdg, hck, hj⟩ := xrow_parts hrow (fun _ _ _ _ h => by cases h)
  have hpc := xnx hj
  simp only [stp] at hst
  split at hst
  · split at hst
    · rename_i hcat
      simp only [xgo, Option.some.injEq, Sum.inl.injEq, Prod.mk.injEq] at hst
      obtain ⟨rfl, rfl, rfl, rfl⟩ := hst
      exact lv_pop hx hb hdg (by rw [xVal_cat hE.cat]; exact hcat) (kk H LS locs cells slots _ hR hsc hL hS hpc hc rfl)
    · cases hst
  · cases hst

theorem xs_dup2  : xOKc B xv scr D dA n0 k d p l e R s m args below meth c Q (.dup2) := by
  intro C i pc aux ls st σ i' ls' st' σ' H LS locs cells slots hrow hst hR hsc hL hS hc hrc hrs kk
  obtain ⟨hx, hb, hml, hown, hts, hK, hE, hr, hlocks, hname, hl, hRf, hRl, hB⟩ := C
  obtain ⟨hdg, hck, hj⟩ := xrow_parts hrow (fun _ _ _ _ h => by cases h)
  have hpc := xnx hj
  simp only [stp] at hst
  split at hst
  · split at hst
    · rename_i hcat
      simp only [xgo, Option.some.injEq, Sum.inl.injEq, Prod.mk.injEq] at hst
      obtain ⟨rfl, rfl, rfl, rfl⟩ := hst
      exact lv_dup2_11 hx hb hdg (by rw [xVal_cat hE.cat]; exact hcat.1) (by rw [xVal_cat hE.cat]; exact hcat.2) (kk H LS locs cells slots _ hR hsc hL hS hpc hc rfl)
    · cases hst
  · cases hst

theorem xs_goto {z : Int} : xOKc B xv scr D dA n0 k d p l e R s m args below meth c Q (.goto z) := by
  intro C i pc aux ls st σ i' ls' st' σ' H LS locs cells slots hrow hst hR hsc hL hS hc hrc hrs kk
  obtain ⟨hx, hb, hml, hown, hts, hK, hE, hr, hlocks, hname, hl, hRf, hRl, hB⟩ := C
  obtain ⟨hdg, hck, hj⟩ := xrow_parts hrow (fun _ _ _ _ h => by cases h)
  simp only [xjp, Bool.and_eq_true, decide_eq_true_eq] at hj
  simp only [stp] at hst
  simp only [xgo, Option.some.injEq, Sum.inl.injEq, Prod.mk.injEq] at hst
  obtain ⟨rfl, rfl, rfl, rfl⟩ := hst
  split at hj
  · rename_i t ht
    exact lv_goto hx hb hdg (of_decide_eq_true hj) (kk H LS locs cells slots _ hR hsc hL hS ht hc rfl)
  · cases hj

theorem xs_if_eq {z : Int} : xOKc B xv scr D dA n0 k d p l e R s m args below meth c Q (.ifCond .eq z) := by
  intro C i pc aux ls st σ i' ls' st' σ' H LS locs cells slots hrow hst hR hsc hL hS hc hrc hrs kk
  obtain ⟨hx, hb, hml, hown, hts, hK, hE, hr, hlocks, hname, hl, hRf, hRl, hB⟩ := C
  obtain ⟨hdg, hck, hj⟩ := xrow_parts hrow (fun _ _ _ _ h => by cases h)
  simp only [xjp, Bool.and_eq_true, decide_eq_true_eq] at hj
  simp only [stp] at hst
  unfold xIf at hst
  obtain ⟨hj1, hj2⟩ := hj
  split at hj1
  · rename_i t ht
    split at hst
    · rename_i x r
      simp only [xcond, decide_eq_true_eq] at hst
      refine lv_if_eq hx hb hdg (of_decide_eq_true hj1) (fun hcd => ?_) (fun hcd => ?_)
      · rw [if_pos hcd] at hst
        simp only [xgo, Option.some.injEq, Sum.inl.injEq, Prod.mk.injEq] at hst
        obtain ⟨rfl, rfl, rfl, rfl⟩ := hst
        exact kk H LS locs cells slots _ hR hsc hL hS ht hc rfl
      · rw [if_neg hcd] at hst
        simp only [xgo, Option.some.injEq, Sum.inl.injEq, Prod.mk.injEq] at hst
        obtain ⟨rfl, rfl, rfl, rfl⟩ := hst
        exact kk H LS locs cells slots _ hR hsc hL hS hj2 hc rfl
    · cases hst
  · cases hj1

theorem xs_ic_eq {z : Int} : xOKc B xv scr D dA n0 k d p l e R s m args below meth c Q (.if_icmp .eq z) := by
  intro C i pc aux ls st σ i' ls' st' σ' H LS locs cells slots hrow hst hR hsc hL hS hc hrc hrs kk
  obtain ⟨hx, hb, hml, hown, hts, hK, hE, hr, hlocks, hname, hl, hRf, hRl, hB⟩ := C
  obtain ⟨hdg, hck, hj⟩ := xrow_parts hrow (fun _ _ _ _ h => by cases h)
  simp only [xjp, Bool.and_eq_true, decide_eq_true_eq] at hj
  simp only [stp] at hst
  unfold xIc at hst
  obtain ⟨hj1, hj2⟩ := hj
  split at hj1
  · rename_i t ht
    split at hst
    · rename_i y x r
      simp only [xcond, decide_eq_true_eq] at hst
      refine lv_icmp_eq hx hb hdg (of_decide_eq_true hj1) (fun hcd => ?_) (fun hcd => ?_)
      · rw [if_pos hcd] at hst
        simp only [xgo, Option.some.injEq, Sum.inl.injEq, Prod.mk.injEq] at hst
        obtain ⟨rfl, rfl, rfl, rfl⟩ := hst
        exact kk H LS locs cells slots _ hR hsc hL hS ht hc rfl
      · rw [if_neg hcd] at hst
        simp only [xgo, Option.some.injEq, Sum.inl.injEq, Prod.mk.injEq] at hst
        obtain ⟨rfl, rfl, rfl, rfl⟩ := hst
        exact kk H LS locs cells slots _ hR hsc hL hS hj2 hc rfl
    · cases hst
  · cases hj1

theorem xs_if_ne {z : Int} : xOKc B xv scr D dA n0 k d p l e R s m args below meth c Q (.ifCond .ne z) := by
  intro C i pc aux ls st σ i' ls' st' σ' H LS locs cells slots hrow hst hR hsc hL hS hc hrc hrs kk
  obtain ⟨hx, hb, hml, hown, hts, hK, hE, hr, hlocks, hname, hl, hRf, hRl, hB⟩ := C
  obtain ⟨hdg, hck, hj⟩ := xrow_parts hrow (fun _ _ _ _ h => by cases h)
  simp only [xjp, Bool.and_eq_true, decide_eq_true_eq] at hj
  simp only [stp] at hst
  unfold xIf at hst
  obtain ⟨hj1, hj2⟩ := hj
  split at hj1
  · rename_i t ht
    split at hst
    · rename_i x r
      simp only [xcond, decide_eq_true_eq] at hst
      refine lv_if_ne hx hb hdg (of_decide_eq_true hj1) (fun hcd => ?_) (fun hcd => ?_)
      · rw [if_pos hcd] at hst
        simp only [xgo, Option.some.injEq, Sum.inl.injEq, Prod.mk.injEq] at hst
        obtain ⟨rfl, rfl, rfl, rfl⟩ := hst
        exact kk H LS locs cells slots _ hR hsc hL hS ht hc rfl
      · rw [if_neg (fun q => q hcd)] at hst
        simp only [xgo, Option.some.injEq, Sum.inl.injEq, Prod.mk.injEq] at hst
        obtain ⟨rfl, rfl, rfl, rfl⟩ := hst
        exact kk H LS locs cells slots _ hR hsc hL hS hj2 hc rfl
    · cases hst
  · cases hj1

theorem xs_ic_ne {z : Int} : xOKc B xv scr D dA n0 k d p l e R s m args below meth c Q (.if_icmp .ne z) := by
  intro C i pc aux ls st σ i' ls' st' σ' H LS locs cells slots hrow hst hR hsc hL hS hc hrc hrs kk
  obtain ⟨hx, hb, hml, hown, hts, hK, hE, hr, hlocks, hname, hl, hRf, hRl, hB⟩ := C
  obtain ⟨hdg, hck, hj⟩ := xrow_parts hrow (fun _ _ _ _ h => by cases h)
  simp only [xjp, Bool.and_eq_true, decide_eq_true_eq] at hj
  simp only [stp] at hst
  unfold xIc at hst
  obtain ⟨hj1, hj2⟩ := hj
  split at hj1
  · rename_i t ht
    split at hst
    · rename_i y x r
      simp only [xcond, decide_eq_true_eq] at hst
      refine lv_icmp_ne hx hb hdg (of_decide_eq_true hj1) (fun hcd => ?_) (fun hcd => ?_)
      · rw [if_pos hcd] at hst
        simp only [xgo, Option.some.injEq, Sum.inl.injEq, Prod.mk.injEq] at hst
        obtain ⟨rfl, rfl, rfl, rfl⟩ := hst
        exact kk H LS locs cells slots _ hR hsc hL hS ht hc rfl
      · rw [if_neg (fun q => q hcd)] at hst
        simp only [xgo, Option.some.injEq, Sum.inl.injEq, Prod.mk.injEq] at hst
        obtain ⟨rfl, rfl, rfl, rfl⟩ := hst
        exact kk H LS locs cells slots _ hR hsc hL hS hj2 hc rfl
    · cases hst
  · cases hj1

theorem xs_if_lt {z : Int} : xOKc B xv scr D dA n0 k d p l e R s m args below meth c Q (.ifCond .lt z) := by
  intro C i pc aux ls st σ i' ls' st' σ' H LS locs cells slots hrow hst hR hsc hL hS hc hrc hrs kk
  obtain ⟨hx, hb, hml, hown, hts, hK, hE, hr, hlocks, hname, hl, hRf, hRl, hB⟩ := C
  obtain ⟨hdg, hck, hj⟩ := xrow_parts hrow (fun _ _ _ _ h => by cases h)
  simp only [xjp, Bool.and_eq_true, decide_eq_true_eq] at hj
  simp only [stp] at hst
  unfold xIf at hst
  obtain ⟨hj1, hj2⟩ := hj
  split at hj1
  · rename_i t ht
    split at hst
    · rename_i x r
      simp only [xcond, decide_eq_true_eq] at hst
      refine lv_if_lt hx hb hdg (of_decide_eq_true hj1) (fun hcd => ?_) (fun hcd => ?_)
      · rw [if_pos hcd] at hst
        simp only [xgo, Option.some.injEq, Sum.inl.injEq, Prod.mk.injEq] at hst
        obtain ⟨rfl, rfl, rfl, rfl⟩ := hst
        exact kk H LS locs cells slots _ hR hsc hL hS ht hc rfl
      · rw [if_neg hcd] at hst
        simp only [xgo, Option.some.injEq, Sum.inl.injEq, Prod.mk.injEq] at hst
        obtain ⟨rfl, rfl, rfl, rfl⟩ := hst
        exact kk H LS locs cells slots _ hR hsc hL hS hj2 hc rfl
    · cases hst
  · cases hj1

theorem xs_ic_lt {z : Int} : xOKc B xv scr D dA n0 k d p l e R s m args below meth c Q (.if_icmp .lt z) := by
  intro C i pc aux ls st σ i' ls' st' σ' H LS locs cells slots hrow hst hR hsc hL hS hc hrc hrs kk
  obtain ⟨hx, hb, hml, hown, hts, hK, hE, hr, hlocks, hname, hl, hRf, hRl, hB⟩ := C
  obtain ⟨hdg, hck, hj⟩ := xrow_parts hrow (fun _ _ _ _ h => by cases h)
  simp only [xjp, Bool.and_eq_true, decide_eq_true_eq] at hj
  simp only [stp] at hst
  unfold xIc at hst
  obtain ⟨hj1, hj2⟩ := hj
  split at hj1
  · rename_i t ht
    split at hst
    · rename_i y x r
      simp only [xcond, decide_eq_true_eq] at hst
      refine lv_icmp_lt hx hb hdg (of_decide_eq_true hj1) (fun hcd => ?_) (fun hcd => ?_)
      · rw [if_pos hcd] at hst
        simp only [xgo, Option.some.injEq, Sum.inl.injEq, Prod.mk.injEq] at hst
        obtain ⟨rfl, rfl, rfl, rfl⟩ := hst
        exact kk H LS locs cells slots _ hR hsc hL hS ht hc rfl
      · rw [if_neg hcd] at hst
        simp only [xgo, Option.some.injEq, Sum.inl.injEq, Prod.mk.injEq] at hst
        obtain ⟨rfl, rfl, rfl, rfl⟩ := hst
        exact kk H LS locs cells slots _ hR hsc hL hS hj2 hc rfl
    · cases hst
  · cases hj1

theorem xs_if_ge {z : Int} : xOKc B xv scr D dA n0 k d p l e R s m args below meth c Q (.ifCond .ge z) := by
  intro C i pc aux ls st σ i' ls' st' σ' H LS locs cells slots hrow hst hR hsc hL hS hc hrc hrs kk
  obtain ⟨hx, hb, hml, hown, hts, hK, hE, hr, hlocks, hname, hl, hRf, hRl, hB⟩ := C
  obtain ⟨hdg, hck, hj⟩ := xrow_parts hrow (fun _ _ _ _ h => by cases h)
  simp only [xjp, Bool.and_eq_true, decide_eq_true_eq] at hj
  simp only [stp] at hst
  unfold xIf at hst
  obtain ⟨hj1, hj2⟩ := hj
  split at hj1
  · rename_i t ht
    split at hst
    · rename_i x r
      simp only [xcond, decide_eq_true_eq] at hst
      refine lv_if_ge hx hb hdg (of_decide_eq_true hj1) (fun hcd => ?_) (fun hcd => ?_)
      · rw [if_pos hcd] at hst
        simp only [xgo, Option.some.injEq, Sum.inl.injEq, Prod.mk.injEq] at hst
        obtain ⟨rfl, rfl, rfl, rfl⟩ := hst
        exact kk H LS locs cells slots _ hR hsc hL hS ht hc rfl
      · rw [if_neg hcd] at hst
        simp only [xgo, Option.some.injEq, Sum.inl.injEq, Prod.mk.injEq] at hst
        obtain ⟨rfl, rfl, rfl, rfl⟩ := hst
        exact kk H LS locs cells slots _ hR hsc hL hS hj2 hc rfl
    · cases hst
  · cases hj1

theorem xs_ic_ge {z : Int} : xOKc B xv scr D dA n0 k d p l e R s m args below meth c Q (.if_icmp .ge z) := by
  intro C i pc aux ls st σ i' ls' st' σ' H LS locs cells slots hrow hst hR hsc hL hS hc hrc hrs kk
  obtain ⟨hx, hb, hml, hown, hts, hK, hE, hr, hlocks, hname, hl, hRf, hRl, hB⟩ := C
  obtain ⟨hdg, hck, hj⟩ := xrow_parts hrow (fun _ _ _ _ h => by cases h)
  simp only [xjp, Bool.and_eq_true, decide_eq_true_eq] at hj
  simp only [stp] at hst
  unfold xIc at hst
  obtain ⟨hj1, hj2⟩ := hj
  split at hj1
  · rename_i t ht
    split at hst
    · rename_i y x r
      simp only [xcond, decide_eq_true_eq] at hst
      refine lv_icmp_ge hx hb hdg (of_decide_eq_true hj1) (fun hcd => ?_) (fun hcd => ?_)
      · rw [if_pos hcd] at hst
        simp only [xgo, Option.some.injEq, Sum.inl.injEq, Prod.mk.injEq] at hst
        obtain ⟨rfl, rfl, rfl, rfl⟩ := hst
        exact kk H LS locs cells slots _ hR hsc hL hS ht hc rfl
      · rw [if_neg hcd] at hst
        simp only [xgo, Option.some.injEq, Sum.inl.injEq, Prod.mk.injEq] at hst
        obtain ⟨rfl, rfl, rfl, rfl⟩ := hst
        exact kk H LS locs cells slots _ hR hsc hL hS hj2 hc rfl
    · cases hst
  · cases hj1

theorem xs_if_gt {z : Int} : xOKc B xv scr D dA n0 k d p l e R s m args below meth c Q (.ifCond .gt z) := by
  intro C i pc aux ls st σ i' ls' st' σ' H LS locs cells slots hrow hst hR hsc hL hS hc hrc hrs kk
  obtain ⟨hx, hb, hml, hown, hts, hK, hE, hr, hlocks, hname, hl, hRf, hRl, hB⟩ := C
  obtain ⟨hdg, hck, hj⟩ := xrow_parts hrow (fun _ _ _ _ h => by cases h)
  simp only [xjp, Bool.and_eq_true, decide_eq_true_eq] at hj
  simp only [stp] at hst
  unfold xIf at hst
  obtain ⟨hj1, hj2⟩ := hj
  split at hj1
  · rename_i t ht
    split at hst
    · rename_i x r
      simp only [xcond, decide_eq_true_eq] at hst
      refine lv_if_gt hx hb hdg (of_decide_eq_true hj1) (fun hcd => ?_) (fun hcd => ?_)
      · rw [if_pos hcd] at hst
        simp only [xgo, Option.some.injEq, Sum.inl.injEq, Prod.mk.injEq] at hst
        obtain ⟨rfl, rfl, rfl, rfl⟩ := hst
        exact kk H LS locs cells slots _ hR hsc hL hS ht hc rfl
      · rw [if_neg hcd] at hst
        simp only [xgo, Option.some.injEq, Sum.inl.injEq, Prod.mk.injEq] at hst
        obtain ⟨rfl, rfl, rfl, rfl⟩ := hst
        exact kk H LS locs cells slots _ hR hsc hL hS hj2 hc rfl
    · cases hst
  · cases hj1

theorem xs_ic_gt {z : Int} : xOKc B xv scr D dA n0 k d p l e R s m args below meth c Q (.if_icmp .gt z) := by
  intro C i pc aux ls st σ i' ls' st' σ' H LS locs cells slots hrow hst hR hsc hL hS hc hrc hrs kk
  obtain ⟨hx, hb, hml, hown, hts, hK, hE, hr, hlocks, hname, hl, hRf, hRl, hB⟩ := C
  obtain ⟨hdg, hck, hj⟩ := xrow_parts hrow (fun _ _ _ _ h => by cases h)
  simp only [xjp, Bool.and_eq_true, decide_eq_true_eq] at hj
  simp only [stp] at hst
  unfold xIc at hst
  obtain ⟨hj1, hj2⟩ := hj
  split at hj1
  · rename_i t ht
    split at hst
    · rename_i y x r
      simp only [xcond, decide_eq_true_eq] at hst
      refine lv_icmp_gt hx hb hdg (of_decide_eq_true hj1) (fun hcd => ?_) (fun hcd => ?_)
      · rw [if_pos hcd] at hst
        simp only [xgo, Option.some.injEq, Sum.inl.injEq, Prod.mk.injEq] at hst
        obtain ⟨rfl, rfl, rfl, rfl⟩ := hst
        exact kk H LS locs cells slots _ hR hsc hL hS ht hc rfl
      · rw [if_neg hcd] at hst
        simp only [xgo, Option.some.injEq, Sum.inl.injEq, Prod.mk.injEq] at hst
        obtain ⟨rfl, rfl, rfl, rfl⟩ := hst
        exact kk H LS locs cells slots _ hR hsc hL hS hj2 hc rfl
    · cases hst
  · cases hj1

theorem xs_if_le {z : Int} : xOKc B xv scr D dA n0 k d p l e R s m args below meth c Q (.ifCond .le z) := by
  intro C i pc aux ls st σ i' ls' st' σ' H LS locs cells slots hrow hst hR hsc hL hS hc hrc hrs kk
  obtain ⟨hx, hb, hml, hown, hts, hK, hE, hr, hlocks, hname, hl, hRf, hRl, hB⟩ := C
  obtain ⟨hdg, hck, hj⟩ := xrow_parts hrow (fun _ _ _ _ h => by cases h)
  simp only [xjp, Bool.and_eq_true, decide_eq_true_eq] at hj
  simp only [stp] at hst
  unfold xIf at hst
  obtain ⟨hj1, hj2⟩ := hj
  split at hj1
  · rename_i t ht
    split at hst
    · rename_i x r
      simp only [xcond, decide_eq_true_eq] at hst
      refine lv_if_le hx hb hdg (of_decide_eq_true hj1) (fun hcd => ?_) (fun hcd => ?_)
      · rw [if_pos hcd] at hst
        simp only [xgo, Option.some.injEq, Sum.inl.injEq, Prod.mk.injEq] at hst
        obtain ⟨rfl, rfl, rfl, rfl⟩ := hst
        exact kk H LS locs cells slots _ hR hsc hL hS ht hc rfl
      · rw [if_neg hcd] at hst
        simp only [xgo, Option.some.injEq, Sum.inl.injEq, Prod.mk.injEq] at hst
        obtain ⟨rfl, rfl, rfl, rfl⟩ := hst
        exact kk H LS locs cells slots _ hR hsc hL hS hj2 hc rfl
    · cases hst
  · cases hj1

theorem xs_ic_le {z : Int} : xOKc B xv scr D dA n0 k d p l e R s m args below meth c Q (.if_icmp .le z) := by
  intro C i pc aux ls st σ i' ls' st' σ' H LS locs cells slots hrow hst hR hsc hL hS hc hrc hrs kk
  obtain ⟨hx, hb, hml, hown, hts, hK, hE, hr, hlocks, hname, hl, hRf, hRl, hB⟩ := C
  obtain ⟨hdg, hck, hj⟩ := xrow_parts hrow (fun _ _ _ _ h => by cases h)
  simp only [xjp, Bool.and_eq_true, decide_eq_true_eq] at hj
  simp only [stp] at hst
  unfold xIc at hst
  obtain ⟨hj1, hj2⟩ := hj
  split at hj1
  · rename_i t ht
    split at hst
    · rename_i y x r
      simp only [xcond, decide_eq_true_eq] at hst
      refine lv_icmp_le hx hb hdg (of_decide_eq_true hj1) (fun hcd => ?_) (fun hcd => ?_)
      · rw [if_pos hcd] at hst
        simp only [xgo, Option.some.injEq, Sum.inl.injEq, Prod.mk.injEq] at hst
        obtain ⟨rfl, rfl, rfl, rfl⟩ := hst
        exact kk H LS locs cells slots _ hR hsc hL hS ht hc rfl
      · rw [if_neg hcd] at hst
        simp only [xgo, Option.some.injEq, Sum.inl.injEq, Prod.mk.injEq] at hst
        obtain ⟨rfl, rfl, rfl, rfl⟩ := hst
        exact kk H LS locs cells slots _ hR hsc hL hS hj2 hc rfl
    · cases hst
  · cases hj1

theorem xs_ifnull {z : Int} : xOKc B xv scr D dA n0 k d p l e R s m args below meth c Q (.ifnull z) := by
  intro C i pc aux ls st σ i' ls' st' σ' H LS locs cells slots hrow hst hR hsc hL hS hc hrc hrs kk
  obtain ⟨hx, hb, hml, hown, hts, hK, hE, hr, hlocks, hname, hl, hRf, hRl, hB⟩ := C
  obtain ⟨hdg, hck, hj⟩ := xrow_parts hrow (fun _ _ _ _ h => by cases h)
  simp only [xjp, Bool.and_eq_true, decide_eq_true_eq] at hj
  simp only [stp] at hst
  obtain ⟨hj1, hj2⟩ := hj
  split at hj1
  · rename_i t hpt
    split at hst
    · simp only [xgo, Option.some.injEq, Sum.inl.injEq, Prod.mk.injEq] at hst
      obtain ⟨rfl, rfl, rfl, rfl⟩ := hst
      exact lv_ifnullN hx hb hdg (of_decide_eq_true hj1) (kk H LS locs cells slots _ hR hsc hL hS hpt hc rfl)
    · rename_i x r
      split at hst
      · rename_i hx9
        simp only [xgo, Option.some.injEq, Sum.inl.injEq, Prod.mk.injEq] at hst
        obtain ⟨rfl, rfl, rfl, rfl⟩ := hst
        have K := (kk H LS locs cells slots _ hR hsc hL hS hj2 hc rfl)
        simp only [List.map_cons]
        obtain ⟨y, hy⟩ := xrefN hE hx9
        rw [hy]
        exact lv_ifnull hx hb hdg K
      · cases hst
    · cases hst
  · cases hj1

theorem xs_ifnonnull {z : Int} : xOKc B xv scr D dA n0 k d p l e R s m args below meth c Q (.ifnonnull z) := by
  intro C i pc aux ls st σ i' ls' st' σ' H LS locs cells slots hrow hst hR hsc hL hS hc hrc hrs kk
  obtain ⟨hx, hb, hml, hown, hts, hK, hE, hr, hlocks, hname, hl, hRf, hRl, hB⟩ := C
  obtain ⟨hdg, hck, hj⟩ := xrow_parts hrow (fun _ _ _ _ h => by cases h)
  simp only [xjp, Bool.and_eq_true, decide_eq_true_eq] at hj
  simp only [stp] at hst
  obtain ⟨hj1, hj2⟩ := hj
  split at hj1
  · rename_i t hpt
    split at hst
    · simp only [xgo, Option.some.injEq, Sum.inl.injEq, Prod.mk.injEq] at hst
      obtain ⟨rfl, rfl, rfl, rfl⟩ := hst
      exact lv_ifnonnullN hx hb hdg (kk H LS locs cells slots _ hR hsc hL hS hj2 hc rfl)
    · rename_i x r
      split at hst
      · rename_i hx9
        simp only [xgo, Option.some.injEq, Sum.inl.injEq, Prod.mk.injEq] at hst
        obtain ⟨rfl, rfl, rfl, rfl⟩ := hst
        have K := (kk H LS locs cells slots _ hR hsc hL hS hpt hc rfl)
        simp only [List.map_cons]
        obtain ⟨y, hy⟩ := xrefN hE hx9
        rw [hy]
        exact lv_ifnonnull hx hb hdg (of_decide_eq_true hj1) K
      · cases hst
    · cases hst
  · cases hj1
end XT
