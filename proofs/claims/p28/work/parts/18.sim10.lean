/-! ===== calls; the induction ===== -/
theorem xrecv {B : Nat} {xv : Nat → Value} {scr : Nat × (Nat → Int32)} {D : va_G} {dA : Nat → ClassId} {σ : xS} {H : Heap} {s : State} {locs : List Loc} {a cc : Nat} {fs : List Value} (hE : xEx B xv scr s) (hK : va_K D vwCl (xtys dA) s) (hR : xHR B xv D dA σ H) (hS : va_S (xA0 B) s.heap H locs) (h : xRd σ a = some (.inr (cc, fs))) :
    ∃ b : Nat, xVal B xv (.ref a) = .ref b ∧ ∃ cellB : Cell, H[b]? = some cellB ∧ cellB.vm.isStatics = false ∧ cc < 15 ∧ s.vm.findClass (xRXf cc) = some cellB.cls := by
  rcases xRd_cases h with ⟨ha, hh⟩ | ⟨_, h2⟩ | ⟨_, h2⟩ | ⟨z, hz, haz, h2⟩ | ⟨z, _, _, h2⟩ | ⟨z, _, _, h2⟩ | ⟨z, _, _, h2⟩
  · obtain ⟨h9, -, q0, hq0⟩ := hR.obj hh
    obtain ⟨hcl, -⟩ := xcl h9
    obtain ⟨cell, g1, g2, g3⟩ := va_recv hK (xW_P hR) hcl hq0
    exact ⟨_, xVal_in ha, cell, g1, g2, h9, g3⟩
  · cases h2
  · cases h2
  · cases h2
    obtain ⟨adK, adV, had, hvk, hvr⟩ := hE.2.2.2.2.2.1
    obtain ⟨cell, g1, g2, g3, -⟩ := (hvk z hz).1.kept hS.2.1
    exact ⟨adK z, (xVal_str (i := 100 + z) (by omega)).trans (had z hz).1, cell, g1, g2, by omega, g3⟩
  · cases h2
  · cases h2
  · cases h2
theorem xhv (k : Nat) (hk : k < 244) : xcxf k < 15 → xhn k = [] := by
  have h : ∀ k, k < 244 → xcxf k < 15 → xhn k = [] := by decide +kernel
  exact h k hk
theorem xinT {w : Jvm.Cond} (h : w ∈ lw_tbl) (g : goodWord w = true) : w ∈ xTG := List.mem_filter.mpr ⟨List.mem_append_right _ h, g⟩
theorem xno_call {k i : Nat} {ins : Instr} {aux : List Int} {ls : xL} {st : List Value} {σ : xS} {q : Nat × List Value × List Value} (hst : stp k i ins aux ls st σ = some (.inr (.inl q))) (h7 : ∀ n, ins ≠ .invokevirtual n) (h8 : ∀ n, ins ≠ .invokespecial n) (h9 : ∀ n, ins ≠ .invokestatic n) : False := by
  cases ins <;> first | (exact h7 _ rfl) | (exact h8 _ rfl) | (exact h9 _ rfl) | (cases hst; done) | skip
  all_goals simp only [stp, xpush, xloadI, xloadL, xloadA, xstoreI, xstoreL, xstoreA, xII, xLL, xLI, xIf, xIc, xaldI, xaldB, xaldA, xastI, xastB, xastA, xget, xput, xalloc, xgo, xret] at hst
  all_goals (repeat' (split at hst))
  all_goals (cases hst)
section XZ
variable {B : Nat} {xv : Nat → Value} {scr : Nat × (Nat → Int32)} {D : va_G} {dA : Nat → ClassId} {n0 k d : Nat} {p : Program} {l : Launch} {e : Env} {R : Room} {s : State} {m : MethodId} {args : Array Value} {below : List Frame} {meth : Method} {c : Code} {Q : State → Prop}
theorem xrun (T : xOKT) {i pc k' : Nat} {ins : Instr} {aux : List Int} {ls : xL} {st as rest : List Value} {σ : xS} {H : Heap} {LS : Array Slot} {locs : List Loc} {cells slots mc ms d' : Nat} {Qc : Array Value → State → Outcome → State → Prop} {XC : String → State → State → Prop}
    (C : xCx B xv scr D dA n0 k (d' + 1) p l R s m args meth c) (hrow : xrow k i (pc, ins, aux) = true) (hst : stp k i ins aux ls st σ = some (.inr (.inl (k', as, rest)))) (hR : xHR B xv D dA σ H) (hL : xLV B xv LS ls (xmlf k)) (hS : va_S (xA0 B) s.heap H locs) (hc : cells + mc ≤ R.cells) (hsl' : slots + ms ≤ R.slots)
    (hM : k' < 244 → (xargs as).length ≤ xmlf k' → vx_Met l (xynf k') (xws k') (xrm d' mc ms) (xPc B xv scr D dA as σ) Qc XC mc ms (xA0 B)) :
    k' < 244 ∧ xpc k (i + 1) = some (pc + 3) ∧ vx_Run p l e R s m args below meth c H locs cells slots mc ms (F0 m pc LS (st.map (xVal B xv))) (rest.map (xVal B xv)) (Qc (as.map (xVal B xv)).toArray) XC (xA0 B) := by
  obtain ⟨hx, hb, hml, hown, hts, hK, hE, hr, hlocks, hname, hl, hRf, hRl, hB⟩ := C
  have hLn : LS.size = xmlf k := hL.1.1
  have Sf : CallFix p m c (xbyf k) (xmlf k) s args xTG (xowf k) := ⟨hx, hb, hml, hown, hts⟩
  have hpre : ∀ (as' : List Value) (U : State), U.heap = H → s.WarmedH U.vm → as.map (xVal B xv) = as' → xPc B xv scr D dA as σ as'.toArray U := by
    intro as' U hU hW has
    refine ⟨by rw [has], hE.moved hW (fun q hq ha => by rw [hU]; exact hS.2.1 q hq ha), va_K.moved hW.alike hK, by rw [hU]; exact hR⟩
  -- what every call's step says
  have inv : ∀ {kind : Nat}, xcall k' (as.length) kind st σ = some (.inr (.inl (k', as, rest))) → True := fun _ => trivial
  have hcallparts : ∀ {kk na kind : Nat}, xcall kk na kind st σ = some (.inr (.inl (k', as, rest))) → kk = k' ∧ as.length = na ∧ st = as.reverse ++ rest ∧ xcat rest ≤ 8 ∧ (xargs as).length ≤ xmlf k' ∧ (¬ (kind = 1 ∨ kind = 4 ∨ kind = 6) → ∃ (a : Nat) (as0 : List Value) (cc : Nat) (fs : List Value), as = .ref a :: as0 ∧ xRd σ a = some (.inr (cc, fs)) ∧ cc = xcxf k') := by
    intro kk na kind h
    unfold xcall at h
    split at h
    · rename_i hcond
      obtain ⟨g1, g2, g3⟩ := hcond
      split at h
      · rename_i hk
        simp only [Option.some.injEq, Sum.inr.injEq, Sum.inl.injEq, Prod.mk.injEq] at h
        obtain ⟨rfl, rfl, rfl⟩ := h
        refine ⟨rfl, by simp; omega, by simp, g2, g3, fun h => absurd hk h⟩
      · rename_i hk
        split at h
        · rename_i a as0 hta
          split at h
          · rename_i cc fs hrd
            split at h
            · rename_i hcc
              simp only [Option.some.injEq, Sum.inr.injEq, Sum.inl.injEq, Prod.mk.injEq] at h
              obtain ⟨rfl, rfl, rfl⟩ := h
              refine ⟨rfl, ?_, ?_, g2, ?_, fun _ => ⟨a, as0, cc, fs, rfl, hrd, hcc⟩⟩
              · rw [← hta]; simp; omega
              · rw [← hta]; simp
              · rw [← hta]; exact g3
            · cases h
          · cases h
        · cases h
    · cases h
  have hmapst : st = as.reverse ++ rest → st.map (xVal B xv) = (as.map (xVal B xv)).reverse ++ rest.map (xVal B xv) := fun h => by rw [h]; simp
  have hrm1 : ∀ kk, kk < 244 → (xrm d' mc ms).frames + 1 ≤ R.frames ∧ 8 + (xmlf kk + 11) + (xrm d' mc ms).locals ≤ R.locals := by
    intro kk hkk
    obtain ⟨-, i2, -⟩ := xme_parts T hkk
    refine ⟨by show d' + 6 + 1 ≤ R.frames; omega, by show 8 + (xmlf kk + 11) + (60 * d' + 100) ≤ R.locals; omega⟩
  have hroom : ∀ r : List Value, xcat r ≤ 8 → 2 * (F0 m pc LS (st.map (xVal B xv))).monitorRoom + ((r.map (xVal B xv)).map fun v => v.category).sum ≤ 8 := fun r hr => by rw [xcat_map hE.cat]; show 2 * 0 + xcat r ≤ 8; omega
  cases ins with
  | invokevirtual ix =>
    obtain ⟨hdg, hck, hj⟩ := xrow_parts hrow (fun _ _ _ _ h => by cases h)
    have hpc := xnx hj
    simp only [stp] at hst
    unfold xinv at hst
    split at hst
    · rename_i kI na kind pl
      simp only [xck] at hck
      split at hck
      · rename_i h22
        subst h22
        rw [if_neg (by omega), if_neg (by omega), if_pos rfl] at hst
        simp only [xclone, xalloc, xgo] at hst
        repeat' (split at hst)
        all_goals (cases hst)
      · split at hck
        · rename_i h6
          simp only [Bool.and_eq_true, decide_eq_true_eq] at hck
          obtain ⟨⟨⟨hk03, hkd⟩, hpar⟩, hlink⟩ := hck
          rw [if_neg (by omega), if_neg (by omega), if_neg (by omega), if_neg (by omega), if_neg (by omega), if_neg (by omega), if_neg (by omega), if_pos h6] at hst
          obtain ⟨e1, e2, e3, e4, e5, e6⟩ := hcallparts hst
          rw [e1] at hkd hpar hlink
          obtain ⟨a, as0, cc, fs, f1, f2, f3⟩ := e6 (by rcases hk03 with h | h | h | h <;> subst h <;> decide)
          have hk' : k' < 244 := by
            unfold xkd at hkd
            simp only [Bool.and_eq_true, decide_eq_true_eq] at hkd
            exact hkd.1
          obtain ⟨i1, i2, i3, i4, i5, i6, i7⟩ := xme_parts T hk'
          obtain ⟨b, hb1, cellB, g1, g2, gc, g3⟩ := xrecv hE hK hR hS f2
          have hasv : as.map (xVal B xv) = .ref b :: as0.map (xVal B xv) := by rw [f1]; simp [hb1]
          have hstk : (F0 m pc LS (st.map (xVal B xv))).stack = (as0.map (xVal B xv)).reverse ++ .ref b :: rest.map (xVal B xv) := by
            show st.map (xVal B xv) = _
            rw [hmapst e3, hasv]; simp
          have hlen0 : (as0.map (xVal B xv)).length + 1 = na.toNat := by rw [← e2, f1]; simp
          have hn : (parseMethodDescriptor (xynf k').desc).map (fun d => d.parameters.length) = some (as0.map (xVal B xv)).length := by
            cases hp : parseMethodDescriptor (xynf k').desc with
            | none => rw [hp] at hpar; cases hpar
            | some sg =>
              rw [hp] at hpar
              simp only [Option.map_some, Option.some.injEq] at hpar ⊢
              omega
          refine ⟨hk', hpc, ?_⟩
          rw [hasv]
          have hGi : xcw k' ∈ xTG := xcw_in T hk'
          have h0 : xhn k' = [] := xhv k' hk' (by omega)
          have hcw : xcw k' = .code (xynf k') (xbyf k') (xmlf k') (xrtf k') := by unfold xcw; rw [if_pos h0]
          have hns : ∀ sig, parseMethodDescriptor (xynf k').desc = some sig → (as0.map (xVal B xv)).length = sig.parameters.length := fun sg hsg => by rw [hsg] at hn; exact (Option.some.inj hn).symm
          have hPr : ∀ C, s.vm.findClass C = some cellB.cls → PreV s H C b (xPc B xv scr D dA as σ) (as0.map (xVal B xv)) := fun C hC => ⟨xPc_blind, ⟨cellB, g1, g2, hC⟩, fun U hU hW => hpre _ U hU hW hasv⟩
          have up : ∀ (x : MethodName) (C : String), x.cls = xASB → x.name = (xynf k').name → x.desc = (xynf k').desc → s.vm.findClass C = some cellB.cls → (Jvm.Cond.methodLink (xowf k) ix x).before args s = true → Jvm.Cond.sameMethod xASB xASB (xynf k').name (xynf k').desc ∈ lw_tbl → va_Decl s x → (Jvm.Cond.selects C x (xynf k')).before args s = true → (Jvm.Cond.instanceMethod (xynf k')).before args s = true →
              vx_Run p l e R s m args below meth c H locs cells slots mc ms (F0 m pc LS (st.map (xVal B xv))) (rest.map (xVal B xv)) (Qc (Value.ref b :: as0.map (xVal B xv)).toArray) XC (xA0 B) := by
            intro x C hx1 hx2 hx3 hC hlk hsm hdc hsl hin
            have hxx : (⟨xASB, x.name, x.desc⟩ : MethodName) = x := by rw [← hx1]
            have cw : va_CU R s args (xowf k) C xASB ix x (xynf k') (xbyf k') (xmlf k') (xrtf k') (xws k') (xrm d' mc ms) mc ms (as0.map (xVal B xv)).length :=
              ⟨⟨rfl, rfl, (hrm1 k' hk').1, (hrm1 k' hk').2, pay_in hts (xGood hGi), by unfold xws; rw [hcw]; exact List.mem_cons_self⟩, hts _ (by rw [← hcw]; exact hGi), hts _ i1, ⟨by decide, by decide⟩, fun sg hsg => hns sg (by rw [← hx3]; exact hsg), hlk, by rw [hx1, hx2, hx3]; exact hts _ (xinT hsm rfl), by rw [hxx]; exact hdc, hsl, hin⟩
            exact vx_runU Sf (hM hk' e5) cw (hPr C hC) rfl rfl hLn hstk (hroom rest e4) hdg ⟨hc, hsl'⟩
          have hdcl : ∀ z, z < 244 → xhn z = [] → Jvm.Cond.instanceMethod (xynf z) ∈ lw_tbl → va_Decl s (xynf z) := fun z hz hz0 hzi => va_Decl.of (hts _ (xinT hzi rfl)) (hts _ (by have := xcw_in T hz; unfold xcw at this; rw [if_pos hz0] at this; exact this))
          rcases hk03 with h | h | h | h
          · subst h
            have hz : xkd k' 0 = true := hkd
            simp only [xkd, Bool.and_eq_true, decide_eq_true_eq] at hz
            obtain ⟨-, ⟨⟨hin, hsel⟩, hcx⟩, hcn⟩ := hz
            have hcls : s.vm.findClass (xynf k').cls = some cellB.cls := by rw [i3, hcn, ← f3]; exact g3
            rw [if_neg (by decide), if_neg (by decide)] at hlink
            have cw : CallW R s args (xowf k) (xynf k').cls ix (xynf k') (xbyf k') (xmlf k') (xrtf k') (xws k') (xrm d' mc ms) mc ms (as0.map (xVal B xv)).length :=
              ⟨callB_of (ws' := xTG) _ hts (xGood hGi) (by unfold xws; rw [hcw]) rfl rfl (hts _ i1) (hts _ (xwd_in hlink)) ⟨i5.1, i5.2, hn⟩ (hrm1 k' hk'), hts _ (xwd_in hin), hts _ (xwd_in hsel)⟩
            exact vx_runV Sf (hM hk' e5) cw (hPr _ hcls) rfl rfl hLn hstk (hroom rest e4) hdg ⟨hc, hsl'⟩
          · subst h
            have hz : xkd k' 3 = true := hkd
            simp only [xkd, Bool.and_eq_true, decide_eq_true_eq] at hz
            obtain ⟨-, ⟨⟨hin, hsel⟩, hcx⟩, hcn⟩ := hz
            have hcls : s.vm.findClass (xynf k').cls = some cellB.cls := by rw [i3, hcn, ← f3]; exact g3
            rw [if_pos rfl] at hlink
            have cw := va_cnB (own := xowf k) (host := xho k) (index := ix) (y := xynf k') (bytes := xbyf k') (maxL := xmlf k') (ret := xrtf k') (ws := xws k') (ws' := xTG) (rm := xrm d' mc ms) (mc := mc) (ms := ms) (R := R) (as0.map (xVal B xv)).length hts (xGood hGi) (by unfold xws; rw [hcw]) rfl rfl (hE.2.2.2.2.2.2.2.2.1 _ (xwn_in hlink rfl)) (hts _ i1) ⟨i5.1, i5.2, hn⟩ (hrm1 k' hk')
            exact vx_runVN Sf (hM hk' e5) ⟨cw, hts _ (xwd_in hin), hts _ (xwd_in hsel)⟩ (hPr _ hcls) rfl rfl hLn hstk (hroom rest e4) hdg ⟨hc, hsl'⟩
          · subst h
            have hz : xkd k' 7 = true := hkd
            simp only [xkd, Bool.and_eq_true, Bool.or_eq_true, decide_eq_true_eq] at hz
            obtain ⟨-, ⟨⟨⟨hin, hown9⟩, hcx⟩, hsm⟩, hor⟩ := hz
            rw [if_neg (by decide), if_neg (by decide)] at hlink
            have hcls : s.vm.findClass xSB = some cellB.cls := by
              have h14 : cc = 14 := by omega
              rw [h14] at g3
              exact g3
            have hy9 : (xynf k').cls = xASB := i3.trans hown9
            have hin9 := hts _ (xwd_in hin)
            refine up (xynf k') xSB hy9 rfl rfl hcls (hts _ (xwd_in hlink)) hsm (va_Decl.of hin9 (hts _ (by rw [← hcw]; exact hGi))) ?_ hin9
            rcases hor with h | h
            · exact hts _ (xinT h rfl)
            · exact hts _ (List.mem_filter.mpr ⟨List.mem_append_left _ h, rfl⟩)
          · subst h
            have hz : xkd k' 9 = true := hkd
            simp only [xkd, Bool.and_eq_true, decide_eq_true_eq] at hz
            obtain ⟨-, ⟨⟨⟨⟨⟨hin, hown9⟩, hcx⟩, hsm⟩, hsel⟩, hup⟩, h155⟩ := hz
            rw [if_neg (by decide), if_pos rfl] at hlink
            have hcls : s.vm.findClass xSB = some cellB.cls := by
              have h14 : cc = 14 := by omega
              rw [h14] at g3
              exact g3
            refine up (xup k') xSB rfl rfl rfl hcls (hts _ (xwd_in hlink)) hsm ?_ (hts _ (xinT hsel rfl)) (hts _ (xwd_in hin))
            rw [← h155] at hup ⊢
            exact hdcl 155 (by decide) (by decide +kernel) hup
        · have h99 := of_decide_eq_true hck
          subst h99
          simp at hst
    · cases hst
  | invokespecial ix =>
    obtain ⟨hdg, hck, hj⟩ := xrow_parts hrow (fun _ _ _ _ h => by cases h)
    have hpc := xnx hj
    simp only [stp] at hst
    unfold xinv at hst
    split at hst
    · rename_i kI na kind pl
      simp only [xck] at hck
      split at hck
      · rename_i h20
        subst h20
        simp at hst
        split at hst
        · split at hst <;> cases hst
        · cases hst
      · split at hck
        · rename_i h6
          simp only [Bool.and_eq_true, decide_eq_true_eq] at hck
          obtain ⟨⟨⟨hk25, hkd⟩, hpar⟩, hlink⟩ := hck
          rw [if_neg (by omega), if_neg (by omega), if_neg (by omega), if_neg (by omega), if_neg (by omega), if_neg (by omega), if_neg (by omega), if_pos h6] at hst
          obtain ⟨e1, e2, e3, e4, e5, e6⟩ := hcallparts hst
          rw [e1] at hkd hpar hlink
          obtain ⟨a, as0, cc, fs, f1, f2, f3⟩ := e6 (by rcases hk25 with h | h | ⟨h, -⟩ <;> subst h <;> decide)
          have hk' : k' < 244 := by
            unfold xkd at hkd
            simp only [Bool.and_eq_true, decide_eq_true_eq] at hkd
            exact hkd.1
          obtain ⟨i1, i2, i3, i4, i5, i6, i7⟩ := xme_parts T hk'
          obtain ⟨b, hb1, cellB, g1, g2, gc, g3⟩ := xrecv hE hK hR hS f2
          have hasv : as.map (xVal B xv) = .ref b :: as0.map (xVal B xv) := by rw [f1]; simp [hb1]
          have hstk : (F0 m pc LS (st.map (xVal B xv))).stack = (as0.map (xVal B xv)).reverse ++ .ref b :: rest.map (xVal B xv) := by
            show st.map (xVal B xv) = _
            rw [hmapst e3, hasv]; simp
          have hn : (parseMethodDescriptor (xynf k').desc).map (fun d => d.parameters.length) = some (as0.map (xVal B xv)).length := by
            have hlen0 : (as0.map (xVal B xv)).length + 1 = na.toNat := by rw [← e2, f1]; simp
            cases hp : parseMethodDescriptor (xynf k').desc with
            | none => rw [hp] at hpar; cases hpar
            | some sg =>
              rw [hp] at hpar
              simp only [Option.map_some, Option.some.injEq] at hpar ⊢
              omega
          have hPr : PreS s H (xPc B xv scr D dA as σ) (.ref b :: as0.map (xVal B xv)) := ⟨xPc_blind, fun U hU hW => hpre _ U hU hW hasv⟩
          refine ⟨hk', hpc, ?_⟩
          rw [hasv]
          have hGi : xcw k' ∈ xTG := xcw_in T hk'
          have h0 : xhn k' = [] := xhv k' hk' (by omega)
          have hcw0 : xcw k' = .code (xynf k') (xbyf k') (xmlf k') (xrtf k') := by unfold xcw; rw [if_pos h0]
          rcases hk25 with h | h | ⟨h, hsb⟩
          · subst h
            have hz : xkd k' 2 = true := hkd
            simp only [xkd, Bool.and_eq_true, decide_eq_true_eq] at hz
            obtain ⟨-, ⟨⟨hin, hnm⟩, hret⟩, -⟩ := hz
            have hcw : xcw k' = .code (xynf k') (xbyf k') (xmlf k') none := by rw [hcw0, hret]
            rw [if_neg (by decide)] at hlink
            have cw : CallB R s args (xowf k) ix (xynf k') (xbyf k') (xmlf k') none (xws k') (xrm d' mc ms) mc ms (as0.map (xVal B xv)).length :=
              callB_of (ws' := xTG) _ hts (xGood hGi) (by unfold xws; rw [hcw]) rfl rfl (hts _ i1) (hts _ (xwd_in hlink)) ⟨i5.1, i5.2, hn⟩ (hrm1 k' hk')
            exact vx_runI Sf (hM hk' e5) ⟨cw, hnm, hts _ (xwd_in hin)⟩ hPr rfl rfl hLn hstk (hroom rest e4) hdg ⟨hc, hsl'⟩
          · subst h
            have hz : xkd k' 5 = true := hkd
            simp only [xkd, Bool.and_eq_true, decide_eq_true_eq] at hz
            obtain ⟨-, ⟨⟨hin, hnm⟩, hret⟩, -⟩ := hz
            have hcw : xcw k' = .code (xynf k') (xbyf k') (xmlf k') none := by rw [hcw0, hret]
            rw [if_pos rfl] at hlink
            have cw := va_cnB (own := xowf k) (host := xho k) (index := ix) (y := xynf k') (bytes := xbyf k') (maxL := xmlf k') (ret := none) (ws := xws k') (ws' := xTG) (rm := xrm d' mc ms) (mc := mc) (ms := ms) (R := R) (as0.map (xVal B xv)).length hts (xGood hGi) (by unfold xws; rw [hcw]) rfl rfl (hE.2.2.2.2.2.2.2.2.1 _ (xwn_in hlink rfl)) (hts _ i1) ⟨i5.1, i5.2, hn⟩ (hrm1 k' hk')
            exact vx_runIN Sf (hM hk' e5) ⟨cw, hnm, hts _ (xwd_in hin)⟩ hPr rfl rfl hLn hstk (hroom rest e4) hdg ⟨hc, hsl'⟩
          · subst h
            have hz : xkd k' 8 = true := hkd
            simp only [xkd, Bool.and_eq_true, decide_eq_true_eq] at hz
            obtain ⟨-, ⟨⟨⟨⟨⟨hin, hown9⟩, hcx⟩, hsm⟩, hnm⟩, hsup⟩⟩ := hz
            rw [if_neg (by decide)] at hlink
            have hy9 : (xynf k').cls = xASB := i3.trans hown9
            have h14 : cc = 14 := by omega
            have hcls : s.vm.findClass xSB = some cellB.cls := by
              rw [h14] at g3
              exact g3
            have hns : ∀ sig, parseMethodDescriptor (xynf k').desc = some sig → (as0.map (xVal B xv)).length = sig.parameters.length := fun sg hsg => by rw [hsg] at hn; exact (Option.some.inj hn).symm
            have hat := (hK.1 14 _ (xcl (c := 14) (by decide)).1).2
            have cw : va_CS R s args (xowf k) ix (xynf k') (xbyf k') (xmlf k') (xrtf k') (xws k') (xrm d' mc ms) mc ms (as0.map (xVal B xv)).length :=
              ⟨⟨rfl, rfl, (hrm1 k' hk').1, (hrm1 k' hk').2, pay_in hts (xGood hGi), by unfold xws; rw [hcw0]; exact List.mem_cons_self⟩, hts _ (xwd_in hlink), by rw [hy9]; exact hts _ (xinT hsm rfl), by rw [hy9, hsb]; exact hts _ (xinT hsup rfl), hts _ (xwd_in hin), hts _ i1, hts _ (by rw [← hcw0]; exact hGi), hnm, hns⟩
            exact vx_runSU hat Sf (hM hk' e5) cw ⟨xPc_blind, ⟨cellB, g1, g2, hcls⟩, fun U hU hW => hpre _ U hU hW hasv⟩ rfl rfl hLn hstk (hroom rest e4) hdg ⟨hc, hsl'⟩
        · have h99 := of_decide_eq_true hck
          subst h99
          simp at hst
    · cases hst
  | invokestatic ix =>
    obtain ⟨hdg, hck, hj⟩ := xrow_parts hrow (fun _ _ _ _ h => by cases h)
    have hpc := xnx hj
    simp only [stp] at hst
    unfold xinv at hst
    split at hst
    · rename_i kI na kind pl
      by_cases h6 : kind ≤ 6
      · rw [if_neg (by omega), if_neg (by omega), if_neg (by omega), if_neg (by omega), if_neg (by omega), if_neg (by omega), if_neg (by omega), if_pos (by omega)] at hst
        simp only [xck] at hck
        rw [if_neg (by omega), if_neg (by omega), if_neg (by omega), if_neg (by omega), if_neg (by omega), if_pos h6] at hck
        simp only [Bool.and_eq_true, decide_eq_true_eq] at hck
        obtain ⟨⟨⟨⟨hk146, hkd⟩, hpar⟩, hlink⟩, h6t⟩ := hck
        obtain ⟨e1, e2, e3, e4, e5, -⟩ := hcallparts hst
        rw [e1] at hkd hpar hlink h6t
        have hkd2 : k' < 244 ∧ Jvm.Cond.static (xynf k') ∈ xTG := by
          rcases hk146 with h | h | h
          · subst h
            have h0 : xkd k' 1 = true := hkd
            simp only [xkd, Bool.and_eq_true, decide_eq_true_eq] at h0
            exact ⟨h0.1, xwd_in h0.2⟩
          · subst h
            have h0 : xkd k' 4 = true := hkd
            simp only [xkd, Bool.and_eq_true, decide_eq_true_eq] at h0
            exact ⟨h0.1, xwd_in h0.2⟩
          · subst h
            have h0 : xkd k' 6 = true := hkd
            simp only [xkd, Bool.and_eq_true, decide_eq_true_eq] at h0
            exact ⟨h0.1, xwd_in h0.2⟩
        obtain ⟨hk', hstt⟩ := hkd2
        obtain ⟨i1, i2, i3, i4, i5, i6, i7⟩ := xme_parts T hk'
        have hstk : (F0 m pc LS (st.map (xVal B xv))).stack = (as.map (xVal B xv)).reverse ++ rest.map (xVal B xv) := hmapst e3
        have hn : (parseMethodDescriptor (xynf k').desc).map (fun d => d.parameters.length) = some (as.map (xVal B xv)).length := by
          rw [List.length_map, e2]; exact hpar
        have hPr : PreS s H (xPc B xv scr D dA as σ) (as.map (xVal B xv)) := ⟨xPc_blind, fun U hU hW => hpre _ U hU hW rfl⟩
        have hGi : xcw k' ∈ xTG := xcw_in T hk'
        refine ⟨hk', hpc, ?_⟩
        by_cases h0 : xhn k' = []
        · have hcw : xcw k' = .code (xynf k') (xbyf k') (xmlf k') (xrtf k') := by unfold xcw; rw [if_pos h0]
          by_cases h4 : kind = 4
          · rw [if_pos h4] at hlink
            have cw := va_cnB (own := xowf k) (host := xho k) (index := ix) (y := xynf k') (bytes := xbyf k') (maxL := xmlf k') (ret := xrtf k') (ws := xws k') (ws' := xTG) (rm := xrm d' mc ms) (mc := mc) (ms := ms) (R := R) (as.map (xVal B xv)).length hts (xGood hGi) (by unfold xws; rw [hcw]) rfl rfl (hE.2.2.2.2.2.2.2.2.1 _ (xwn_in hlink rfl)) (hts _ i1) ⟨i5.1, i5.2, hn⟩ (hrm1 k' hk')
            exact vx_runSN Sf (hM hk' e5) ⟨cw, hts _ hstt, trivial⟩ hPr rfl rfl hLn hstk (hroom rest e4) hdg ⟨hc, hsl'⟩
          · rw [if_neg h4] at hlink
            have cw : CallB R s args (xowf k) ix (xynf k') (xbyf k') (xmlf k') (xrtf k') (xws k') (xrm d' mc ms) mc ms (as.map (xVal B xv)).length :=
              callB_of (ws' := xTG) _ hts (xGood hGi) (by unfold xws; rw [hcw]) rfl rfl (hts _ i1) (hts _ (xwd_in hlink)) ⟨i5.1, i5.2, hn⟩ (hrm1 k' hk')
            exact vx_runS Sf (hM hk' e5) ⟨cw, hts _ hstt⟩ hPr rfl rfl hLn hstk (hroom rest e4) hdg ⟨hc, hsl'⟩
        · have h6k : kind = 6 := by
            rw [eq_iff_iff] at h6t
            exact h6t.mpr h0
          have h4n : ¬ kind = 4 := by omega
          rw [if_neg h4n] at hlink
          have hcw : xcw k' = .codeWith (xynf k') (xbyf k') (xmlf k') (xrtf k') ((xhn k').map (·.1)) := by unfold xcw; rw [if_neg h0]
          have cw : vx_CSW R s args (xowf k) ix (xynf k') (xbyf k') (xmlf k') (xrtf k') ((xhn k').map (·.1)) (xws k') (xrm d' mc ms) mc ms (as.map (xVal B xv)).length :=
            ⟨⟨rfl, rfl, (hrm1 k' hk').1, (hrm1 k' hk').2, pay_in hts (xGood hGi), by unfold xws; rw [hcw]; exact List.mem_cons_self⟩, hts _ (by rw [← hcw]; exact hGi), hts _ i1, i5, fun sg hsg => by rw [hsg] at hn; exact (Option.some.inj hn).symm, hts _ (xwd_in hlink), hts _ hstt⟩
          exact vx_runSX Sf (hM hk' e5) cw hPr rfl rfl hLn hstk (hroom rest e4) hdg ⟨hc, hsl'⟩
      · exfalso
        by_cases h9 : kind ≤ 9
        · simp only [xck] at hck
          rw [if_neg (by omega), if_neg (by omega), if_neg (by omega), if_neg (by omega), if_neg (by omega), if_neg h6] at hck
          have := of_decide_eq_true hck
          omega
        · repeat' (split at hst)
          all_goals first | (cases hst; done) | skip
          all_goals first | omega | skip
          all_goals (simp only [xcopy, xclone, xalloc, xgo] at hst; repeat' (split at hst))
          all_goals (cases hst)
    · cases hst
  | _ => exact (xno_call hst (by intro _ h; cases h) (by intro _ h; cases h) (by intro _ h; cases h)).elim
end XZ
