/-! ===== steps that read and write cells ===== -/
def xTF (c : Nat) : u_T := match c with
  | 0 => TX0
  | 1 => TX1
  | 2 => TX2
  | 3 => TX3
  | 4 => TX4
  | 5 => TX5
  | 6 => TX6
  | 7 => TX7
  | 8 => TX8
  | 9 => TX9
  | 10 => TX10
  | 11 => TX11
  | 12 => TX12
  | 13 => TJ0
  | _ => TJ4
theorem xTF_eq (c j : Nat) : xTf c j = xTF c j := by
  match c with
  | 0 => rfl
  | 1 => rfl
  | 2 => rfl
  | 3 => rfl
  | 4 => rfl
  | 5 => rfl
  | 6 => rfl
  | 7 => rfl
  | 8 => rfl
  | 9 => rfl
  | 10 => rfl
  | 11 => rfl
  | 12 => rfl
  | 13 => rfl
  | _ + 14 => rfl
def xclok (c : Nat) : Prop := vwCl[c]? = some (xRXf c, xTF c, xnf c) ∧ (∀ w ∈ u_ws (xRXf c) (xTF c) (xnf c), w ∈ xTG) ∧ (∀ j, j < xnf c → parseFieldDescriptor ((xTF c) j).2.2.1 = some (xtyf c j)) ∧ (∀ a, a < xnf c → ∀ b, b < xnf c → a ≠ b → ((xTF c) a).2.1 ≠ ((xTF c) b).2.1) ∧ Jvm.Cond.instantiable (xRXf c) (xnf c) ∈ xTG ∧ Jvm.Cond.initialized (xRXf c) ∈ xTG
theorem xinG {ws : List Jvm.Cond} (h : ∀ w ∈ ws, w ∈ lw_tbl) (g : ws.all goodWord = true) : ∀ w ∈ ws, w ∈ xTG := fun w hw => List.mem_filter.mpr ⟨List.mem_append_right _ (h w hw), List.all_eq_true.mp g w hw⟩
theorem xcl0 : xclok 0 := ⟨rfl, xinG inX0 (by decide +kernel), tyX0_ok, nmX0, xwd_in (j := 110) (by decide +kernel), xwd_in (j := 32) (by decide +kernel)⟩
theorem xcl1 : xclok 1 := ⟨rfl, xinG inX1 (by decide +kernel), tyX1_ok, nmX1, xwd_in (j := 298) (by decide +kernel), xwd_in (j := 38) (by decide +kernel)⟩
theorem xcl2 : xclok 2 := ⟨rfl, xinG inX2 (by decide +kernel), tyX2_ok, nmX2, xwd_in (j := 264) (by decide +kernel), xwd_in (j := 37) (by decide +kernel)⟩
theorem xcl3 : xclok 3 := ⟨rfl, xinG inX3 (by decide +kernel), tyX3_ok, nmX3, xwd_in (j := 220) (by decide +kernel), xwd_in (j := 35) (by decide +kernel)⟩
theorem xcl4 : xclok 4 := ⟨rfl, xinG inX4 (by decide +kernel), tyX4_ok, nmX4, xwd_in (j := 130) (by decide +kernel), xwd_in (j := 33) (by decide +kernel)⟩
theorem xcl5 : xclok 5 := ⟨rfl, xinG inX5 (by decide +kernel), tyX5_ok, nmX5, xwd_in (j := 226) (by decide +kernel), xwd_in (j := 36) (by decide +kernel)⟩
theorem xcl6 : xclok 6 := ⟨rfl, xinG inX6 (by decide +kernel), tyX6_ok, nmX6, xwd_in (j := 72) (by decide +kernel), xwd_in (j := 31) (by decide +kernel)⟩
theorem xcl7 : xclok 7 := ⟨rfl, xinG inX7 (by decide +kernel), tyX7_ok, nmX7, xwd_in (j := 64) (by decide +kernel), xwd_in (j := 30) (by decide +kernel)⟩
theorem xcl8 : xclok 8 := ⟨rfl, xinG inX8 (by decide +kernel), tyX8_ok, nmX8, xwd_in (j := 1586) (by decide +kernel), xwd_in (j := 62) (by decide +kernel)⟩
theorem xcl9 : xclok 9 := ⟨rfl, xinG inX9 (by decide +kernel), tyX9_ok, nmX9, xwd_in (j := 402) (by decide +kernel), xwd_in (j := 41) (by decide +kernel)⟩
theorem xcl10 : xclok 10 := ⟨rfl, xinG inX10 (by decide +kernel), tyX10_ok, nmX10, xwd_in (j := 1320) (by decide +kernel), xwd_in (j := 57) (by decide +kernel)⟩
theorem xcl11 : xclok 11 := ⟨rfl, xinG inX11 (by decide +kernel), tyX11_ok, nmX11, xwd_in (j := 380) (by decide +kernel), xwd_in (j := 39) (by decide +kernel)⟩
theorem xcl12 : xclok 12 := ⟨rfl, xinG inX12 (by decide +kernel), tyX12_ok, nmX12, xwd_in (j := 395) (by decide +kernel), xwd_in (j := 40) (by decide +kernel)⟩
theorem xcl13 : xclok 13 := ⟨rfl, xinG inJ0 (by decide +kernel), tyJ0_ok, nmJ0, xwd_in (j := 1497) (by decide +kernel), xwd_in (j := 53) (by decide +kernel)⟩
theorem xcl14 : xclok 14 := ⟨rfl, xinG inJ4 (by decide +kernel), tyJ4_ok, nmJ4, xwd_in (j := 1346) (by decide +kernel), xwd_in (j := 59) (by decide +kernel)⟩
theorem xcl {c : Nat} (h : c < 15) : xclok c := by
  match c, h with
  | 0, _ => exact xcl0
  | 1, _ => exact xcl1
  | 2, _ => exact xcl2
  | 3, _ => exact xcl3
  | 4, _ => exact xcl4
  | 5, _ => exact xcl5
  | 6, _ => exact xcl6
  | 7, _ => exact xcl7
  | 8, _ => exact xcl8
  | 9, _ => exact xcl9
  | 10, _ => exact xcl10
  | 11, _ => exact xcl11
  | 12, _ => exact xcl12
  | 13, _ => exact xcl13
  | 14, _ => exact xcl14
section XU
variable {B : Nat} {xv : Nat → Value} {scr : Nat × (Nat → Int32)} {D : va_G} {dA : Nat → ClassId} {n0 k d : Nat} {p : Program} {l : Launch} {e : Env} {R : Room} {s : State} {m : MethodId} {args : Array Value} {below : List Frame} {meth : Method} {c : Code} {Q : State → Prop}
theorem xVal_in {a : Nat} (h : a < 1000000) : xVal B xv (.ref a) = .ref (B + a) := by simp only [xVal]; rw [if_pos h]
theorem xVal_out {a : Nat} (h : ¬ a < 1000000) : xVal B xv (.ref a) = xv (a - 1000000) := by simp only [xVal]; rw [if_neg h]
theorem xVal_str {a i : Nat} (h : a = 1000000 + i) : xVal B xv (.ref a) = xv i := by
  subst h
  have h1 : ¬ (1000000 + i < 1000000) := by omega
  have h2 : 1000000 + i - 1000000 = i := by omega
  simp only [xVal]
  rw [if_neg h1, h2]
theorem xHR.obj {σ : xS} {H : Heap} (h : xHR B xv D dA σ H) {a cc : Nat} {fs : List Value} (he : σ.1 a = some (.inr (cc, fs))) : cc < 15 ∧ a < 1000000 ∧ ∃ q : Nat, (xW B xv dA σ)[q]? = some (B + a, .inr (cc, fs.map (xVal B xv))) := by
  obtain ⟨h1, h2⟩ := h.2.2 a _ he
  obtain ⟨r, h3, -⟩ := h2
  have hlt : cc < 15 := (List.getElem?_eq_some_iff.mp h3).1
  exact ⟨hlt, by have := h.2.1; omega, xW_get h1 he⟩
theorem xHR.arr {σ : xS} {H : Heap} (h : xHR B xv D dA σ H) {a : Nat} {x : Nat × vp_A} (he : σ.1 a = some (.inl x)) : a < 1000000 ∧ ∃ q : Nat, (xW B xv dA σ)[q]? = some (B + a, .inl (dA x.1, xArr B x.2)) := by
  obtain ⟨h1, h2⟩ := h.2.2 a _ he
  exact ⟨by have := h.2.1; omega, xW_get h1 he⟩
/-- what the readers find -/
theorem xRd_cases {σ : xS} {a : Nat} {x : xE} (h : xRd σ a = some x) : (a < 1000000 ∧ σ.1 a = some x) ∨ (a = 1000000 ∧ x = .inl (0, (σ.2.2.1, .inl σ.2.2.2))) ∨ (a = 1000001 ∧ x = .inl (0, (6, .inl (fun j => ([5, 1, 1, 0, 1, 1] : List Int32).getD j 0)))) ∨
    (∃ i, i < 26 ∧ a = 1000100 + i ∧ x = .inr (13, [.ref (a + 100), .int 0])) ∨ (∃ z, z < 3 ∧ a = 1000003 + z ∧ x = .inl (9, ((xrows z).length, .inr (.inr (.inr (.inr (fun j => ((xrows z)[j]?).map (fun z => 1000100 + z)))))))) ∨
    (∃ z, z < 2 ∧ a = 1000006 + z ∧ x = .inl (1, (100, .inl (xdig z)))) ∨ (∃ i, i < 26 ∧ a = 1000200 + i ∧ x = .inl (1, ((xstr.getD i []).length, .inl (fun j => (xstr.getD i []).getD j 0)))) := by
  unfold xRd at h
  split at h
  · rename_i ha; exact Or.inl ⟨ha, h⟩
  · unfold xExt at h
    right
    split at h
    · rename_i h1; cases h; exact Or.inl ⟨h1, rfl⟩
    · right
      split at h
      · rename_i h1; cases h; exact Or.inl ⟨h1, rfl⟩
      · right
        split at h
        · rename_i h1; cases h; exact Or.inl ⟨a - 1000100, by omega, by omega, rfl⟩
        · right
          split at h
          · rename_i h1; cases h; exact Or.inl ⟨a - 1000003, by omega, by omega, rfl⟩
          · right
            split at h
            · rename_i h1; cases h; exact Or.inl ⟨a - 1000006, by omega, by omega, rfl⟩
            · right
              split at h
              · rename_i h1; cases h; exact ⟨a - 1000200, by omega, by omega, rfl⟩
              · cases h
theorem xs_getfield {ix : Nat} : xOKc B xv scr D dA n0 k d p l e R s m args below meth c Q (.getfield ix) := by
  intro C i pc aux ls st σ i' ls' st' σ' H LS locs cells slots hrow hst hR hsc hL hS hc hrc hrs kk
  obtain ⟨hx, hb, hml, hown, hts, hK, hE, hr, hlocks, hname, hl, hRf, hRl, hB⟩ := C
  obtain ⟨hdg, hck, hj⟩ := xrow_parts hrow (fun _ _ _ _ h => by cases h)
  have hpc := xnx hj
  simp only [stp] at hst
  split at hst
  · rename_i cI jI nest pl
    unfold xget at hst
    split at hst
    · rename_i a r
      split at hst
      · rename_i cc fs hrd
        split at hst
        · rename_i hcc
          split at hst
          · rename_i v hv
            simp only [xgo, Option.some.injEq, Sum.inl.injEq, Prod.mk.injEq] at hst
            obtain ⟨rfl, rfl, rfl, rfl⟩ := hst
            have K := kk H LS locs cells slots _ hR hsc hL hS hpc hc rfl
            simp only [List.map_cons] at K ⊢
            simp only [xck] at hck
            simp only [Bool.and_eq_true, decide_eq_true_eq] at hck
            obtain ⟨⟨⟨hc0, hjn⟩, h13⟩, hw⟩ := hck
            have hc9 : cI.toNat < 15 := by omega
            rcases xRd_cases hrd with ⟨ha, hh⟩ | ⟨_, h2⟩ | ⟨_, h2⟩ | ⟨z, hz, haz, h2⟩ | ⟨z, _, _, h2⟩ | ⟨z, _, _, h2⟩ | ⟨z, _, _, h2⟩
            · obtain ⟨hlt, -, q0, hq0⟩ := hR.obj hh
              obtain ⟨hcl, hin, -, -, -, -⟩ := xcl hc9
              rw [xVal_in ha]
              rw [hcc] at hq0
              have hv2 : (fs.map (xVal B xv))[jI.toNat]? = some (xVal B xv v) := by rw [List.getElem?_map, hv]; rfl
              by_cases hn : nest = 0
              · rw [if_pos hn] at hw
                rw [xTF_eq] at hw
                exact va_get hx hb hts hin hown hK (xW_P hR) q0 hq0 hcl _ hjn (hts _ (xwd_in hw)) (fun _ h => h) hv2 hdg K
              · rw [if_neg hn] at hw
                rw [xTF_eq] at hw
                exact va_getN hx hb hts hin hown hK (xW_P hR) q0 hq0 hcl _ hjn (va_Nw.use rfl (hE.2.2.2.2.2.2.2.2.1 _ (xwn_in hw rfl))) (fun _ h => h) hv2 hdg K
            · cases h2
            · cases h2
            · cases h2
              have hc13 : cI = 13 := by omega
              subst hc13
              rw [if_pos (h13 rfl)] at hw
              obtain ⟨adK, adV, had, hvk, hvr⟩ := hE.2.2.2.2.2.1
              have hxa : xVal B xv (.ref a) = .ref (adK z) := by
                exact (xVal_str (i := 100 + z) (by omega)).trans (had z hz).1
              rw [hxa]
              match hj9 : jI.toNat, hv with
              | 0, hv =>
                rw [hj9] at hw
                cases hv
                have hxv2 : xVal B xv (.ref (a + 100)) = .ref (adV z) := by
                  exact (xVal_str (i := 200 + z) (by omega)).trans (had z hz).2
                rw [hxv2] at K
                exact va_getX (o := "java/lang/String") (N := 26) (v := fun i => .ref (adV i)) (ad := adK) (i := z) hx hb (fun i hi => (hvk i hi).2.2.1) hz hS hown (hts _ (xwd_in hw)) (fun _ h => h) hdg K
              | 1, hv =>
                rw [hj9] at hw
                cases hv
                exact va_getX (o := "java/lang/String") (N := 26) (v := fun _ => .int 0) (ad := adK) (i := z) hx hb (fun i hi => (hvk i hi).2.1) hz hS hown (hts _ (xwd_in hw)) (fun _ h => h) hdg K
              | _ + 2, hv => cases hv
            · cases h2
            · cases h2
            · cases h2
          · cases hst
        · cases hst
      · cases hst
    · cases hst
  · cases hst
theorem xfitV (hxv : ∀ k, xv k = .null ∨ ∃ a, xv k = .ref a) {ty : FieldType} {v : Value} (h1 : narrow ty v = v) (h2 : fits ty v = true) : narrow ty (xVal B xv v) = xVal B xv v ∧ fits ty (xVal B xv v) = true := by
  cases v with
  | ref a =>
    rcases xVal_ref (B := B) (a := a) hxv with ⟨z, hz⟩ | hz
    · rw [hz]
      cases ty <;> simp_all [narrow, fits]
    · rw [hz]
      cases ty <;> simp_all [narrow, fits]
  | _ => exact ⟨h1, h2⟩
theorem xs_putfield {ix : Nat} : xOKc B xv scr D dA n0 k d p l e R s m args below meth c Q (.putfield ix) := by
  intro C i pc aux ls st σ i' ls' st' σ' H LS locs cells slots hrow hst hR hsc hL hS hc hrc hrs kk
  obtain ⟨hx, hb, hml, hown, hts, hK, hE, hr, hlocks, hname, hl, hRf, hRl, hB⟩ := C
  obtain ⟨hdg, hck, hj⟩ := xrow_parts hrow (fun _ _ _ _ h => by cases h)
  have hpc := xnx hj
  simp only [stp] at hst
  split at hst
  · rename_i cI jI nest pl
    unfold xput at hst
    split at hst
    · rename_i v a r
      split at hst
      · rename_i ha
        split at hst
        · rename_i cc fs hrd
          split at hst
          · rename_i hcond
            obtain ⟨hcc, hlen, hnv, hfv⟩ := hcond
            simp only [xgo, Option.some.injEq, Sum.inl.injEq, Prod.mk.injEq] at hst
            obtain ⟨rfl, rfl, rfl, rfl⟩ := hst
            simp only [List.map_cons]
            simp only [xck] at hck
            obtain ⟨hlt, -, q0, hq0⟩ := hR.obj hrd
            have hal := (hR.2.2 a _ hrd).1
            have hc9 : cI.toNat < 15 := by omega
            simp only [Bool.and_eq_true, decide_eq_true_eq] at hck
            obtain ⟨⟨hc0, hjn⟩, hw⟩ := hck
            obtain ⟨hcl, hin, hty, hnm, -, -⟩ := xcl hc9
            rw [xVal_in ha]
            rw [hcc] at hq0
            obtain ⟨hnv2, hfv2⟩ := xfitV (B := B) hE.1 hnv hfv
            have hset : (fs.map (xVal B xv)).set jI.toNat (xVal B xv v) = (fs.set jI.toNat v).map (xVal B xv) := by rw [List.map_set]
            have hlen2 : jI.toNat < (fs.map (xVal B xv)).length := by rw [List.length_map]; exact hlen
            have go : ∀ (H1 : Heap) (locs1 : List Loc), va_P D vwCl ((xW B xv dA σ).set q0 (B + a, .inr (cI.toNat, (fs.map (xVal B xv)).set jI.toNat (xVal B xv v)))) H1 → va_D (xA0 B) ((xW B xv dA σ).set q0 (B + a, .inr (cI.toNat, (fs.map (xVal B xv)).set jI.toNat (xVal B xv v)))) → va_S (xA0 B) H H1 locs1 → W p l e R s m args below meth c H1 locs1 cells slots Q (F0 m (pc + 3) LS (r.map (xVal B xv))) := by
              intro H1 locs1 hP1 _ hS1
              refine xsize (fun hsz => ?_)
              have hzz : H1.size = H.size := by have := hS1.1; have := hR.1; omega
              rw [hset] at hP1
              exact kk H1 LS locs1 cells slots _ (xW_set (e0 := .inr (cI.toNat, fs)) (e := .inr (cI.toNat, fs.set jI.toNat v)) hR hq0 hal hzz hP1) hsc hL (xS_trans hS hS1) hpc hc rfl
            by_cases hn : nest = 0
            · rw [if_pos hn] at hw
              rw [xTF_eq] at hw
              simp only [Bool.and_eq_true, Bool.or_eq_true, Bool.not_eq_true', decide_eq_true_eq] at hw
              obtain ⟨hw1, hw2⟩ := hw
              rcases hw2 with hf | ⟨hn1, hd1⟩
              · exact va_put hx hb hts hin (xtyf cI.toNat) hty hnm hown hK (xW_P hR) xW_D (xS_self hS) q0 hq0 hcl _ hjn (hts _ (xwd_in hw1)) (fun _ h => h) hf (hty _ hjn) hnv2 hfv2 hlen2 hdg go
              · cases hff : ((xTF cI.toNat) jI.toNat).2.2.2 with
                | false => exact va_put hx hb hts hin (xtyf cI.toNat) hty hnm hown hK (xW_P hR) xW_D (xS_self hS) q0 hq0 hcl _ hjn (hts _ (xwd_in hw1)) (fun _ h => h) hff (hty _ hjn) hnv2 hfv2 hlen2 hdg go
                | true => exact va_putF hx hb hts hin (xtyf cI.toNat) hty hnm hown hK (xW_P hR) xW_D (xS_self hS) q0 hq0 hcl _ hjn (hts _ (xwd_in hw1)) (fun _ h => h) hff (hname.trans hn1) hd1 (hty _ hjn) hnv2 hfv2 hlen2 hdg go
            · rw [if_neg hn] at hw
              rw [xTF_eq] at hw
              simp only [Bool.and_eq_true, Bool.not_eq_true'] at hw
              exact va_putN hx hb hts hin (xtyf cI.toNat) hty hnm hown hK (xW_P hR) xW_D (xS_self hS) q0 hq0 hcl _ hjn (va_Nw.use rfl (hE.2.2.2.2.2.2.2.2.1 _ (xwn_in hw.1 rfl))) (fun _ h => h) hw.2 (hty _ hjn) hnv2 hfv2 hlen2 hdg go
          · cases hst
        · cases hst
      · cases hst
    · cases hst
  · cases hst
end XU
