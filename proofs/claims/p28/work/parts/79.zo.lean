/-! ===== strips by chance: the feeds are told ===== -/
section
variable {d : Nat} {D : yD} {b r s c x : Nat} {σ σ0 τ : xS} {t0 : yT} {l w : List Nat} {R : pR} {cv : Value}
variable {D0 : yD} {k0 : Nat} {E0 : Nat → yD} {s0 s1 : Option yD} {n0 : Nat} {B0 : Nat → Nat} {eo en' : Int32}
theorem l_207d (X0 : pX0 b r σ0 t0) (C : yCI t0 D0 k0 E0 s0 s1 n0 B0 eo en') {N sp lim : Nat} (hN : 1 ≤ N ∧ N ≤ 9) (hsp : sp < N) (hlim : lim < 10000) (hD : yDok D) (hDn : D.n = N) (hDf : D.f = 1) (hfl : D.fl 0 = 9999) (A : pR7 b r σ0 t0 s c x σ l R D cv) (hl : l.length ≤ 20) (P : pRd l (D, (0, (false, false)))) (hr : σ.2.1.1 + 10 < 900000) : ∃ τ l' R' D' fb, (∀ Q, G (d + 20) 207 82 [some (.ref 0), some (.ref b), some (.ref r), some (.ref s), some (.int (yI N)), some (.int (yI sp)), some (.int (yI lim)), none, none, none, none] [] σ Q ↔ G (d + 20) 207 133 [some (.ref 0), some (.ref b), some (.ref r), some (.ref s), some (.int (yI N)), some (.int (yI sp)), some (.int (yI lim)), none, none, none, none] [] τ Q) ∧ (pR7 b r σ0 t0 s (c + 4) (x + 8) τ l' R' D' cv ∧ ((pRd l' (D', (fb, (false, false))) ∧ (l'.length ≤ 40 ∧ fb.testBit 0 = false)) ∧ (yDok D' ∧ (D'.n = N ∧ (D'.f < 6 ∧ (D'.cn = D.cn ∧ (D'.kd = D.kd ∧ pfr D' 0 = pfr D 0))))))) := by
  have hlo := X0.lo
  by_cases h0 : sp = 0
  · subst h0
    have z : yI 0 ≤ 0 := by decide
    refine ⟨σ, l, R, D, 0, fun Q => ?_, ?_, ⟨P, by omega, by decide⟩, hD, hDn, by omega, rfl, rfl, rfl⟩
    · simp only [s_207_82, s_207_83, z, if_true]
    · obtain ⟨⟨a1, a2, a3, a4, a5⟩, a6⟩ := A
      exact ⟨⟨a1, a2, a3, a4.mono (fun _ _ q => q) (by omega) (by omega), a5⟩, a6⟩
  · have z : ¬ yI sp ≤ 0 := fun g => by
      have := (yI_le (m := 0) (by omega) (by decide)).mp g
      omega
    have hnx := A.nx X0
    have hs := A.2.1.1.1
    -- the text
    have A1 : pR7 b r σ0 t0 s (c + 1) (x + 2) (xnew σ (.inl (0, (2, .inl (upd (upd (fun _ => 0) 0 (yI sp)) 1 (yI lim))))) 2) l R D cv := A.new X0
    have q1 : (xnew σ (.inl (0, (2, .inl (upd (upd (fun _ => 0) 0 (yI sp)) 1 (yI lim))))) 2).1 σ.2.1.1 = some (pints 2 (upd (upd (fun _ => 0) 0 (yI sp)) 1 (yI lim))) := pnew_at
    have w5 : ywl 5 = 4 := by decide
    have w24 : ywl 24 = 1 := by decide
    obtain ⟨τ1, k1, A2, F2⟩ := A1.all (d := d) X0 C (i := 5) (by decide) (M := 2) (N := 2) (v := pv2 sp lim) (Nat.le_refl _) (by decide) (fun j hj => by
      rcases (by omega : j = 0 ∨ j = 1) with rfl | rfl
      · exact ⟨rfl, by show sp < 10000; omega⟩
      · exact ⟨rfl, hlim⟩) (nr := σ.2.1.1) ⟨hnx.1, by omega⟩ q1 (by rw [w5]; omega)
    have hl2 := pnm_len (v := pv2 sp lim) 2 0
    obtain ⟨τ2, k2, A3, F3⟩ := A2.semi (d := d) X0 C (i := 24) (by decide) (by rw [w24]; simp only [List.length_append, ptw_len, w5]; omega)
    have e24 : ptw 24 = [59] := by decide
    rw [e24] at A3
    have nx2 : τ2.2.1.1 ≤ σ.2.1.1 + 1 := by
      have h1 := F2.2.2.1.2
      have h2 := F3.2.2.1.2
      have h3 : (xnew σ (.inl (0, (2, .inl (upd (upd (fun _ => 0) 0 (yI sp)) 1 (yI lim))))) 2).2.1.1 = σ.2.1.1 + 1 := rfl
      omega
    have hnx2 := A3.nx X0
    -- the rows
    have S2 := A3.2.1
    have J2 := A3.2.2
    have Z2 := A3.1.Z X0
    have hpnx := pnx_of S2 Z2 (Nat.le_refl _)
    have nf : ¬ pin σ0.2.1.1 τ2.2.1.1 τ2.2.1.1 := fun q => by have := q.2; omega
    have S3 : pS (xnew τ2 (prow 5 2 (fun _ => none)) 2) s R D cv 0 0 := S2.new Z2
    have Z3 := pZ_new (e := prow 5 2 (fun _ => none)) (m := 2) Z2
    have F4 : pF (fun a => a = s) 1 2 τ2 (xnew τ2 (prow 5 2 (fun _ => none)) 2) := pF_new
    have a3 : (xnew τ2 (prow 5 2 (fun _ => none)) 2).1 τ2.2.1.1 = some (prow 5 2 (fun _ => none)) := pnew_at
    have x3 : (xnew τ2 (prow 5 2 (fun _ => none)) 2).2.1.1 = τ2.2.1.1 + 1 := rfl
    obtain ⟨σ3, e3⟩ : ∃ σ3, σ3 = xnew τ2 (prow 5 2 (fun _ => none)) 2 := ⟨_, rfl⟩
    rw [← e3] at S3 Z3 F4 a3 x3
    have S4 : pS (xnew σ3 (.inl (0, (2, .inl (upd (upd (fun _ => 0) 0 0) 1 9999)))) 2) s R D cv 0 0 := S3.new Z3
    have Z4 := pZ_new (e := .inl (0, (2, .inl (upd (upd (fun _ => 0) 0 0) 1 9999)))) (m := 2) Z3
    have F5 := pF_al (e := .inl (0, (2, .inl (upd (upd (fun _ => 0) 0 0) 1 9999)))) (m := 2) F4
    have a4 : (xnew σ3 (.inl (0, (2, .inl (upd (upd (fun _ => 0) 0 0) 1 9999)))) 2).1 τ2.2.1.1 = some (prow 5 2 (fun _ => none)) := by rw [xnew_1, if_neg (by omega), a3]
    have b4 : (xnew σ3 (.inl (0, (2, .inl (upd (upd (fun _ => 0) 0 0) 1 9999)))) 2).1 σ3.2.1.1 = some (.inl (0, (2, .inl (upd (upd (fun _ => 0) 0 0) 1 9999)))) := pnew_at
    have x4 : (xnew σ3 (.inl (0, (2, .inl (upd (upd (fun _ => 0) 0 0) 1 9999)))) 2).2.1.1 = σ3.2.1.1 + 1 := rfl
    obtain ⟨σ4, e4⟩ : ∃ σ4, σ4 = xnew σ3 (.inl (0, (2, .inl (upd (upd (fun _ => 0) 0 0) 1 9999)))) 2 := ⟨_, rfl⟩
    rw [← e4] at S4 Z4 F5 a4 b4 x4
    have S5 : pS (xwr σ4 τ2.2.1.1 (prow 5 2 (va_up (fun _ => none) 0 (some σ3.2.1.1)))) s R D cv 0 0 := S4.wr J2 nf hpnx
    have Z5 := pZ_wr Z4 a4 (e' := prow 5 2 (va_up (fun _ => none) 0 (some σ3.2.1.1)))
    have F6 := pF_hi F5 Z4 a4 (Nat.le_refl _) (e' := prow 5 2 (va_up (fun _ => none) 0 (some σ3.2.1.1)))
    have a5 : (xwr σ4 τ2.2.1.1 (prow 5 2 (va_up (fun _ => none) 0 (some σ3.2.1.1)))).1 τ2.2.1.1 = some (prow 5 2 (va_up (fun _ => none) 0 (some σ3.2.1.1))) := pwr_at
    have b5 : (xwr σ4 τ2.2.1.1 (prow 5 2 (va_up (fun _ => none) 0 (some σ3.2.1.1)))).1 σ3.2.1.1 = some (.inl (0, (2, .inl (upd (upd (fun _ => 0) 0 0) 1 9999)))) := by rw [xwr_1, if_neg (by omega), b4]
    have x5 : (xwr σ4 τ2.2.1.1 (prow 5 2 (va_up (fun _ => none) 0 (some σ3.2.1.1)))).2.1.1 = σ4.2.1.1 := rfl
    obtain ⟨σ5, e5⟩ : ∃ σ5, σ5 = xwr σ4 τ2.2.1.1 (prow 5 2 (va_up (fun _ => none) 0 (some σ3.2.1.1))) := ⟨_, rfl⟩
    rw [← e5] at S5 Z5 F6 a5 b5 x5
    have S6 : pS (xnew σ5 (.inl (0, (2, .inl (upd (upd (fun _ => 0) 0 (yI sp)) 1 (yI lim))))) 2) s R D cv 0 0 := S5.new Z5
    have Z6 := pZ_new (e := .inl (0, (2, .inl (upd (upd (fun _ => 0) 0 (yI sp)) 1 (yI lim))))) (m := 2) Z5
    have F7 := pF_al (e := .inl (0, (2, .inl (upd (upd (fun _ => 0) 0 (yI sp)) 1 (yI lim))))) (m := 2) F6
    have a6 : (xnew σ5 (.inl (0, (2, .inl (upd (upd (fun _ => 0) 0 (yI sp)) 1 (yI lim))))) 2).1 τ2.2.1.1 = some (prow 5 2 (va_up (fun _ => none) 0 (some σ3.2.1.1))) := by rw [xnew_1, if_neg (by omega), a5]
    have b6 : (xnew σ5 (.inl (0, (2, .inl (upd (upd (fun _ => 0) 0 (yI sp)) 1 (yI lim))))) 2).1 σ3.2.1.1 = some (.inl (0, (2, .inl (upd (upd (fun _ => 0) 0 0) 1 9999)))) := by rw [xnew_1, if_neg (by omega), b5]
    have d6 : (xnew σ5 (.inl (0, (2, .inl (upd (upd (fun _ => 0) 0 (yI sp)) 1 (yI lim))))) 2).1 σ5.2.1.1 = some (.inl (0, (2, .inl (upd (upd (fun _ => 0) 0 (yI sp)) 1 (yI lim))))) := pnew_at
    have x6 : (xnew σ5 (.inl (0, (2, .inl (upd (upd (fun _ => 0) 0 (yI sp)) 1 (yI lim))))) 2).2.1.1 = σ5.2.1.1 + 1 := rfl
    obtain ⟨σ6, e6⟩ : ∃ σ6, σ6 = xnew σ5 (.inl (0, (2, .inl (upd (upd (fun _ => 0) 0 (yI sp)) 1 (yI lim))))) 2 := ⟨_, rfl⟩
    rw [← e6] at S6 Z6 F7 a6 b6 d6 x6
    have S7 : pS (xwr σ6 τ2.2.1.1 (prow 5 2 (va_up (va_up (fun _ => none) 0 (some σ3.2.1.1)) 1 (some σ5.2.1.1)))) s R D cv 0 0 := S6.wr J2 nf hpnx
    have Z7 := pZ_wr Z6 a6 (e' := prow 5 2 (va_up (va_up (fun _ => none) 0 (some σ3.2.1.1)) 1 (some σ5.2.1.1)))
    have F8 := pF_hi F7 Z6 a6 (Nat.le_refl _) (e' := prow 5 2 (va_up (va_up (fun _ => none) 0 (some σ3.2.1.1)) 1 (some σ5.2.1.1)))
    have a7 : (xwr σ6 τ2.2.1.1 (prow 5 2 (va_up (va_up (fun _ => none) 0 (some σ3.2.1.1)) 1 (some σ5.2.1.1)))).1 τ2.2.1.1 = some (prow 5 2 (va_up (va_up (fun _ => none) 0 (some σ3.2.1.1)) 1 (some σ5.2.1.1))) := pwr_at
    have b7 : (xwr σ6 τ2.2.1.1 (prow 5 2 (va_up (va_up (fun _ => none) 0 (some σ3.2.1.1)) 1 (some σ5.2.1.1)))).1 σ3.2.1.1 = some (.inl (0, (2, .inl (upd (upd (fun _ => 0) 0 0) 1 9999)))) := by rw [xwr_1, if_neg (by omega), b6]
    have d7 : (xwr σ6 τ2.2.1.1 (prow 5 2 (va_up (va_up (fun _ => none) 0 (some σ3.2.1.1)) 1 (some σ5.2.1.1)))).1 σ5.2.1.1 = some (.inl (0, (2, .inl (upd (upd (fun _ => 0) 0 (yI sp)) 1 (yI lim))))) := by rw [xwr_1, if_neg (by omega), d6]
    have x7 : (xwr σ6 τ2.2.1.1 (prow 5 2 (va_up (va_up (fun _ => none) 0 (some σ3.2.1.1)) 1 (some σ5.2.1.1)))).2.1.1 = σ6.2.1.1 := rfl
    obtain ⟨σ7, e7⟩ : ∃ σ7, σ7 = xwr σ6 τ2.2.1.1 (prow 5 2 (va_up (va_up (fun _ => none) 0 (some σ3.2.1.1)) 1 (some σ5.2.1.1))) := ⟨_, rfl⟩
    rw [← e7] at S7 Z7 F8 a7 b7 d7 x7
    -- the data
    have hnof : ynof D sp := fun g hg => by
      have : g = 0 := by omega
      subst this
      rw [hD.fp0]
      exact fun q => h0 q.symm
    obtain ⟨⟨j1, j2⟩, -⟩ := yfJ_ok hD h0 hnof
    have hj : yfJ D sp = 1 := by omega
    have hD' : yDok (yaddf D sp lim) := yaddf_ok hD (by omega) hlim (fun _ => ⟨hnof, by omega⟩)
    have eD : yaddf D sp lim = D.sfe 2 (yinsN D.fp 1 sp) (yinsI D.fl 1 (yI lim)) := by
      unfold yaddf
      rw [if_neg h0, hj, hDf]
    obtain ⟨E, hE⟩ : ∃ E, E = yaddf D sp lim := ⟨_, rfl⟩
    rw [← hE] at hD' eD
    have e1 : E.n = D.n := by rw [eD]; rfl
    have e2 : E.f = 2 := by rw [eD]; rfl
    have ep : E.fp = yinsN D.fp 1 sp := by rw [eD]; rfl
    have ef : E.fl = yinsI D.fl 1 (yI lim) := by rw [eD]; rfl
    have hs2 := S2.1.2
    have S8 := S7.feeds (D' := E) (FR := τ2.2.1.1) (fg := fun q => if q = 0 then σ3.2.1.1 else σ5.2.1.1) (g := va_up (va_up (fun _ => none) 0 (some σ3.2.1.1)) 1 (some σ5.2.1.1)) e1 (fun q => by rw [eD]; exact ⟨rfl, rfl, rfl, rfl, rfl, rfl, rfl, rfl, rfl, rfl, rfl⟩) (by rw [eD]; exact ⟨⟨rfl, rfl⟩, rfl, rfl⟩) (by omega) (by rw [e2]; exact a7) (fun q hq => by
      rcases (by omega : q = 0 ∨ q = 1) with rfl | rfl <;> rfl) (fun q hq => by
      rcases (by omega : q = 0 ∨ q = 1) with rfl | rfl
      · refine ⟨by show σ3.2.1.1 < 1000000; omega, _, b7, ?_, ?_⟩
        · rw [ep]
          show (0 : Int32) = yI (D.fp 0)
          rw [hD.fp0]
          rfl
        · rw [ef]
          exact hfl.symm
      · refine ⟨by show σ5.2.1.1 < 1000000; omega, _, d7, ?_, ?_⟩
        · rw [ep]
          rfl
        · rw [ef]
          rfl)
    have F9 : pF (fun a => a = s) 3 6 τ2 (xwr σ7 s (.inr (12, [.ref R.lr, .int D.un, .int D.lv, .int D.sh, .int D.ac, .ref τ2.2.1.1, cv, .int 0, .int 0]))) := by
      have nx := F8.2.2.1.1
      have hsl := pZ_lt Z2 hs2
      exact (pF.trans F8 (pF_wr (P := fun a => a = s) (c := 0) (s := 0) (σ := σ7) (a := s) (e := .inr (12, [.ref R.lr, .int D.un, .int D.lv, .int D.sh, .int D.ac, .ref τ2.2.1.1, cv, .int 0, .int 0])) (by omega) rfl) (P' := fun a => a = s) (fun _ _ q => q.elim id id)).mono (fun _ _ q => q) (by omega) (by omega)
    have ch9 : pch (xwr σ7 s (.inr (12, [.ref R.lr, .int D.un, .int D.lv, .int D.sh, .int D.ac, .ref τ2.2.1.1, cv, .int 0, .int 0]))) r := pch_keep A3.1.2.2.1 Z2 F9 (by have := J2.1.1; omega)
    have X9 := A3.1.law X0 F9 (fun a q => Or.inl (by have := J2.1.1; have q' : a = s := q; omega)) ch9
    refine ⟨_, _, _, E, 2 ^ sp, fun Q => ?_, ⟨X9, S8, ?_⟩, ⟨?_, ?_, ?_⟩, hD', by omega, by omega, by rw [eD]; rfl, by rw [eD]; rfl, by rw [eD]; rfl⟩
    · have n3 : ¬ (2 : Int32) < 0 := by decide
      have n4 : (2 : Nat) ≤ 100000 := by decide
      have c2 : (2 : Int32).toNatClampNeg = 2 := rfl
      have r6 : σ.2.1.1 < 900000 := by omega
      have r6' : σ.2.1.1 < 1000000 := by omega
      have r7 : τ2.2.1.1 < 900000 := by omega
      have r7' : τ2.2.1.1 < 1000000 := by omega
      have r3 : σ3.2.1.1 < 900000 := by omega
      have r3' : σ3.2.1.1 < 1000000 := by omega
      have r5 : σ5.2.1.1 < 900000 := by omega
      have r5' : σ5.2.1.1 < 1000000 := by omega
      have k1' : Ra (d + 19) 205 [.ref 0, .ref b, .ref 1000105, .int 2, .ref σ.2.1.1] (xnew σ (.inl (0, (2, .inl (upd (upd (fun _ => 0) 0 (yI sp)) 1 (yI lim))))) 2) (.inl none) τ1 := k1
      have k2' : Ra (d + 19) 182 [.ref 0, .ref b, .ref 1000124] τ1 (.inl none) τ2 := k2
      have o7 := S7.1.2
      simp only [s_207_82, s_207_83, s_207_84, s_207_85, s_207_86, s_207_87, s_207_88, s_207_89, s_207_90, s_207_90i, s_207_91, s_207_92, s_207_93, s_207_94, s_207_94i, s_207_95, s_207_96, s_207_97, s_207_98, s_207_99, s_207_100, s_207_101, s_207_102, s_207_103, s_207_104, s_207_105, z, n3, n4, c2, r6, r6', r7, yix2_0, yix2_1, ycl_0, ycl_1, pnew_at, pwr_nw, k1' _, k2' _, not_false_eq_true, if_false, hgf_s, hsel_0, hsel_1, hsel_2, hsel_3, hsel_4, hsel_5, hsel_6, hsel_7, hsel_8, hset_0, hset_1, hset_2, hset_3, hset_4, hset_5, hset_6, hset_7, hset_8, hpf_s, hcl_s, hai_s, hpi_0, hpi_1, hln_0, hln_1, List.length_cons, List.length_nil, xwr_1, xwr_2, xnew_1, xnew_n, xnew_s, xnew_z, Nat.reduceLT, ite_true, and_self, hp_8_0, hp_8_1, hn_8_1, hp_8_2, hn_8_2, hp_9_0, hp_9_1, hp_9_2, hp_9_3, hp_9_4, hp_9_5, hn_9_5, hp_9_6, hn_9_6, hp_9_7, hn_9_7, hp_10_0, hp_10_1, hp_10_2, hn_10_2, hp_10_3, hn_10_3, hp_11_0, hp_12_0, hn_12_0, hp_12_1, hp_12_2, hp_12_3, hp_12_4, hp_12_5, hn_12_5, hp_12_6, hn_12_6, hp_12_7, hp_12_8, hp_13_0, hn_13_0, hp_13_1, hp_13_2, hp_13_3, hp_14_0, hn_14_0, hp_14_1, hp_14_2, hp_14_3, xdef_8, xdef_9, xdef_10, xdef_11, xdef_12, xdef_13, xdef_14, Gk_v, Gk_n, xcat_nil, xcat_i, xcat_r, xcat_l, xcat_d, Nat.zero_le, Nat.reduceAdd, Nat.reduceLeDiff, true_and, and_true, ykl_i, ykl_r, ykl_n, ykl_l]
      have e3' : xnew τ2 (.inl (5, (2, .inr (.inr (.inr (.inr (fun _ => none))))))) 2 = σ3 := e3.symm
      rw [e3']
      simp only [s_207_106, s_207_106i, s_207_107, s_207_108, s_207_109, s_207_110, s_207_110i, s_207_111, s_207_112, s_207_113, s_207_114, s_207_114i, s_207_115, s_207_116, s_207_117, n3, n4, c2, r3, r3', yix2_0, yix2_1, ycl_0, ycl_1, pnew_at, pwr_nw, not_false_eq_true, hgf_s, hsel_0, hsel_1, hsel_2, hsel_3, hsel_4, hsel_5, hsel_6, hsel_7, hsel_8, hset_0, hset_1, hset_2, hset_3, hset_4, hset_5, hset_6, hset_7, hset_8, hpf_s, hcl_s, hai_s, hpi_0, hpi_1, hln_0, hln_1, List.length_cons, List.length_nil, xwr_1, xwr_2, xnew_1, xnew_n, xnew_s, xnew_z, Nat.reduceLT, ite_true, and_self, hp_8_0, hp_8_1, hn_8_1, hp_8_2, hn_8_2, hp_9_0, hp_9_1, hp_9_2, hp_9_3, hp_9_4, hp_9_5, hn_9_5, hp_9_6, hn_9_6, hp_9_7, hn_9_7, hp_10_0, hp_10_1, hp_10_2, hn_10_2, hp_10_3, hn_10_3, hp_11_0, hp_12_0, hn_12_0, hp_12_1, hp_12_2, hp_12_3, hp_12_4, hp_12_5, hn_12_5, hp_12_6, hn_12_6, hp_12_7, hp_12_8, hp_13_0, hn_13_0, hp_13_1, hp_13_2, hp_13_3, hp_14_0, hn_14_0, hp_14_1, hp_14_2, hp_14_3, xdef_8, xdef_9, xdef_10, xdef_11, xdef_12, xdef_13, xdef_14, Gk_v, Gk_n, xcat_nil, xcat_i, xcat_r, xcat_l, xcat_d, Nat.zero_le, Nat.reduceAdd, Nat.reduceLeDiff, true_and, and_true, ykl_i, ykl_r, ykl_n, ykl_l]
      rw [← e4]
      simp only [s_207_118, a4, b4, r7', r3', yix2_0, ycl_0, hpa_i, true_and]
      rw [← e5]
      simp only [s_207_119, s_207_119i, s_207_120, s_207_121, s_207_122, s_207_123, s_207_123i, s_207_124, s_207_125, s_207_126, s_207_127, s_207_127i, s_207_128, s_207_129, s_207_130, n3, n4, c2, r5, r5', yix2_0, yix2_1, ycl_0, ycl_1, pnew_at, pwr_nw, not_false_eq_true, hgf_s, hsel_0, hsel_1, hsel_2, hsel_3, hsel_4, hsel_5, hsel_6, hsel_7, hsel_8, hset_0, hset_1, hset_2, hset_3, hset_4, hset_5, hset_6, hset_7, hset_8, hpf_s, hcl_s, hai_s, hpi_0, hpi_1, hln_0, hln_1, List.length_cons, List.length_nil, xwr_1, xwr_2, xnew_1, xnew_n, xnew_s, xnew_z, Nat.reduceLT, ite_true, and_self, hp_8_0, hp_8_1, hn_8_1, hp_8_2, hn_8_2, hp_9_0, hp_9_1, hp_9_2, hp_9_3, hp_9_4, hp_9_5, hn_9_5, hp_9_6, hn_9_6, hp_9_7, hn_9_7, hp_10_0, hp_10_1, hp_10_2, hn_10_2, hp_10_3, hn_10_3, hp_11_0, hp_12_0, hn_12_0, hp_12_1, hp_12_2, hp_12_3, hp_12_4, hp_12_5, hn_12_5, hp_12_6, hn_12_6, hp_12_7, hp_12_8, hp_13_0, hn_13_0, hp_13_1, hp_13_2, hp_13_3, hp_14_0, hn_14_0, hp_14_1, hp_14_2, hp_14_3, xdef_8, xdef_9, xdef_10, xdef_11, xdef_12, xdef_13, xdef_14, Gk_v, Gk_n, xcat_nil, xcat_i, xcat_r, xcat_l, xcat_d, Nat.zero_le, Nat.reduceAdd, Nat.reduceLeDiff, true_and, and_true, ykl_i, ykl_r, ykl_n, ykl_l]
      rw [← e6]
      simp only [s_207_131, a6, d6, r7', r5', yix2_1, ycl_1, hpa_i, true_and]
      rw [← e7]
      simp only [s_207_132, hs, o7, hgf_s, hsel_0, hsel_1, hsel_2, hsel_3, hsel_4, hsel_5, hsel_6, hsel_7, hsel_8, hset_0, hset_1, hset_2, hset_3, hset_4, hset_5, hset_6, hset_7, hset_8, hpf_s, hcl_s, hai_s, hpi_0, hpi_1, hln_0, hln_1, List.length_cons, List.length_nil, xwr_1, xwr_2, xnew_1, xnew_n, xnew_s, xnew_z, Nat.reduceLT, ite_true, and_self, hp_8_0, hp_8_1, hn_8_1, hp_8_2, hn_8_2, hp_9_0, hp_9_1, hp_9_2, hp_9_3, hp_9_4, hp_9_5, hn_9_5, hp_9_6, hn_9_6, hp_9_7, hn_9_7, hp_10_0, hp_10_1, hp_10_2, hn_10_2, hp_10_3, hn_10_3, hp_11_0, hp_12_0, hn_12_0, hp_12_1, hp_12_2, hp_12_3, hp_12_4, hp_12_5, hn_12_5, hp_12_6, hn_12_6, hp_12_7, hp_12_8, hp_13_0, hn_13_0, hp_13_1, hp_13_2, hp_13_3, hp_14_0, hn_14_0, hp_14_1, hp_14_2, hp_14_3, xdef_8, xdef_9, xdef_10, xdef_11, xdef_12, xdef_13, xdef_14, Gk_v, Gk_n, xcat_nil, xcat_i, xcat_r, xcat_l, xcat_d, Nat.zero_le, Nat.reduceAdd, Nat.reduceLeDiff, true_and, and_true, ykl_i, ykl_r, ykl_n, ykl_l]
    · obtain ⟨q1, q2, q3, ⟨q4, q5⟩, q6, q7⟩ := J2
      have xe : (xwr σ7 s (.inr (12, [.ref R.lr, .int D.un, .int D.lv, .int D.sh, .int D.ac, .ref τ2.2.1.1, cv, .int 0, .int 0]))).2.1.1 = σ7.2.1.1 := rfl
      refine ⟨⟨q1.1, by rw [xe]; have := q1.2; omega⟩, ⟨q2.1, by rw [xe]; have := q2.2; show R.lr < _; omega⟩, ⟨by show _ ≤ τ2.2.1.1; omega, by rw [xe]; show τ2.2.1.1 < _; omega⟩, ⟨fun p hp => ?_, fun q hq => ?_⟩, fun p q hp hq h => ?_, fun p q hp hq h => ?_⟩
      · rw [e1] at hp
        have := q4 p hp
        exact ⟨this.1, by rw [xe]; have := this.2; show R.lm p < _; omega⟩
      · rw [e2] at hq
        rcases (by omega : q = 0 ∨ q = 1) with rfl | rfl
        · exact ⟨by show _ ≤ σ3.2.1.1; omega, by rw [xe]; show σ3.2.1.1 < _; omega⟩
        · exact ⟨by show _ ≤ σ5.2.1.1; omega, by rw [xe]; show σ5.2.1.1 < _; omega⟩
      · rw [e1] at hp hq
        exact q6 p q hp hq h
      · rw [e2] at hp hq
        rcases (by omega : p = 0 ∨ p = 1) with rfl | rfl <;> rcases (by omega : q = 0 ∨ q = 1) with rfl | rfl
        · rfl
        · have h' : σ3.2.1.1 = σ5.2.1.1 := h
          omega
        · have h' : σ5.2.1.1 = σ3.2.1.1 := h
          omega
        · rfl
    · have P2 := pRd_st P (pSt_feed (v := pv2 sp lim) (U := (D, (0, (false, false)))) ⟨by show sp < D.n; omega, by show D.n ≤ 40; omega⟩ hlim (Nat.zero_testBit _) (by show D.f < 6; omega))
      rw [hE, List.append_assoc]
      have e9 : (0 ||| 2 ^ (pv2 sp lim 0)) = 2 ^ sp := Nat.zero_or _
      rw [e9] at P2
      exact P2
    · simp only [List.length_append, List.length_cons, List.length_nil, ptw_len, w5]
      omega
    · rw [Nat.testBit_two_pow]
      exact decide_eq_false h0
/-- the first feed's limit -/
theorem l_207e (X0 : pX0 b r σ0 t0) (C : yCI t0 D0 k0 E0 s0 s1 n0 B0 eo en') {N fb : Nat} (hN : 1 ≤ N ∧ N ≤ 9) (hD : yDok D) (hDn : D.n = N) (hDf : D.f < 6) (A : pR7 b r σ0 t0 s c x σ l R D cv) (hl : l.length ≤ 40) (P : pRd l (D, (fb, (false, false)))) (hfb : fb.testBit 0 = false) {l5 l6 : Option Value} : ∃ τ l' D' fb', (∀ Q, G (d + 20) 207 133 [some (.ref 0), some (.ref b), some (.ref r), some (.ref s), some (.int (yI N)), l5, l6, none, none, none, none] [] σ Q ↔ G (d + 20) 207 159 [some (.ref 0), some (.ref b), some (.ref r), some (.ref s), some (.int (yI N)), l5, l6, none, none, none, none] [] τ Q) ∧ (pR7 b r σ0 t0 s c x τ l' R D' cv ∧ ((pRd l' (D', (fb', (false, false))) ∧ l'.length ≤ 60) ∧ (yDok D' ∧ (D'.n = N ∧ (D'.cn = D.cn ∧ (D'.kd = D.kd ∧ pfr D' 0 = pfr D 0)))))) := by
  obtain ⟨v1, τ1, hv1, g1, ⟨A1, e1⟩, -⟩ := A.go (d := d + 19) X0 (m := 2) (by decide) (by decide)
  have g1' : Ra (d + 19) 131 [.ref r, .int 2] σ (.inl (some (.int (yI v1)))) τ1 := g1
  obtain ⟨f1, or1⟩ := A.or
  obtain ⟨f2, or2⟩ := A1.or
  by_cases hv0 : v1 = 0
  · have z : yI v1 = 0 := by rw [hv0]; rfl
    obtain ⟨v2, τ2, hv2, g2, ⟨A2, e2⟩, kp2⟩ := A1.go (d := d + 19) X0 (m := 200) (by decide) (by decide)
    have g2' : Ra (d + 19) 131 [.ref r, .int 200] τ1 (.inl (some (.int (yI v2)))) τ2 := g2
    have hf1 := hD.f1
    obtain ⟨f0, cf, f1', f2', f3'⟩ := A2.2.1.fg (q := 0) (by omega)
    have fc : τ2.1 (R.fg 0) = some (pints 2 cf) := (yrd_lt f0).symm.trans f1'
    have B3 := (A2.pu X0).lim (q := 0) (by omega) fc f2' (y := yI v2)
    have A3 := A2.up X0 B3
    have hin := A2.2.2.2.2.2.1.2 0 (by omega)
    have q3 : (xwr τ2 (R.fg 0) (pints 2 (upd cf 1 (yI v2)))).1 (R.fg 0) = some (pints 2 (upd cf 1 (yI v2))) := pwr_at
    obtain ⟨E, hE⟩ : ∃ E, E = D.sfl (upd D.fl 0 (yI v2)) := ⟨_, rfl⟩
    rw [← hE] at A3
    have w5 : ywl 5 = 4 := by decide
    have w24 : ywl 24 = 1 := by decide
    have hfp0 := hD.fp0
    obtain ⟨τ3, k3, A4, F4⟩ := A3.all (d := d) X0 C (i := 5) (by decide) (M := 2) (N := 2) (v := pv2 0 v2) (Nat.le_refl _) (by decide) (fun j hj => by
      rcases (by omega : j = 0 ∨ j = 1) with rfl | rfl
      · refine ⟨?_, by show 0 < 10000; decide⟩
        rw [yupd_ne (by decide), f2', hfp0]
        rfl
      · exact ⟨yupd_same, by show v2 < 10000; omega⟩) (nr := R.fg 0) ⟨hin.1, f0⟩ q3 (by rw [w5]; omega)
    have hl2 := pnm_len (v := pv2 0 v2) 2 0
    obtain ⟨τ4, k4, A5, F5⟩ := A4.semi (d := d) X0 C (i := 24) (by decide) (by rw [w24]; simp only [List.length_append, ptw_len, w5]; omega)
    have e24 : ptw 24 = [59] := by decide
    rw [e24] at A5
    have eE : E = yaddf D 0 v2 := by rw [hE]; unfold yaddf; rw [if_pos rfl]
    have P2 := pRd_st P (pSt_feed (v := pv2 0 v2) (U := (D, (fb, (false, false)))) ⟨by show 0 < D.n; omega, by show D.n ≤ 40; omega⟩ (by show v2 < 10000; omega) hfb hDf)
    have e9 : yaddf D (pv2 0 v2 0) (pv2 0 v2 1) = E := eE.symm
    have P3 : pRd (l ++ (ptw 5 ++ pnm (pv2 0 v2) 0 2 ++ [59])) (E, (fb ||| 2 ^ 0, (false, false))) := by
      rw [← e9]
      exact P2
    refine ⟨τ4, _, E, fb ||| 2 ^ 0, fun Q => ?_, A5, ⟨?_, ?_⟩, ?_, ?_, ?_, ?_, ?_⟩
    · obtain ⟨gg, u1, w1⟩ := A1.2.1.frow
      have o1 := A1.2.1.ob
      have hfr := A1.2.1.fr0
      obtain ⟨gg2, u2, w2⟩ := A3.2.1.frow
      have o3 := A3.2.1.ob
      have k3' : Ra (d + 19) 205 [.ref 0, .ref b, .ref 1000105, .int 2, .ref (R.fg 0)] (xwr τ2 (R.fg 0) (pints 2 (upd cf 1 (yI v2)))) (.inl none) τ3 := k3
      have k4' : Ra (d + 19) 182 [.ref 0, .ref b, .ref 1000124] τ3 (.inl none) τ4 := k4
      have i0 : yix 0 D.f := yix_I (n := 0) hf1 (by have := hD.f6; omega)
      have i0' : yix 0 E.f := by rw [hE]; exact i0
      have w2' : gg2 0 = some (R.fg 0) := w2 0 (by rw [hE]; exact hf1)
      simp only [s_207_133, s_207_134, s_207_135, s_207_136, s_207_137, s_207_138, s_207_139, s_207_140, s_207_141, s_207_142, s_207_143, s_207_144, s_207_145, or1, or2, g1' _, g2' _, z, o1, u1, w1 0 hf1, i0, ycl_0, ycl_1, yix2_1, f0, fc, haa_t hfr (show 4 ≤ 5 ∧ 5 ≤ 8 by decide), hop_s, ne_eq, not_true_eq_false, if_false, hgf_s, hsel_0, hsel_1, hsel_2, hsel_3, hsel_4, hsel_5, hsel_6, hsel_7, hsel_8, hset_0, hset_1, hset_2, hset_3, hset_4, hset_5, hset_6, hset_7, hset_8, hpf_s, hcl_s, hai_s, hpi_0, hpi_1, hln_0, hln_1, List.length_cons, List.length_nil, xwr_1, xwr_2, xnew_1, xnew_n, xnew_s, xnew_z, Nat.reduceLT, ite_true, and_self, hp_8_0, hp_8_1, hn_8_1, hp_8_2, hn_8_2, hp_9_0, hp_9_1, hp_9_2, hp_9_3, hp_9_4, hp_9_5, hn_9_5, hp_9_6, hn_9_6, hp_9_7, hn_9_7, hp_10_0, hp_10_1, hp_10_2, hn_10_2, hp_10_3, hn_10_3, hp_11_0, hp_12_0, hn_12_0, hp_12_1, hp_12_2, hp_12_3, hp_12_4, hp_12_5, hn_12_5, hp_12_6, hn_12_6, hp_12_7, hp_12_8, hp_13_0, hn_13_0, hp_13_1, hp_13_2, hp_13_3, hp_14_0, hn_14_0, hp_14_1, hp_14_2, hp_14_3, xdef_8, xdef_9, xdef_10, xdef_11, xdef_12, xdef_13, xdef_14, Gk_v, Gk_n, xcat_nil, xcat_i, xcat_r, xcat_l, xcat_d, Nat.zero_le, Nat.reduceAdd, Nat.reduceLeDiff, true_and, and_true, ykl_i, ykl_r, ykl_n, ykl_l]
      obtain ⟨σ9, e9⟩ : ∃ σ9, σ9 = xwr τ2 (R.fg 0) (pints 2 (upd cf 1 (yI v2))) := ⟨_, rfl⟩
      have e9' : xwr τ2 (R.fg 0) (.inl (0, (2, .inl (upd cf 1 (yI v2))))) = σ9 := e9.symm
      rw [e9']
      rw [← e9] at o3 u2 k3'
      simp only [s_207_146, s_207_147, s_207_148, s_207_149, s_207_150, s_207_151, s_207_152, s_207_153, s_207_154, s_207_155, s_207_156, s_207_157, s_207_158, o3, u2, w2', i0', ycl_0, f0, haa_t hfr (show 4 ≤ 5 ∧ 5 ≤ 8 by decide), hop_s, k3' _, k4' _, hgf_s, hsel_0, hsel_1, hsel_2, hsel_3, hsel_4, hsel_5, hsel_6, hsel_7, hsel_8, hset_0, hset_1, hset_2, hset_3, hset_4, hset_5, hset_6, hset_7, hset_8, hpf_s, hcl_s, hai_s, hpi_0, hpi_1, hln_0, hln_1, List.length_cons, List.length_nil, xwr_1, xwr_2, xnew_1, xnew_n, xnew_s, xnew_z, Nat.reduceLT, ite_true, and_self, hp_8_0, hp_8_1, hn_8_1, hp_8_2, hn_8_2, hp_9_0, hp_9_1, hp_9_2, hp_9_3, hp_9_4, hp_9_5, hn_9_5, hp_9_6, hn_9_6, hp_9_7, hn_9_7, hp_10_0, hp_10_1, hp_10_2, hn_10_2, hp_10_3, hn_10_3, hp_11_0, hp_12_0, hn_12_0, hp_12_1, hp_12_2, hp_12_3, hp_12_4, hp_12_5, hn_12_5, hp_12_6, hn_12_6, hp_12_7, hp_12_8, hp_13_0, hn_13_0, hp_13_1, hp_13_2, hp_13_3, hp_14_0, hn_14_0, hp_14_1, hp_14_2, hp_14_3, xdef_8, xdef_9, xdef_10, xdef_11, xdef_12, xdef_13, xdef_14, Gk_v, Gk_n, xcat_nil, xcat_i, xcat_r, xcat_l, xcat_d, Nat.zero_le, Nat.reduceAdd, Nat.reduceLeDiff, true_and, and_true, ykl_i, ykl_r, ykl_n, ykl_l]
    · rw [List.append_assoc]
      exact P3
    · simp only [List.length_append, List.length_cons, List.length_nil, ptw_len, w5]
      omega
    · rw [eE]
      exact yaddf_ok hD (by omega) (by omega) (fun h => absurd rfl h)
    · rw [hE]; exact hDn
    · rw [hE]; rfl
    · rw [hE]; rfl
    · rw [hE]; rfl
  · have z : ¬ yI v1 = 0 := fun e => hv0 ((yI_inj (m := 0) (by omega) (by decide)).mp e)
    refine ⟨τ1, l, D, fb, fun Q => ?_, A1, ⟨P, by omega⟩, hD, hDn, rfl, rfl, rfl⟩
    simp only [s_207_133, s_207_134, s_207_135, s_207_136, or1, g1' _, z, ne_eq, not_false_eq_true, if_true, hcl_s, true_and, Gk_v, Gk_n, xcat_nil, xcat_i, xcat_r, xcat_l, xcat_d, Nat.zero_le, Nat.reduceAdd, Nat.reduceLeDiff, true_and, and_true, ykl_i, ykl_r, ykl_n, ykl_l]
end
