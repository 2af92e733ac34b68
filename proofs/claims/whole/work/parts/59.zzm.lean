/-! ===== the cases of the law ===== -/
section
variable {d : Nat} {t : yT} {i : Nat}
theorem c_94 (I : yInv t) (hz : t.z.1.1 < 898000) (hi : i + 6 ≤ t.z.2.1) (hL : t.z.2.1 ≤ 3072) : yCase (d + 100) 25 t i := by
  intro l5 l6 l7 l8
  have e1 : yI i + 1 = yI (i + 1) := yI_add
  have j1 : yix (yI (i + 1)) t.z.2.1 := yix_I (by omega) (by omega)
  have c1 : (yI (i + 1)).toNatClampNeg = i + 1 := yI_clamp (by omega)
  have e2 : yI i + 2 = yI (i + 2) := yI_add
  have j2 : yix (yI (i + 2)) t.z.2.1 := yix_I (by omega) (by omega)
  have c2 : (yI (i + 2)).toNatClampNeg = i + 2 := yI_clamp (by omega)
  have e3 : yI i + 3 = yI (i + 3) := yI_add
  have j3 : yix (yI (i + 3)) t.z.2.1 := yix_I (by omega) (by omega)
  have c3 : (yI (i + 3)).toNatClampNeg = i + 3 := yI_clamp (by omega)
  have e4 : yI i + 4 = yI (i + 4) := yI_add
  have j4 : yix (yI (i + 4)) t.z.2.1 := yix_I (by omega) (by omega)
  have c4 : (yI (i + 4)).toNatClampNeg = i + 4 := yI_clamp (by omega)
  have e5 : yI i + 5 = yI (i + 5) := yI_add
  have j5 : yix (yI (i + 5)) t.z.2.1 := yix_I (by omega) (by omega)
  have c5 : (yI (i + 5)).toNatClampNeg = i + 5 := yI_clamp (by omega)
  obtain ⟨u1, u, v, h1, h2, O⟩ := k_94 (d := 0) I (t.z.2.2 (i + 1)) (t.z.2.2 (i + 2)) (t.z.2.2 (i + 3)) (t.z.2.2 (i + 4)) (t.z.2.2 (i + 5))
  have z1 := Ra_z h1
  have h1 := Ra_le (d' := d + 99) h1 (by omega)
  have h2 := Ra_le (d' := d + 99) h2 (by omega)
  refine ⟨u, l5, l6, l7, l8, fun Q => ?_, O.1.1, O.2⟩
  simp only [s_244_25, s_244_26, s_244_27, s_244_28, s_244_29, gs_scr f_244_30, s_244_31, s_244_32, s_244_33, s_244_34, gs_scr f_244_35, s_244_36, s_244_37, s_244_38, s_244_39, gs_scr f_244_40, s_244_41, s_244_42, s_244_43, s_244_44, gs_scr f_244_45, s_244_46, s_244_47, s_244_48, s_244_49, gs_scr f_244_50, s_244_51, s_244_52, s_244_53, s_244_54, s_244_55, s_244_56, gs_scr f_244_57, s_244_58, s_244_59, s_244_60, s_244_61, gs_scr f_244_62, s_244_63, s_244_64, s_244_65, s_244_66, gs_scr f_244_67, s_244_68, s_244_69, s_244_70, s_244_71, gs_scr f_244_72, s_244_73, s_244_74, s_244_75, s_244_76, gs_scr f_244_77, s_244_78, s_244_79, s_244_80, s_244_81, z1, h1, h2, yO_0, yO_160, e1, j1, c1, e2, j2, c2, e3, j3, c3, e4, j4, c4, e5, j5, c5, ne_eq, not_true_eq_false, not_false_eq_true, if_true, if_false, eq_self_iff_true, yix01, ycl0, Gk_v, Gk_n, xcat_nil, xcat_i, xcat_r, xcat_l, xcat_d, Nat.zero_le, Nat.reduceAdd, Nat.reduceLeDiff, true_and, and_true, ykl_i, ykl_r, ykl_n, ykl_l]
theorem c_226 (I : yInv t) (hz : t.z.1.1 < 898000) (hi : i + 6 ≤ t.z.2.1) (hL : t.z.2.1 ≤ 3072) : yCase (d + 100) 82 t i := by
  intro l5 l6 l7 l8
  have e1 : yI i + 1 = yI (i + 1) := yI_add
  have j1 : yix (yI (i + 1)) t.z.2.1 := yix_I (by omega) (by omega)
  have c1 : (yI (i + 1)).toNatClampNeg = i + 1 := yI_clamp (by omega)
  obtain ⟨u1, u, c, b, h1, h2, O⟩ := k_226 (d := 0) I (by omega) (t.z.2.2 (i + 1))
  have z1 := Ra_z h1
  have h1 := Ra_le (d' := d + 99) h1 (by omega)
  have h2 := Ra_le (d' := d + 99) h2 (by omega)
  have g123 := m_123 (d := d + 99) (t := u)
  rw [O.1.2.1] at g123
  by_cases hc : c = 0
  · subst hc
    have hcmp : lg_cmp (u.L 183 0) b.toInt64 = 0 := by rw [O.1.2.2 rfl]; exact lg_cmp_self
    refine ⟨u, some (.int 0), some (.int b), l7, l8, fun Q => ?_, O.1.1, O.2⟩
    simp only [s_244_82, s_244_83, s_244_84, s_244_85, s_244_86, gs_scr f_244_87, s_244_88, s_244_89, s_244_90, s_244_91, s_244_92, s_244_93, s_244_94, s_244_95, gs_scr f_244_96, s_244_97, s_244_98, s_244_99, s_244_100, s_244_101, s_244_102, s_244_103, s_244_104, s_244_105, s_244_106, s_244_107, s_244_108, s_244_109, s_244_110, s_244_111, s_244_112, s_244_113, s_244_114, s_244_115, s_244_116, z1, h1, h2, g123, yA_183, yn_183, hcmp, yO_0, yO_160, e1, j1, c1, ne_eq, not_true_eq_false, not_false_eq_true, if_true, if_false, eq_self_iff_true, yix01, ycl0, Gk_v, Gk_n, xcat_nil, xcat_i, xcat_r, xcat_l, xcat_d, Nat.zero_le, Nat.reduceAdd, Nat.reduceLeDiff, true_and, and_true, ykl_i, ykl_r, ykl_n, ykl_l]
  · refine ⟨u, some (.int c), some (.int b), l7, l8, fun Q => ?_, O.1.1, O.2⟩
    simp only [s_244_82, s_244_83, s_244_84, s_244_85, s_244_86, gs_scr f_244_87, s_244_88, s_244_89, s_244_90, s_244_91, s_244_92, s_244_93, s_244_94, s_244_95, gs_scr f_244_96, s_244_97, s_244_98, s_244_99, s_244_100, s_244_101, s_244_102, s_244_103, s_244_104, s_244_105, s_244_106, s_244_107, s_244_108, s_244_109, s_244_110, s_244_111, s_244_112, s_244_113, s_244_114, s_244_115, s_244_116, z1, h1, h2, g123, hc, yO_0, yO_160, e1, j1, c1, ne_eq, not_true_eq_false, not_false_eq_true, if_true, if_false, eq_self_iff_true, yix01, ycl0, Gk_v, Gk_n, xcat_nil, xcat_i, xcat_r, xcat_l, xcat_d, Nat.zero_le, Nat.reduceAdd, Nat.reduceLeDiff, true_and, and_true, ykl_i, ykl_r, ykl_n, ykl_l]
theorem c_227 (I : yInv t) (hz : t.z.1.1 < 898000) (hi : i + 6 ≤ t.z.2.1) (hL : t.z.2.1 ≤ 3072) : yCase (d + 100) 117 t i := by
  intro l5 l6 l7 l8
  have e1 : yI i + 1 = yI (i + 1) := yI_add
  have j1 : yix (yI (i + 1)) t.z.2.1 := yix_I (by omega) (by omega)
  have c1 : (yI (i + 1)).toNatClampNeg = i + 1 := yI_clamp (by omega)
  obtain ⟨u1, u, c, b, h1, h2, O⟩ := k_227 (d := 0) I (by omega) (t.z.2.2 (i + 1))
  have z1 := Ra_z h1
  have h1 := Ra_le (d' := d + 99) h1 (by omega)
  have h2 := Ra_le (d' := d + 99) h2 (by omega)
  have g123 := m_123 (d := d + 99) (t := u)
  rw [O.1.2.1] at g123
  by_cases hc : c = 0
  · subst hc
    have hcmp : lg_cmp (u.L 183 0) b.toInt64 = 0 := by rw [O.1.2.2 rfl]; exact lg_cmp_self
    refine ⟨u, some (.int 0), some (.int b), l7, l8, fun Q => ?_, O.1.1, O.2⟩
    simp only [s_244_117, s_244_118, s_244_119, s_244_120, s_244_121, gs_scr f_244_122, s_244_123, s_244_124, s_244_125, s_244_126, s_244_127, s_244_128, s_244_129, s_244_130, gs_scr f_244_131, s_244_132, s_244_133, s_244_134, s_244_135, s_244_136, s_244_137, s_244_138, s_244_139, s_244_140, s_244_141, s_244_142, s_244_143, s_244_144, s_244_145, s_244_146, s_244_147, s_244_148, s_244_149, s_244_150, s_244_151, z1, h1, h2, g123, yA_183, yn_183, hcmp, yO_0, yO_160, e1, j1, c1, ne_eq, not_true_eq_false, not_false_eq_true, if_true, if_false, eq_self_iff_true, yix01, ycl0, Gk_v, Gk_n, xcat_nil, xcat_i, xcat_r, xcat_l, xcat_d, Nat.zero_le, Nat.reduceAdd, Nat.reduceLeDiff, true_and, and_true, ykl_i, ykl_r, ykl_n, ykl_l]
  · refine ⟨u, some (.int c), some (.int b), l7, l8, fun Q => ?_, O.1.1, O.2⟩
    simp only [s_244_117, s_244_118, s_244_119, s_244_120, s_244_121, gs_scr f_244_122, s_244_123, s_244_124, s_244_125, s_244_126, s_244_127, s_244_128, s_244_129, s_244_130, gs_scr f_244_131, s_244_132, s_244_133, s_244_134, s_244_135, s_244_136, s_244_137, s_244_138, s_244_139, s_244_140, s_244_141, s_244_142, s_244_143, s_244_144, s_244_145, s_244_146, s_244_147, s_244_148, s_244_149, s_244_150, s_244_151, z1, h1, h2, g123, hc, yO_0, yO_160, e1, j1, c1, ne_eq, not_true_eq_false, not_false_eq_true, if_true, if_false, eq_self_iff_true, yix01, ycl0, Gk_v, Gk_n, xcat_nil, xcat_i, xcat_r, xcat_l, xcat_d, Nat.zero_le, Nat.reduceAdd, Nat.reduceLeDiff, true_and, and_true, ykl_i, ykl_r, ykl_n, ykl_l]
theorem c_97 (I : yInv t) (hz : t.z.1.1 < 898000) (hi : i + 6 ≤ t.z.2.1) (hL : t.z.2.1 ≤ 3072) : yCase (d + 100) 152 t i := by
  intro l5 l6 l7 l8
  obtain ⟨u, v, h1, h2, O⟩ := k_97 (d := 0) I 
  have h1 := Ra_le (d' := d + 99) h1 (by omega)
  have h2 := Ra_le (d' := d + 99) h2 (by omega)
  refine ⟨u, l5, l6, l7, l8, fun Q => ?_, O.1.1, O.2⟩
  simp only [s_244_152, s_244_153, s_244_154, s_244_155, s_244_156, s_244_157, s_244_158, h1, h2, yO_0, yO_160, ne_eq, not_true_eq_false, not_false_eq_true, if_true, if_false, eq_self_iff_true, yix01, ycl0, Gk_v, Gk_n, xcat_nil, xcat_i, xcat_r, xcat_l, xcat_d, Nat.zero_le, Nat.reduceAdd, Nat.reduceLeDiff, true_and, and_true, ykl_i, ykl_r, ykl_n, ykl_l]
theorem c_98 (I : yInv t) (hz : t.z.1.1 < 898000) (hi : i + 6 ≤ t.z.2.1) (hL : t.z.2.1 ≤ 3072) : yCase (d + 100) 159 t i := by
  intro l5 l6 l7 l8
  obtain ⟨u, v, h1, h2, O⟩ := k_98 (d := 0) I 
  have h1 := Ra_le (d' := d + 99) h1 (by omega)
  have h2 := Ra_le (d' := d + 99) h2 (by omega)
  refine ⟨u, l5, l6, l7, l8, fun Q => ?_, O.1.1, O.2⟩
  simp only [s_244_159, s_244_160, s_244_161, s_244_162, s_244_163, s_244_164, s_244_165, h1, h2, yO_0, yO_160, ne_eq, not_true_eq_false, not_false_eq_true, if_true, if_false, eq_self_iff_true, yix01, ycl0, Gk_v, Gk_n, xcat_nil, xcat_i, xcat_r, xcat_l, xcat_d, Nat.zero_le, Nat.reduceAdd, Nat.reduceLeDiff, true_and, and_true, ykl_i, ykl_r, ykl_n, ykl_l]
theorem c_228 (I : yInv t) (hz : t.z.1.1 < 898000) (hi : i + 6 ≤ t.z.2.1) (hL : t.z.2.1 ≤ 3072) : yCase (d + 100) 166 t i := by
  intro l5 l6 l7 l8
  have e1 : yI i + 1 = yI (i + 1) := yI_add
  have j1 : yix (yI (i + 1)) t.z.2.1 := yix_I (by omega) (by omega)
  have c1 : (yI (i + 1)).toNatClampNeg = i + 1 := yI_clamp (by omega)
  obtain ⟨u1, u, c, b, h1, h2, O⟩ := k_228 (d := 0) I (by omega) (t.z.2.2 (i + 1))
  have z1 := Ra_z h1
  have h1 := Ra_le (d' := d + 99) h1 (by omega)
  have h2 := Ra_le (d' := d + 99) h2 (by omega)
  have g123 := m_123 (d := d + 99) (t := u)
  rw [O.1.2.1] at g123
  by_cases hc : c = 0
  · subst hc
    have hcmp : lg_cmp (u.L 183 0) b.toInt64 = 0 := by rw [O.1.2.2 rfl]; exact lg_cmp_self
    refine ⟨u, some (.int 0), some (.int b), l7, l8, fun Q => ?_, O.1.1, O.2⟩
    simp only [s_244_166, s_244_167, s_244_168, s_244_169, s_244_170, gs_scr f_244_171, s_244_172, s_244_173, s_244_174, s_244_175, s_244_176, s_244_177, s_244_178, s_244_179, gs_scr f_244_180, s_244_181, s_244_182, s_244_183, s_244_184, s_244_185, s_244_186, s_244_187, s_244_188, s_244_189, s_244_190, s_244_191, s_244_192, s_244_193, s_244_194, s_244_195, s_244_196, s_244_197, s_244_198, s_244_199, s_244_200, z1, h1, h2, g123, yA_183, yn_183, hcmp, yO_0, yO_160, e1, j1, c1, ne_eq, not_true_eq_false, not_false_eq_true, if_true, if_false, eq_self_iff_true, yix01, ycl0, Gk_v, Gk_n, xcat_nil, xcat_i, xcat_r, xcat_l, xcat_d, Nat.zero_le, Nat.reduceAdd, Nat.reduceLeDiff, true_and, and_true, ykl_i, ykl_r, ykl_n, ykl_l]
  · refine ⟨u, some (.int c), some (.int b), l7, l8, fun Q => ?_, O.1.1, O.2⟩
    simp only [s_244_166, s_244_167, s_244_168, s_244_169, s_244_170, gs_scr f_244_171, s_244_172, s_244_173, s_244_174, s_244_175, s_244_176, s_244_177, s_244_178, s_244_179, gs_scr f_244_180, s_244_181, s_244_182, s_244_183, s_244_184, s_244_185, s_244_186, s_244_187, s_244_188, s_244_189, s_244_190, s_244_191, s_244_192, s_244_193, s_244_194, s_244_195, s_244_196, s_244_197, s_244_198, s_244_199, s_244_200, z1, h1, h2, g123, hc, yO_0, yO_160, e1, j1, c1, ne_eq, not_true_eq_false, not_false_eq_true, if_true, if_false, eq_self_iff_true, yix01, ycl0, Gk_v, Gk_n, xcat_nil, xcat_i, xcat_r, xcat_l, xcat_d, Nat.zero_le, Nat.reduceAdd, Nat.reduceLeDiff, true_and, and_true, ykl_i, ykl_r, ykl_n, ykl_l]
theorem c_229 (I : yInv t) (hz : t.z.1.1 < 898000) (hi : i + 6 ≤ t.z.2.1) (hL : t.z.2.1 ≤ 3072) : yCase (d + 100) 201 t i := by
  intro l5 l6 l7 l8
  have e1 : yI i + 1 = yI (i + 1) := yI_add
  have j1 : yix (yI (i + 1)) t.z.2.1 := yix_I (by omega) (by omega)
  have c1 : (yI (i + 1)).toNatClampNeg = i + 1 := yI_clamp (by omega)
  have e2 : yI i + 2 = yI (i + 2) := yI_add
  have j2 : yix (yI (i + 2)) t.z.2.1 := yix_I (by omega) (by omega)
  have c2 : (yI (i + 2)).toNatClampNeg = i + 2 := yI_clamp (by omega)
  obtain ⟨u1, u, c, b, h1, h2, O⟩ := k_229 (d := 0) I (by omega) (t.z.2.2 (i + 1)) (t.z.2.2 (i + 2))
  have z1 := Ra_z h1
  have h1 := Ra_le (d' := d + 99) h1 (by omega)
  have h2 := Ra_le (d' := d + 99) h2 (by omega)
  have g123 := m_123 (d := d + 99) (t := u)
  rw [O.1.2.1] at g123
  by_cases hc : c = 0
  · subst hc
    have hcmp : lg_cmp (u.L 183 0) b.toInt64 = 0 := by rw [O.1.2.2 rfl]; exact lg_cmp_self
    refine ⟨u, some (.int 0), some (.int b), l7, l8, fun Q => ?_, O.1.1, O.2⟩
    simp only [s_244_201, s_244_202, s_244_203, s_244_204, s_244_205, gs_scr f_244_206, s_244_207, s_244_208, s_244_209, s_244_210, gs_scr f_244_211, s_244_212, s_244_213, s_244_214, s_244_215, s_244_216, s_244_217, s_244_218, s_244_219, gs_scr f_244_220, s_244_221, s_244_222, s_244_223, s_244_224, gs_scr f_244_225, s_244_226, s_244_227, s_244_228, s_244_229, s_244_230, s_244_231, s_244_232, s_244_233, s_244_234, s_244_235, s_244_236, s_244_237, s_244_238, s_244_239, s_244_240, s_244_241, s_244_242, s_244_243, s_244_244, s_244_245, z1, h1, h2, g123, yA_183, yn_183, hcmp, yO_0, yO_160, e1, j1, c1, e2, j2, c2, ne_eq, not_true_eq_false, not_false_eq_true, if_true, if_false, eq_self_iff_true, yix01, ycl0, Gk_v, Gk_n, xcat_nil, xcat_i, xcat_r, xcat_l, xcat_d, Nat.zero_le, Nat.reduceAdd, Nat.reduceLeDiff, true_and, and_true, ykl_i, ykl_r, ykl_n, ykl_l]
  · refine ⟨u, some (.int c), some (.int b), l7, l8, fun Q => ?_, O.1.1, O.2⟩
    simp only [s_244_201, s_244_202, s_244_203, s_244_204, s_244_205, gs_scr f_244_206, s_244_207, s_244_208, s_244_209, s_244_210, gs_scr f_244_211, s_244_212, s_244_213, s_244_214, s_244_215, s_244_216, s_244_217, s_244_218, s_244_219, gs_scr f_244_220, s_244_221, s_244_222, s_244_223, s_244_224, gs_scr f_244_225, s_244_226, s_244_227, s_244_228, s_244_229, s_244_230, s_244_231, s_244_232, s_244_233, s_244_234, s_244_235, s_244_236, s_244_237, s_244_238, s_244_239, s_244_240, s_244_241, s_244_242, s_244_243, s_244_244, s_244_245, z1, h1, h2, g123, hc, yO_0, yO_160, e1, j1, c1, e2, j2, c2, ne_eq, not_true_eq_false, not_false_eq_true, if_true, if_false, eq_self_iff_true, yix01, ycl0, Gk_v, Gk_n, xcat_nil, xcat_i, xcat_r, xcat_l, xcat_d, Nat.zero_le, Nat.reduceAdd, Nat.reduceLeDiff, true_and, and_true, ykl_i, ykl_r, ykl_n, ykl_l]
theorem c_230 (I : yInv t) (hz : t.z.1.1 < 898000) (hi : i + 6 ≤ t.z.2.1) (hL : t.z.2.1 ≤ 3072) : yCase (d + 100) 246 t i := by
  intro l5 l6 l7 l8
  have e1 : yI i + 1 = yI (i + 1) := yI_add
  have j1 : yix (yI (i + 1)) t.z.2.1 := yix_I (by omega) (by omega)
  have c1 : (yI (i + 1)).toNatClampNeg = i + 1 := yI_clamp (by omega)
  have e2 : yI i + 2 = yI (i + 2) := yI_add
  have j2 : yix (yI (i + 2)) t.z.2.1 := yix_I (by omega) (by omega)
  have c2 : (yI (i + 2)).toNatClampNeg = i + 2 := yI_clamp (by omega)
  obtain ⟨u1, u, c, b, h1, h2, O⟩ := k_230 (d := 0) I (by omega) (t.z.2.2 (i + 1)) (t.z.2.2 (i + 2))
  have z1 := Ra_z h1
  have h1 := Ra_le (d' := d + 99) h1 (by omega)
  have h2 := Ra_le (d' := d + 99) h2 (by omega)
  have g123 := m_123 (d := d + 99) (t := u)
  rw [O.1.2.1] at g123
  by_cases hc : c = 0
  · subst hc
    have hcmp : lg_cmp (u.L 183 0) b.toInt64 = 0 := by rw [O.1.2.2 rfl]; exact lg_cmp_self
    refine ⟨u, some (.int 0), some (.int b), l7, l8, fun Q => ?_, O.1.1, O.2⟩
    simp only [s_244_246, s_244_247, s_244_248, s_244_249, s_244_250, gs_scr f_244_251, s_244_252, s_244_253, s_244_254, s_244_255, gs_scr f_244_256, s_244_257, s_244_258, s_244_259, s_244_260, s_244_261, s_244_262, s_244_263, s_244_264, gs_scr f_244_265, s_244_266, s_244_267, s_244_268, s_244_269, gs_scr f_244_270, s_244_271, s_244_272, s_244_273, s_244_274, s_244_275, s_244_276, s_244_277, s_244_278, s_244_279, s_244_280, s_244_281, s_244_282, s_244_283, s_244_284, s_244_285, s_244_286, s_244_287, s_244_288, s_244_289, s_244_290, z1, h1, h2, g123, yA_183, yn_183, hcmp, yO_0, yO_160, e1, j1, c1, e2, j2, c2, ne_eq, not_true_eq_false, not_false_eq_true, if_true, if_false, eq_self_iff_true, yix01, ycl0, Gk_v, Gk_n, xcat_nil, xcat_i, xcat_r, xcat_l, xcat_d, Nat.zero_le, Nat.reduceAdd, Nat.reduceLeDiff, true_and, and_true, ykl_i, ykl_r, ykl_n, ykl_l]
  · refine ⟨u, some (.int c), some (.int b), l7, l8, fun Q => ?_, O.1.1, O.2⟩
    simp only [s_244_246, s_244_247, s_244_248, s_244_249, s_244_250, gs_scr f_244_251, s_244_252, s_244_253, s_244_254, s_244_255, gs_scr f_244_256, s_244_257, s_244_258, s_244_259, s_244_260, s_244_261, s_244_262, s_244_263, s_244_264, gs_scr f_244_265, s_244_266, s_244_267, s_244_268, s_244_269, gs_scr f_244_270, s_244_271, s_244_272, s_244_273, s_244_274, s_244_275, s_244_276, s_244_277, s_244_278, s_244_279, s_244_280, s_244_281, s_244_282, s_244_283, s_244_284, s_244_285, s_244_286, s_244_287, s_244_288, s_244_289, s_244_290, z1, h1, h2, g123, hc, yO_0, yO_160, e1, j1, c1, e2, j2, c2, ne_eq, not_true_eq_false, not_false_eq_true, if_true, if_false, eq_self_iff_true, yix01, ycl0, Gk_v, Gk_n, xcat_nil, xcat_i, xcat_r, xcat_l, xcat_d, Nat.zero_le, Nat.reduceAdd, Nat.reduceLeDiff, true_and, and_true, ykl_i, ykl_r, ykl_n, ykl_l]
theorem c_231 (I : yInv t) (hz : t.z.1.1 < 898000) (hi : i + 6 ≤ t.z.2.1) (hL : t.z.2.1 ≤ 3072) : yCase (d + 100) 291 t i := by
  intro l5 l6 l7 l8
  have e1 : yI i + 1 = yI (i + 1) := yI_add
  have j1 : yix (yI (i + 1)) t.z.2.1 := yix_I (by omega) (by omega)
  have c1 : (yI (i + 1)).toNatClampNeg = i + 1 := yI_clamp (by omega)
  obtain ⟨u1, u, c, b, h1, h2, O⟩ := k_231 (d := 0) I (by omega) (t.z.2.2 (i + 1))
  have z1 := Ra_z h1
  have h1 := Ra_le (d' := d + 99) h1 (by omega)
  have h2 := Ra_le (d' := d + 99) h2 (by omega)
  have g123 := m_123 (d := d + 99) (t := u)
  rw [O.1.2.1] at g123
  by_cases hc : c = 0
  · subst hc
    have hcmp : lg_cmp (u.L 183 0) b.toInt64 = 0 := by rw [O.1.2.2 rfl]; exact lg_cmp_self
    refine ⟨u, some (.int 0), some (.int b), l7, l8, fun Q => ?_, O.1.1, O.2⟩
    simp only [s_244_291, s_244_292, s_244_293, s_244_294, s_244_295, gs_scr f_244_296, s_244_297, s_244_298, s_244_299, s_244_300, s_244_301, s_244_302, s_244_303, s_244_304, gs_scr f_244_305, s_244_306, s_244_307, s_244_308, s_244_309, s_244_310, s_244_311, s_244_312, s_244_313, s_244_314, s_244_315, s_244_316, s_244_317, s_244_318, s_244_319, s_244_320, s_244_321, s_244_322, s_244_323, s_244_324, s_244_325, z1, h1, h2, g123, yA_183, yn_183, hcmp, yO_0, yO_160, e1, j1, c1, ne_eq, not_true_eq_false, not_false_eq_true, if_true, if_false, eq_self_iff_true, yix01, ycl0, Gk_v, Gk_n, xcat_nil, xcat_i, xcat_r, xcat_l, xcat_d, Nat.zero_le, Nat.reduceAdd, Nat.reduceLeDiff, true_and, and_true, ykl_i, ykl_r, ykl_n, ykl_l]
  · refine ⟨u, some (.int c), some (.int b), l7, l8, fun Q => ?_, O.1.1, O.2⟩
    simp only [s_244_291, s_244_292, s_244_293, s_244_294, s_244_295, gs_scr f_244_296, s_244_297, s_244_298, s_244_299, s_244_300, s_244_301, s_244_302, s_244_303, s_244_304, gs_scr f_244_305, s_244_306, s_244_307, s_244_308, s_244_309, s_244_310, s_244_311, s_244_312, s_244_313, s_244_314, s_244_315, s_244_316, s_244_317, s_244_318, s_244_319, s_244_320, s_244_321, s_244_322, s_244_323, s_244_324, s_244_325, z1, h1, h2, g123, hc, yO_0, yO_160, e1, j1, c1, ne_eq, not_true_eq_false, not_false_eq_true, if_true, if_false, eq_self_iff_true, yix01, ycl0, Gk_v, Gk_n, xcat_nil, xcat_i, xcat_r, xcat_l, xcat_d, Nat.zero_le, Nat.reduceAdd, Nat.reduceLeDiff, true_and, and_true, ykl_i, ykl_r, ykl_n, ykl_l]
theorem c_232 (I : yInv t) (hz : t.z.1.1 < 898000) (hi : i + 6 ≤ t.z.2.1) (hL : t.z.2.1 ≤ 3072) : yCase (d + 100) 326 t i := by
  intro l5 l6 l7 l8
  have e1 : yI i + 1 = yI (i + 1) := yI_add
  have j1 : yix (yI (i + 1)) t.z.2.1 := yix_I (by omega) (by omega)
  have c1 : (yI (i + 1)).toNatClampNeg = i + 1 := yI_clamp (by omega)
  obtain ⟨u1, u, c, b, h1, h2, O⟩ := k_232 (d := 0) I (by omega) (t.z.2.2 (i + 1))
  have z1 := Ra_z h1
  have h1 := Ra_le (d' := d + 99) h1 (by omega)
  have h2 := Ra_le (d' := d + 99) h2 (by omega)
  have g123 := m_123 (d := d + 99) (t := u)
  rw [O.1.2.1] at g123
  by_cases hc : c = 0
  · subst hc
    have hcmp : lg_cmp (u.L 183 0) b.toInt64 = 0 := by rw [O.1.2.2 rfl]; exact lg_cmp_self
    refine ⟨u, some (.int 0), some (.int b), l7, l8, fun Q => ?_, O.1.1, O.2⟩
    simp only [s_244_326, s_244_327, s_244_328, s_244_329, s_244_330, gs_scr f_244_331, s_244_332, s_244_333, s_244_334, s_244_335, s_244_336, s_244_337, s_244_338, s_244_339, gs_scr f_244_340, s_244_341, s_244_342, s_244_343, s_244_344, s_244_345, s_244_346, s_244_347, s_244_348, s_244_349, s_244_350, s_244_351, s_244_352, s_244_353, s_244_354, s_244_355, s_244_356, s_244_357, s_244_358, s_244_359, s_244_360, z1, h1, h2, g123, yA_183, yn_183, hcmp, yO_0, yO_160, e1, j1, c1, ne_eq, not_true_eq_false, not_false_eq_true, if_true, if_false, eq_self_iff_true, yix01, ycl0, Gk_v, Gk_n, xcat_nil, xcat_i, xcat_r, xcat_l, xcat_d, Nat.zero_le, Nat.reduceAdd, Nat.reduceLeDiff, true_and, and_true, ykl_i, ykl_r, ykl_n, ykl_l]
  · refine ⟨u, some (.int c), some (.int b), l7, l8, fun Q => ?_, O.1.1, O.2⟩
    simp only [s_244_326, s_244_327, s_244_328, s_244_329, s_244_330, gs_scr f_244_331, s_244_332, s_244_333, s_244_334, s_244_335, s_244_336, s_244_337, s_244_338, s_244_339, gs_scr f_244_340, s_244_341, s_244_342, s_244_343, s_244_344, s_244_345, s_244_346, s_244_347, s_244_348, s_244_349, s_244_350, s_244_351, s_244_352, s_244_353, s_244_354, s_244_355, s_244_356, s_244_357, s_244_358, s_244_359, s_244_360, z1, h1, h2, g123, hc, yO_0, yO_160, e1, j1, c1, ne_eq, not_true_eq_false, not_false_eq_true, if_true, if_false, eq_self_iff_true, yix01, ycl0, Gk_v, Gk_n, xcat_nil, xcat_i, xcat_r, xcat_l, xcat_d, Nat.zero_le, Nat.reduceAdd, Nat.reduceLeDiff, true_and, and_true, ykl_i, ykl_r, ykl_n, ykl_l]
theorem c_233 (I : yInv t) (hz : t.z.1.1 < 898000) (hi : i + 6 ≤ t.z.2.1) (hL : t.z.2.1 ≤ 3072) : yCase (d + 100) 361 t i := by
  intro l5 l6 l7 l8
  have e1 : yI i + 1 = yI (i + 1) := yI_add
  have j1 : yix (yI (i + 1)) t.z.2.1 := yix_I (by omega) (by omega)
  have c1 : (yI (i + 1)).toNatClampNeg = i + 1 := yI_clamp (by omega)
  obtain ⟨u1, u, c, b, h1, h2, O⟩ := k_233 (d := 0) I (by omega) (t.z.2.2 (i + 1))
  have z1 := Ra_z h1
  have h1 := Ra_le (d' := d + 99) h1 (by omega)
  have h2 := Ra_le (d' := d + 99) h2 (by omega)
  have g123 := m_123 (d := d + 99) (t := u)
  rw [O.1.2.1] at g123
  by_cases hc : c = 0
  · subst hc
    have hcmp : lg_cmp (u.L 183 0) b.toInt64 = 0 := by rw [O.1.2.2 rfl]; exact lg_cmp_self
    refine ⟨u, some (.int 0), some (.int b), l7, l8, fun Q => ?_, O.1.1, O.2⟩
    simp only [s_244_361, s_244_362, s_244_363, s_244_364, s_244_365, gs_scr f_244_366, s_244_367, s_244_368, s_244_369, s_244_370, s_244_371, s_244_372, s_244_373, s_244_374, gs_scr f_244_375, s_244_376, s_244_377, s_244_378, s_244_379, s_244_380, s_244_381, s_244_382, s_244_383, s_244_384, s_244_385, s_244_386, s_244_387, s_244_388, s_244_389, s_244_390, s_244_391, s_244_392, s_244_393, s_244_394, s_244_395, z1, h1, h2, g123, yA_183, yn_183, hcmp, yO_0, yO_160, e1, j1, c1, ne_eq, not_true_eq_false, not_false_eq_true, if_true, if_false, eq_self_iff_true, yix01, ycl0, Gk_v, Gk_n, xcat_nil, xcat_i, xcat_r, xcat_l, xcat_d, Nat.zero_le, Nat.reduceAdd, Nat.reduceLeDiff, true_and, and_true, ykl_i, ykl_r, ykl_n, ykl_l]
  · refine ⟨u, some (.int c), some (.int b), l7, l8, fun Q => ?_, O.1.1, O.2⟩
    simp only [s_244_361, s_244_362, s_244_363, s_244_364, s_244_365, gs_scr f_244_366, s_244_367, s_244_368, s_244_369, s_244_370, s_244_371, s_244_372, s_244_373, s_244_374, gs_scr f_244_375, s_244_376, s_244_377, s_244_378, s_244_379, s_244_380, s_244_381, s_244_382, s_244_383, s_244_384, s_244_385, s_244_386, s_244_387, s_244_388, s_244_389, s_244_390, s_244_391, s_244_392, s_244_393, s_244_394, s_244_395, z1, h1, h2, g123, hc, yO_0, yO_160, e1, j1, c1, ne_eq, not_true_eq_false, not_false_eq_true, if_true, if_false, eq_self_iff_true, yix01, ycl0, Gk_v, Gk_n, xcat_nil, xcat_i, xcat_r, xcat_l, xcat_d, Nat.zero_le, Nat.reduceAdd, Nat.reduceLeDiff, true_and, and_true, ykl_i, ykl_r, ykl_n, ykl_l]
theorem c_234 (I : yInv t) (hz : t.z.1.1 < 898000) (hi : i + 6 ≤ t.z.2.1) (hL : t.z.2.1 ≤ 3072) : yCase (d + 100) 396 t i := by
  intro l5 l6 l7 l8
  have e1 : yI i + 1 = yI (i + 1) := yI_add
  have j1 : yix (yI (i + 1)) t.z.2.1 := yix_I (by omega) (by omega)
  have c1 : (yI (i + 1)).toNatClampNeg = i + 1 := yI_clamp (by omega)
  obtain ⟨u1, u, c, b, h1, h2, O⟩ := k_234 (d := 0) I (by omega) (t.z.2.2 (i + 1))
  have z1 := Ra_z h1
  have h1 := Ra_le (d' := d + 99) h1 (by omega)
  have h2 := Ra_le (d' := d + 99) h2 (by omega)
  have g123 := m_123 (d := d + 99) (t := u)
  rw [O.1.2.1] at g123
  by_cases hc : c = 0
  · subst hc
    have hcmp : lg_cmp (u.L 183 0) b = 0 := by rw [O.1.2.2 rfl]; exact lg_cmp_self
    refine ⟨u, some (.int 0), some (.long b), none, l8, fun Q => ?_, O.1.1, O.2⟩
    simp only [s_244_396, s_244_397, s_244_398, s_244_399, s_244_400, gs_scr f_244_401, s_244_402, s_244_403, s_244_404, s_244_405, s_244_406, s_244_407, s_244_408, s_244_409, gs_scr f_244_410, s_244_411, s_244_412, s_244_413, s_244_414, s_244_415, s_244_416, s_244_417, s_244_418, s_244_419, s_244_420, s_244_421, s_244_422, s_244_423, s_244_424, s_244_425, s_244_426, s_244_427, s_244_428, s_244_429, z1, h1, h2, g123, yA_183, yn_183, hcmp, yO_0, yO_160, e1, j1, c1, ne_eq, not_true_eq_false, not_false_eq_true, if_true, if_false, eq_self_iff_true, yix01, ycl0, Gk_v, Gk_n, xcat_nil, xcat_i, xcat_r, xcat_l, xcat_d, Nat.zero_le, Nat.reduceAdd, Nat.reduceLeDiff, true_and, and_true, ykl_i, ykl_r, ykl_n, ykl_l]
  · refine ⟨u, some (.int c), some (.long b), none, l8, fun Q => ?_, O.1.1, O.2⟩
    simp only [s_244_396, s_244_397, s_244_398, s_244_399, s_244_400, gs_scr f_244_401, s_244_402, s_244_403, s_244_404, s_244_405, s_244_406, s_244_407, s_244_408, s_244_409, gs_scr f_244_410, s_244_411, s_244_412, s_244_413, s_244_414, s_244_415, s_244_416, s_244_417, s_244_418, s_244_419, s_244_420, s_244_421, s_244_422, s_244_423, s_244_424, s_244_425, s_244_426, s_244_427, s_244_428, s_244_429, z1, h1, h2, g123, hc, yO_0, yO_160, e1, j1, c1, ne_eq, not_true_eq_false, not_false_eq_true, if_true, if_false, eq_self_iff_true, yix01, ycl0, Gk_v, Gk_n, xcat_nil, xcat_i, xcat_r, xcat_l, xcat_d, Nat.zero_le, Nat.reduceAdd, Nat.reduceLeDiff, true_and, and_true, ykl_i, ykl_r, ykl_n, ykl_l]
theorem c_106 (I : yInv t) (hz : t.z.1.1 < 898000) (hi : i + 6 ≤ t.z.2.1) (hL : t.z.2.1 ≤ 3072) : yCase (d + 100) 430 t i := by
  intro l5 l6 l7 l8
  obtain ⟨u1, u, v, h1, h2, O⟩ := k_106 (d := 0) I 
  have z1 := Ra_z h1
  have h1 := Ra_le (d' := d + 99) h1 (by omega)
  have h2 := Ra_le (d' := d + 99) h2 (by omega)
  refine ⟨u, l5, l6, l7, l8, fun Q => ?_, O.1.1, O.2⟩
  simp only [s_244_430, s_244_431, s_244_432, s_244_433, s_244_434, s_244_435, s_244_436, z1, h1, h2, yO_0, yO_160, ne_eq, not_true_eq_false, not_false_eq_true, if_true, if_false, eq_self_iff_true, yix01, ycl0, Gk_v, Gk_n, xcat_nil, xcat_i, xcat_r, xcat_l, xcat_d, Nat.zero_le, Nat.reduceAdd, Nat.reduceLeDiff, true_and, and_true, ykl_i, ykl_r, ykl_n, ykl_l]
theorem c_107 (I : yInv t) (hz : t.z.1.1 < 898000) (hi : i + 6 ≤ t.z.2.1) (hL : t.z.2.1 ≤ 3072) : yCase (d + 100) 437 t i := by
  intro l5 l6 l7 l8
  obtain ⟨u, v, h1, h2, O⟩ := k_107 (d := 0) I 
  have h1 := Ra_le (d' := d + 99) h1 (by omega)
  have h2 := Ra_le (d' := d + 99) h2 (by omega)
  refine ⟨u, some (.double v), none, some (.double v), none, fun Q => ?_, O.1.1, O.2⟩
  by_cases hv : Op.cmpValue (FP.dcmp v v) .l = 0
  · simp only [s_244_437, s_244_438, s_244_439, s_244_440, s_244_441, s_244_442, s_244_443, s_244_444, s_244_445, s_244_446, s_244_447, s_244_448, s_244_449, s_244_450, s_244_451, s_244_452, s_244_453, s_244_454, s_244_455, s_244_456, s_244_457, h1, h2, hv, ykl_d, yO_0, yO_160, ne_eq, not_true_eq_false, not_false_eq_true, if_true, if_false, eq_self_iff_true, yix01, ycl0, Gk_v, Gk_n, xcat_nil, xcat_i, xcat_r, xcat_l, xcat_d, Nat.zero_le, Nat.reduceAdd, Nat.reduceLeDiff, true_and, and_true, ykl_i, ykl_r, ykl_n, ykl_l]
  · simp only [s_244_437, s_244_438, s_244_439, s_244_440, s_244_441, s_244_442, s_244_443, s_244_444, s_244_445, s_244_446, s_244_447, s_244_448, s_244_449, s_244_450, s_244_451, s_244_452, s_244_453, s_244_454, s_244_455, s_244_456, s_244_457, h1, h2, hv, ykl_d, yO_0, yO_160, ne_eq, not_true_eq_false, not_false_eq_true, if_true, if_false, eq_self_iff_true, yix01, ycl0, Gk_v, Gk_n, xcat_nil, xcat_i, xcat_r, xcat_l, xcat_d, Nat.zero_le, Nat.reduceAdd, Nat.reduceLeDiff, true_and, and_true, ykl_i, ykl_r, ykl_n, ykl_l]
theorem c_235 (I : yInv t) (hz : t.z.1.1 < 898000) (hi : i + 6 ≤ t.z.2.1) (hL : t.z.2.1 ≤ 3072) : yCase (d + 100) 458 t i := by
  intro l5 l6 l7 l8
  have e1 : yI i + 1 = yI (i + 1) := yI_add
  have j1 : yix (yI (i + 1)) t.z.2.1 := yix_I (by omega) (by omega)
  have c1 : (yI (i + 1)).toNatClampNeg = i + 1 := yI_clamp (by omega)
  have e2 : yI i + 2 = yI (i + 2) := yI_add
  have j2 : yix (yI (i + 2)) t.z.2.1 := yix_I (by omega) (by omega)
  have c2 : (yI (i + 2)).toNatClampNeg = i + 2 := yI_clamp (by omega)
  have e3 : yI i + 3 = yI (i + 3) := yI_add
  have j3 : yix (yI (i + 3)) t.z.2.1 := yix_I (by omega) (by omega)
  have c3 : (yI (i + 3)).toNatClampNeg = i + 3 := yI_clamp (by omega)
  have e4 : yI i + 4 = yI (i + 4) := yI_add
  have j4 : yix (yI (i + 4)) t.z.2.1 := yix_I (by omega) (by omega)
  have c4 : (yI (i + 4)).toNatClampNeg = i + 4 := yI_clamp (by omega)
  have e5 : yI i + 5 = yI (i + 5) := yI_add
  have j5 : yix (yI (i + 5)) t.z.2.1 := yix_I (by omega) (by omega)
  have c5 : (yI (i + 5)).toNatClampNeg = i + 5 := yI_clamp (by omega)
  obtain ⟨u1, u, c, b, h1, h2, O⟩ := k_235 (d := 0) I (by omega) (t.z.2.2 (i + 1)) (t.z.2.2 (i + 2)) (t.z.2.2 (i + 3)) (t.z.2.2 (i + 4)) (t.z.2.2 (i + 5))
  have z1 := Ra_z h1
  have h1 := Ra_le (d' := d + 99) h1 (by omega)
  have h2 := Ra_le (d' := d + 99) h2 (by omega)
  have g123 := m_123 (d := d + 99) (t := u)
  rw [O.1.2.1] at g123
  by_cases hc : c = 0
  · subst hc
    have hcmp : lg_cmp (u.L 183 0) b.toInt64 = 0 := by rw [O.1.2.2 rfl]; exact lg_cmp_self
    refine ⟨u, some (.int 0), some (.int b), l7, l8, fun Q => ?_, O.1.1, O.2⟩
    simp only [s_244_458, s_244_459, s_244_460, s_244_461, s_244_462, gs_scr f_244_463, s_244_464, s_244_465, s_244_466, s_244_467, gs_scr f_244_468, s_244_469, s_244_470, s_244_471, s_244_472, gs_scr f_244_473, s_244_474, s_244_475, s_244_476, s_244_477, gs_scr f_244_478, s_244_479, s_244_480, s_244_481, s_244_482, gs_scr f_244_483, s_244_484, s_244_485, s_244_486, s_244_487, s_244_488, s_244_489, s_244_490, s_244_491, gs_scr f_244_492, s_244_493, s_244_494, s_244_495, s_244_496, gs_scr f_244_497, s_244_498, s_244_499, s_244_500, s_244_501, gs_scr f_244_502, s_244_503, s_244_504, s_244_505, s_244_506, gs_scr f_244_507, s_244_508, s_244_509, s_244_510, s_244_511, gs_scr f_244_512, s_244_513, s_244_514, s_244_515, s_244_516, s_244_517, s_244_518, s_244_519, s_244_520, s_244_521, s_244_522, s_244_523, s_244_524, s_244_525, s_244_526, s_244_527, s_244_528, s_244_529, s_244_530, s_244_531, s_244_532, z1, h1, h2, g123, yA_183, yn_183, hcmp, yO_0, yO_160, e1, j1, c1, e2, j2, c2, e3, j3, c3, e4, j4, c4, e5, j5, c5, ne_eq, not_true_eq_false, not_false_eq_true, if_true, if_false, eq_self_iff_true, yix01, ycl0, Gk_v, Gk_n, xcat_nil, xcat_i, xcat_r, xcat_l, xcat_d, Nat.zero_le, Nat.reduceAdd, Nat.reduceLeDiff, true_and, and_true, ykl_i, ykl_r, ykl_n, ykl_l]
  · refine ⟨u, some (.int c), some (.int b), l7, l8, fun Q => ?_, O.1.1, O.2⟩
    simp only [s_244_458, s_244_459, s_244_460, s_244_461, s_244_462, gs_scr f_244_463, s_244_464, s_244_465, s_244_466, s_244_467, gs_scr f_244_468, s_244_469, s_244_470, s_244_471, s_244_472, gs_scr f_244_473, s_244_474, s_244_475, s_244_476, s_244_477, gs_scr f_244_478, s_244_479, s_244_480, s_244_481, s_244_482, gs_scr f_244_483, s_244_484, s_244_485, s_244_486, s_244_487, s_244_488, s_244_489, s_244_490, s_244_491, gs_scr f_244_492, s_244_493, s_244_494, s_244_495, s_244_496, gs_scr f_244_497, s_244_498, s_244_499, s_244_500, s_244_501, gs_scr f_244_502, s_244_503, s_244_504, s_244_505, s_244_506, gs_scr f_244_507, s_244_508, s_244_509, s_244_510, s_244_511, gs_scr f_244_512, s_244_513, s_244_514, s_244_515, s_244_516, s_244_517, s_244_518, s_244_519, s_244_520, s_244_521, s_244_522, s_244_523, s_244_524, s_244_525, s_244_526, s_244_527, s_244_528, s_244_529, s_244_530, s_244_531, s_244_532, z1, h1, h2, g123, hc, yO_0, yO_160, e1, j1, c1, e2, j2, c2, e3, j3, c3, e4, j4, c4, e5, j5, c5, ne_eq, not_true_eq_false, not_false_eq_true, if_true, if_false, eq_self_iff_true, yix01, ycl0, Gk_v, Gk_n, xcat_nil, xcat_i, xcat_r, xcat_l, xcat_d, Nat.zero_le, Nat.reduceAdd, Nat.reduceLeDiff, true_and, and_true, ykl_i, ykl_r, ykl_n, ykl_l]
theorem c_236 (I : yInv t) (hz : t.z.1.1 < 898000) (hi : i + 6 ≤ t.z.2.1) (hL : t.z.2.1 ≤ 3072) : yCase (d + 100) 533 t i := by
  intro l5 l6 l7 l8
  have e1 : yI i + 1 = yI (i + 1) := yI_add
  have j1 : yix (yI (i + 1)) t.z.2.1 := yix_I (by omega) (by omega)
  have c1 : (yI (i + 1)).toNatClampNeg = i + 1 := yI_clamp (by omega)
  obtain ⟨u1, u, c, b, h1, h2, O⟩ := k_236 (d := 0) I (by omega) (t.z.2.2 (i + 1))
  have z1 := Ra_z h1
  have h1 := Ra_le (d' := d + 99) h1 (by omega)
  have h2 := Ra_le (d' := d + 99) h2 (by omega)
  have g123 := m_123 (d := d + 99) (t := u)
  rw [O.1.2.1] at g123
  by_cases hc : c = 0
  · subst hc
    have hcmp : lg_cmp (u.L 183 0) b.toInt64 = 0 := by rw [O.1.2.2 rfl]; exact lg_cmp_self
    refine ⟨u, some (.int 0), some (.int b), l7, l8, fun Q => ?_, O.1.1, O.2⟩
    simp only [s_244_533, s_244_534, s_244_535, s_244_536, s_244_537, gs_scr f_244_538, s_244_539, s_244_540, s_244_541, s_244_542, s_244_543, s_244_544, s_244_545, s_244_546, gs_scr f_244_547, s_244_548, s_244_549, s_244_550, s_244_551, s_244_552, s_244_553, s_244_554, s_244_555, s_244_556, s_244_557, s_244_558, s_244_559, s_244_560, s_244_561, s_244_562, s_244_563, s_244_564, s_244_565, s_244_566, s_244_567, z1, h1, h2, g123, yA_183, yn_183, hcmp, yO_0, yO_160, e1, j1, c1, ne_eq, not_true_eq_false, not_false_eq_true, if_true, if_false, eq_self_iff_true, yix01, ycl0, Gk_v, Gk_n, xcat_nil, xcat_i, xcat_r, xcat_l, xcat_d, Nat.zero_le, Nat.reduceAdd, Nat.reduceLeDiff, true_and, and_true, ykl_i, ykl_r, ykl_n, ykl_l]
  · refine ⟨u, some (.int c), some (.int b), l7, l8, fun Q => ?_, O.1.1, O.2⟩
    simp only [s_244_533, s_244_534, s_244_535, s_244_536, s_244_537, gs_scr f_244_538, s_244_539, s_244_540, s_244_541, s_244_542, s_244_543, s_244_544, s_244_545, s_244_546, gs_scr f_244_547, s_244_548, s_244_549, s_244_550, s_244_551, s_244_552, s_244_553, s_244_554, s_244_555, s_244_556, s_244_557, s_244_558, s_244_559, s_244_560, s_244_561, s_244_562, s_244_563, s_244_564, s_244_565, s_244_566, s_244_567, z1, h1, h2, g123, hc, yO_0, yO_160, e1, j1, c1, ne_eq, not_true_eq_false, not_false_eq_true, if_true, if_false, eq_self_iff_true, yix01, ycl0, Gk_v, Gk_n, xcat_nil, xcat_i, xcat_r, xcat_l, xcat_d, Nat.zero_le, Nat.reduceAdd, Nat.reduceLeDiff, true_and, and_true, ykl_i, ykl_r, ykl_n, ykl_l]
theorem c_237 (I : yInv t) (hz : t.z.1.1 < 898000) (hi : i + 6 ≤ t.z.2.1) (hL : t.z.2.1 ≤ 3072) : yCase (d + 100) 568 t i := by
  intro l5 l6 l7 l8
  have e1 : yI i + 1 = yI (i + 1) := yI_add
  have j1 : yix (yI (i + 1)) t.z.2.1 := yix_I (by omega) (by omega)
  have c1 : (yI (i + 1)).toNatClampNeg = i + 1 := yI_clamp (by omega)
  obtain ⟨u1, u, c, b, h1, h2, O⟩ := k_237 (d := 0) I (by omega) (t.z.2.2 (i + 1))
  have z1 := Ra_z h1
  have h1 := Ra_le (d' := d + 99) h1 (by omega)
  have h2 := Ra_le (d' := d + 99) h2 (by omega)
  have g123 := m_123 (d := d + 99) (t := u)
  rw [O.1.2.1] at g123
  by_cases hc : c = 0
  · subst hc
    have hcmp : lg_cmp (u.L 183 0) b.toInt64 = 0 := by rw [O.1.2.2 rfl]; exact lg_cmp_self
    refine ⟨u, some (.int 0), some (.int b), l7, l8, fun Q => ?_, O.1.1, O.2⟩
    simp only [s_244_568, s_244_569, s_244_570, s_244_571, s_244_572, gs_scr f_244_573, s_244_574, s_244_575, s_244_576, s_244_577, s_244_578, s_244_579, s_244_580, s_244_581, gs_scr f_244_582, s_244_583, s_244_584, s_244_585, s_244_586, s_244_587, s_244_588, s_244_589, s_244_590, s_244_591, s_244_592, s_244_593, s_244_594, s_244_595, s_244_596, s_244_597, s_244_598, s_244_599, s_244_600, s_244_601, s_244_602, z1, h1, h2, g123, yA_183, yn_183, hcmp, yO_0, yO_160, e1, j1, c1, ne_eq, not_true_eq_false, not_false_eq_true, if_true, if_false, eq_self_iff_true, yix01, ycl0, Gk_v, Gk_n, xcat_nil, xcat_i, xcat_r, xcat_l, xcat_d, Nat.zero_le, Nat.reduceAdd, Nat.reduceLeDiff, true_and, and_true, ykl_i, ykl_r, ykl_n, ykl_l]
  · refine ⟨u, some (.int c), some (.int b), l7, l8, fun Q => ?_, O.1.1, O.2⟩
    simp only [s_244_568, s_244_569, s_244_570, s_244_571, s_244_572, gs_scr f_244_573, s_244_574, s_244_575, s_244_576, s_244_577, s_244_578, s_244_579, s_244_580, s_244_581, gs_scr f_244_582, s_244_583, s_244_584, s_244_585, s_244_586, s_244_587, s_244_588, s_244_589, s_244_590, s_244_591, s_244_592, s_244_593, s_244_594, s_244_595, s_244_596, s_244_597, s_244_598, s_244_599, s_244_600, s_244_601, s_244_602, z1, h1, h2, g123, hc, yO_0, yO_160, e1, j1, c1, ne_eq, not_true_eq_false, not_false_eq_true, if_true, if_false, eq_self_iff_true, yix01, ycl0, Gk_v, Gk_n, xcat_nil, xcat_i, xcat_r, xcat_l, xcat_d, Nat.zero_le, Nat.reduceAdd, Nat.reduceLeDiff, true_and, and_true, ykl_i, ykl_r, ykl_n, ykl_l]
theorem c_238 (I : yInv t) (hz : t.z.1.1 < 898000) (hi : i + 6 ≤ t.z.2.1) (hL : t.z.2.1 ≤ 3072) : yCase (d + 100) 603 t i := by
  intro l5 l6 l7 l8
  have e1 : yI i + 1 = yI (i + 1) := yI_add
  have j1 : yix (yI (i + 1)) t.z.2.1 := yix_I (by omega) (by omega)
  have c1 : (yI (i + 1)).toNatClampNeg = i + 1 := yI_clamp (by omega)
  obtain ⟨u1, u, c, b, h1, h2, O⟩ := k_238 (d := 0) I (by omega) (t.z.2.2 (i + 1))
  have z1 := Ra_z h1
  have h1 := Ra_le (d' := d + 99) h1 (by omega)
  have h2 := Ra_le (d' := d + 99) h2 (by omega)
  have g123 := m_123 (d := d + 99) (t := u)
  rw [O.1.2.1] at g123
  by_cases hc : c = 0
  · subst hc
    have hcmp : lg_cmp (u.L 183 0) b.toInt64 = 0 := by rw [O.1.2.2 rfl]; exact lg_cmp_self
    refine ⟨u, some (.int 0), some (.int b), l7, l8, fun Q => ?_, O.1.1, O.2⟩
    simp only [s_244_603, s_244_604, s_244_605, s_244_606, s_244_607, gs_scr f_244_608, s_244_609, s_244_610, s_244_611, s_244_612, s_244_613, s_244_614, s_244_615, s_244_616, gs_scr f_244_617, s_244_618, s_244_619, s_244_620, s_244_621, s_244_622, s_244_623, s_244_624, s_244_625, s_244_626, s_244_627, s_244_628, s_244_629, s_244_630, s_244_631, s_244_632, s_244_633, s_244_634, s_244_635, s_244_636, s_244_637, z1, h1, h2, g123, yA_183, yn_183, hcmp, yO_0, yO_160, e1, j1, c1, ne_eq, not_true_eq_false, not_false_eq_true, if_true, if_false, eq_self_iff_true, yix01, ycl0, Gk_v, Gk_n, xcat_nil, xcat_i, xcat_r, xcat_l, xcat_d, Nat.zero_le, Nat.reduceAdd, Nat.reduceLeDiff, true_and, and_true, ykl_i, ykl_r, ykl_n, ykl_l]
  · refine ⟨u, some (.int c), some (.int b), l7, l8, fun Q => ?_, O.1.1, O.2⟩
    simp only [s_244_603, s_244_604, s_244_605, s_244_606, s_244_607, gs_scr f_244_608, s_244_609, s_244_610, s_244_611, s_244_612, s_244_613, s_244_614, s_244_615, s_244_616, gs_scr f_244_617, s_244_618, s_244_619, s_244_620, s_244_621, s_244_622, s_244_623, s_244_624, s_244_625, s_244_626, s_244_627, s_244_628, s_244_629, s_244_630, s_244_631, s_244_632, s_244_633, s_244_634, s_244_635, s_244_636, s_244_637, z1, h1, h2, g123, hc, yO_0, yO_160, e1, j1, c1, ne_eq, not_true_eq_false, not_false_eq_true, if_true, if_false, eq_self_iff_true, yix01, ycl0, Gk_v, Gk_n, xcat_nil, xcat_i, xcat_r, xcat_l, xcat_d, Nat.zero_le, Nat.reduceAdd, Nat.reduceLeDiff, true_and, and_true, ykl_i, ykl_r, ykl_n, ykl_l]
theorem c_239 (I : yInv t) (hz : t.z.1.1 < 898000) (hi : i + 6 ≤ t.z.2.1) (hL : t.z.2.1 ≤ 3072) : yCase (d + 100) 638 t i := by
  intro l5 l6 l7 l8
  have e1 : yI i + 1 = yI (i + 1) := yI_add
  have j1 : yix (yI (i + 1)) t.z.2.1 := yix_I (by omega) (by omega)
  have c1 : (yI (i + 1)).toNatClampNeg = i + 1 := yI_clamp (by omega)
  have e2 : yI i + 2 = yI (i + 2) := yI_add
  have j2 : yix (yI (i + 2)) t.z.2.1 := yix_I (by omega) (by omega)
  have c2 : (yI (i + 2)).toNatClampNeg = i + 2 := yI_clamp (by omega)
  obtain ⟨o, ho⟩ : ∃ o : Bool, o = !decide (t.z.2.2 (i + 2) = 0) := ⟨_, rfl⟩
  obtain ⟨u1, u, c, b, h1, h2, O⟩ := k_239 (d := 0) I (by omega) (t.z.2.2 (i + 1)) o
  have z1 := Ra_z h1
  have h1 := Ra_le (d' := d + 99) h1 (by omega)
  have h2 := Ra_le (d' := d + 99) h2 (by omega)
  have g123 := m_123 (d := d + 99) (t := u)
  rw [O.1.2.1] at g123
  have hO : (c = 0 → u.L 183 0 = if b = true then 1 else 0) := O.1.2.2
  have fin : yStep t u := ⟨O.1.1, O.2⟩
  clear O I
  by_cases h0 : t.z.2.2 (i + 2) = 0
  · rw [decide_eq_true h0, Bool.not_true] at ho
    subst ho
    have h1 : Ra (d + 99) 239 [.ref 0, .int (t.z.2.2 (i + 1)), .int 0, .ref 183] (yemb t) (.inl (some (.int c))) (yemb u1) := h1
    have h2 : Ra (d + 99) 208 [.ref 160, .int (t.z.2.2 (i + 1)), .int 0] (yemb u1) (.inl (some (.int (yb b)))) (yemb u) := h2
    by_cases hc : c = 0
    · subst hc
      cases b
      · have hcmp : lg_cmp (u.L 183 0) 0 = 0 := by rw [hO rfl]; rfl
        have h2 : Ra (d + 99) 208 [.ref 160, .int (t.z.2.2 (i + 1)), .int 0] (yemb u1) (.inl (some (.int 0))) (yemb u) := h2
        refine ⟨u, some (.int 0), some (.int 0), l7, l8, fun Q => ?_, fin⟩
        simp only [s_244_638, s_244_639, s_244_640, s_244_641, s_244_642, gs_scr f_244_643, s_244_644, s_244_645, s_244_646, s_244_647, gs_scr f_244_648, s_244_649, s_244_650, s_244_651, s_244_652, s_244_653, s_244_654, s_244_655, s_244_656, s_244_657, s_244_658, s_244_659, s_244_660, gs_scr f_244_661, s_244_662, s_244_663, s_244_664, s_244_665, gs_scr f_244_666, s_244_667, s_244_668, s_244_669, s_244_670, s_244_671, s_244_672, s_244_673, s_244_674, s_244_675, s_244_676, s_244_677, s_244_678, s_244_679, s_244_680, s_244_681, s_244_682, s_244_683, s_244_684, s_244_685, s_244_686, s_244_687, s_244_688, s_244_689, s_244_690, s_244_691, s_244_692, s_244_693, z1, h0, h1, h2, g123, yA_183, yn_183, hcmp, yne10, yO_0, yO_160, e1, j1, c1, e2, j2, c2, ne_eq, not_true_eq_false, not_false_eq_true, if_true, if_false, eq_self_iff_true, yix01, ycl0, Gk_v, Gk_n, xcat_nil, xcat_i, xcat_r, xcat_l, xcat_d, Nat.zero_le, Nat.reduceAdd, Nat.reduceLeDiff, true_and, and_true, ykl_i, ykl_r, ykl_n, ykl_l]
      · have hcmp : lg_cmp (u.L 183 0) 1 = 0 := by rw [hO rfl]; rfl
        have h2 : Ra (d + 99) 208 [.ref 160, .int (t.z.2.2 (i + 1)), .int 0] (yemb u1) (.inl (some (.int 1))) (yemb u) := h2
        refine ⟨u, some (.int 0), some (.int 1), l7, l8, fun Q => ?_, fin⟩
        simp only [s_244_638, s_244_639, s_244_640, s_244_641, s_244_642, gs_scr f_244_643, s_244_644, s_244_645, s_244_646, s_244_647, gs_scr f_244_648, s_244_649, s_244_650, s_244_651, s_244_652, s_244_653, s_244_654, s_244_655, s_244_656, s_244_657, s_244_658, s_244_659, s_244_660, gs_scr f_244_661, s_244_662, s_244_663, s_244_664, s_244_665, gs_scr f_244_666, s_244_667, s_244_668, s_244_669, s_244_670, s_244_671, s_244_672, s_244_673, s_244_674, s_244_675, s_244_676, s_244_677, s_244_678, s_244_679, s_244_680, s_244_681, s_244_682, s_244_683, s_244_684, s_244_685, s_244_686, s_244_687, s_244_688, s_244_689, s_244_690, s_244_691, s_244_692, s_244_693, z1, h0, h1, h2, g123, yA_183, yn_183, hcmp, yne10, yO_0, yO_160, e1, j1, c1, e2, j2, c2, ne_eq, not_true_eq_false, not_false_eq_true, if_true, if_false, eq_self_iff_true, yix01, ycl0, Gk_v, Gk_n, xcat_nil, xcat_i, xcat_r, xcat_l, xcat_d, Nat.zero_le, Nat.reduceAdd, Nat.reduceLeDiff, true_and, and_true, ykl_i, ykl_r, ykl_n, ykl_l]
    · refine ⟨u, some (.int c), some (.int (yb b)), l7, l8, fun Q => ?_, fin⟩
      simp only [s_244_638, s_244_639, s_244_640, s_244_641, s_244_642, gs_scr f_244_643, s_244_644, s_244_645, s_244_646, s_244_647, gs_scr f_244_648, s_244_649, s_244_650, s_244_651, s_244_652, s_244_653, s_244_654, s_244_655, s_244_656, s_244_657, s_244_658, s_244_659, s_244_660, gs_scr f_244_661, s_244_662, s_244_663, s_244_664, s_244_665, gs_scr f_244_666, s_244_667, s_244_668, s_244_669, s_244_670, s_244_671, s_244_672, s_244_673, s_244_674, s_244_675, s_244_676, s_244_677, s_244_678, s_244_679, s_244_680, s_244_681, s_244_682, s_244_683, s_244_684, s_244_685, s_244_686, s_244_687, s_244_688, s_244_689, s_244_690, s_244_691, s_244_692, s_244_693, z1, h0, h1, h2, g123, hc, yO_0, yO_160, e1, j1, c1, e2, j2, c2, ne_eq, not_true_eq_false, not_false_eq_true, if_true, if_false, eq_self_iff_true, yix01, ycl0, Gk_v, Gk_n, xcat_nil, xcat_i, xcat_r, xcat_l, xcat_d, Nat.zero_le, Nat.reduceAdd, Nat.reduceLeDiff, true_and, and_true, ykl_i, ykl_r, ykl_n, ykl_l]
  · rw [decide_eq_false h0, Bool.not_false] at ho
    subst ho
    have h1 : Ra (d + 99) 239 [.ref 0, .int (t.z.2.2 (i + 1)), .int 1, .ref 183] (yemb t) (.inl (some (.int c))) (yemb u1) := h1
    have h2 : Ra (d + 99) 208 [.ref 160, .int (t.z.2.2 (i + 1)), .int 1] (yemb u1) (.inl (some (.int (yb b)))) (yemb u) := h2
    by_cases hc : c = 0
    · subst hc
      cases b
      · have hcmp : lg_cmp (u.L 183 0) 0 = 0 := by rw [hO rfl]; rfl
        have h2 : Ra (d + 99) 208 [.ref 160, .int (t.z.2.2 (i + 1)), .int 1] (yemb u1) (.inl (some (.int 0))) (yemb u) := h2
        refine ⟨u, some (.int 0), some (.int 0), l7, l8, fun Q => ?_, fin⟩
        simp only [s_244_638, s_244_639, s_244_640, s_244_641, s_244_642, gs_scr f_244_643, s_244_644, s_244_645, s_244_646, s_244_647, gs_scr f_244_648, s_244_649, s_244_650, s_244_651, s_244_652, s_244_653, s_244_654, s_244_655, s_244_656, s_244_657, s_244_658, s_244_659, s_244_660, gs_scr f_244_661, s_244_662, s_244_663, s_244_664, s_244_665, gs_scr f_244_666, s_244_667, s_244_668, s_244_669, s_244_670, s_244_671, s_244_672, s_244_673, s_244_674, s_244_675, s_244_676, s_244_677, s_244_678, s_244_679, s_244_680, s_244_681, s_244_682, s_244_683, s_244_684, s_244_685, s_244_686, s_244_687, s_244_688, s_244_689, s_244_690, s_244_691, s_244_692, s_244_693, z1, h0, h1, h2, g123, yA_183, yn_183, hcmp, yne10, yO_0, yO_160, e1, j1, c1, e2, j2, c2, ne_eq, not_true_eq_false, not_false_eq_true, if_true, if_false, eq_self_iff_true, yix01, ycl0, Gk_v, Gk_n, xcat_nil, xcat_i, xcat_r, xcat_l, xcat_d, Nat.zero_le, Nat.reduceAdd, Nat.reduceLeDiff, true_and, and_true, ykl_i, ykl_r, ykl_n, ykl_l]
      · have hcmp : lg_cmp (u.L 183 0) 1 = 0 := by rw [hO rfl]; rfl
        have h2 : Ra (d + 99) 208 [.ref 160, .int (t.z.2.2 (i + 1)), .int 1] (yemb u1) (.inl (some (.int 1))) (yemb u) := h2
        refine ⟨u, some (.int 0), some (.int 1), l7, l8, fun Q => ?_, fin⟩
        simp only [s_244_638, s_244_639, s_244_640, s_244_641, s_244_642, gs_scr f_244_643, s_244_644, s_244_645, s_244_646, s_244_647, gs_scr f_244_648, s_244_649, s_244_650, s_244_651, s_244_652, s_244_653, s_244_654, s_244_655, s_244_656, s_244_657, s_244_658, s_244_659, s_244_660, gs_scr f_244_661, s_244_662, s_244_663, s_244_664, s_244_665, gs_scr f_244_666, s_244_667, s_244_668, s_244_669, s_244_670, s_244_671, s_244_672, s_244_673, s_244_674, s_244_675, s_244_676, s_244_677, s_244_678, s_244_679, s_244_680, s_244_681, s_244_682, s_244_683, s_244_684, s_244_685, s_244_686, s_244_687, s_244_688, s_244_689, s_244_690, s_244_691, s_244_692, s_244_693, z1, h0, h1, h2, g123, yA_183, yn_183, hcmp, yne10, yO_0, yO_160, e1, j1, c1, e2, j2, c2, ne_eq, not_true_eq_false, not_false_eq_true, if_true, if_false, eq_self_iff_true, yix01, ycl0, Gk_v, Gk_n, xcat_nil, xcat_i, xcat_r, xcat_l, xcat_d, Nat.zero_le, Nat.reduceAdd, Nat.reduceLeDiff, true_and, and_true, ykl_i, ykl_r, ykl_n, ykl_l]
    · refine ⟨u, some (.int c), some (.int (yb b)), l7, l8, fun Q => ?_, fin⟩
      simp only [s_244_638, s_244_639, s_244_640, s_244_641, s_244_642, gs_scr f_244_643, s_244_644, s_244_645, s_244_646, s_244_647, gs_scr f_244_648, s_244_649, s_244_650, s_244_651, s_244_652, s_244_653, s_244_654, s_244_655, s_244_656, s_244_657, s_244_658, s_244_659, s_244_660, gs_scr f_244_661, s_244_662, s_244_663, s_244_664, s_244_665, gs_scr f_244_666, s_244_667, s_244_668, s_244_669, s_244_670, s_244_671, s_244_672, s_244_673, s_244_674, s_244_675, s_244_676, s_244_677, s_244_678, s_244_679, s_244_680, s_244_681, s_244_682, s_244_683, s_244_684, s_244_685, s_244_686, s_244_687, s_244_688, s_244_689, s_244_690, s_244_691, s_244_692, s_244_693, z1, h0, h1, h2, g123, hc, yO_0, yO_160, e1, j1, c1, e2, j2, c2, ne_eq, not_true_eq_false, not_false_eq_true, if_true, if_false, eq_self_iff_true, yix01, ycl0, Gk_v, Gk_n, xcat_nil, xcat_i, xcat_r, xcat_l, xcat_d, Nat.zero_le, Nat.reduceAdd, Nat.reduceLeDiff, true_and, and_true, ykl_i, ykl_r, ykl_n, ykl_l]
theorem c_240 (I : yInv t) (hz : t.z.1.1 < 898000) (hi : i + 6 ≤ t.z.2.1) (hL : t.z.2.1 ≤ 3072) : yCase (d + 100) 694 t i := by
  intro l5 l6 l7 l8
  have e1 : yI i + 1 = yI (i + 1) := yI_add
  have j1 : yix (yI (i + 1)) t.z.2.1 := yix_I (by omega) (by omega)
  have c1 : (yI (i + 1)).toNatClampNeg = i + 1 := yI_clamp (by omega)
  have e2 : yI i + 2 = yI (i + 2) := yI_add
  have j2 : yix (yI (i + 2)) t.z.2.1 := yix_I (by omega) (by omega)
  have c2 : (yI (i + 2)).toNatClampNeg = i + 2 := yI_clamp (by omega)
  have e3 : yI i + 3 = yI (i + 3) := yI_add
  have j3 : yix (yI (i + 3)) t.z.2.1 := yix_I (by omega) (by omega)
  have c3 : (yI (i + 3)).toNatClampNeg = i + 3 := yI_clamp (by omega)
  obtain ⟨u1, u, c, b, h1, h2, O⟩ := k_240 (d := 0) I (by omega) (t.z.2.2 (i + 1)) (t.z.2.2 (i + 2)) (t.z.2.2 (i + 3))
  have z1 := Ra_z h1
  have h1 := Ra_le (d' := d + 99) h1 (by omega)
  have h2 := Ra_le (d' := d + 99) h2 (by omega)
  have g123 := m_123 (d := d + 99) (t := u)
  rw [O.1.2.1] at g123
  by_cases hc : c = 0
  · subst hc
    have hcmp : lg_cmp (u.L 183 0) b.toInt64 = 0 := by rw [O.1.2.2 rfl]; exact lg_cmp_self
    refine ⟨u, some (.int 0), some (.int b), l7, l8, fun Q => ?_, O.1.1, O.2⟩
    simp only [s_244_694, s_244_695, s_244_696, s_244_697, s_244_698, gs_scr f_244_699, s_244_700, s_244_701, s_244_702, s_244_703, gs_scr f_244_704, s_244_705, s_244_706, s_244_707, s_244_708, gs_scr f_244_709, s_244_710, s_244_711, s_244_712, s_244_713, s_244_714, s_244_715, s_244_716, s_244_717, gs_scr f_244_718, s_244_719, s_244_720, s_244_721, s_244_722, gs_scr f_244_723, s_244_724, s_244_725, s_244_726, s_244_727, gs_scr f_244_728, s_244_729, s_244_730, s_244_731, s_244_732, s_244_733, s_244_734, s_244_735, s_244_736, s_244_737, s_244_738, s_244_739, s_244_740, s_244_741, s_244_742, s_244_743, s_244_744, s_244_745, s_244_746, s_244_747, s_244_748, z1, h1, h2, g123, yA_183, yn_183, hcmp, yO_0, yO_160, e1, j1, c1, e2, j2, c2, e3, j3, c3, ne_eq, not_true_eq_false, not_false_eq_true, if_true, if_false, eq_self_iff_true, yix01, ycl0, Gk_v, Gk_n, xcat_nil, xcat_i, xcat_r, xcat_l, xcat_d, Nat.zero_le, Nat.reduceAdd, Nat.reduceLeDiff, true_and, and_true, ykl_i, ykl_r, ykl_n, ykl_l]
  · refine ⟨u, some (.int c), some (.int b), l7, l8, fun Q => ?_, O.1.1, O.2⟩
    simp only [s_244_694, s_244_695, s_244_696, s_244_697, s_244_698, gs_scr f_244_699, s_244_700, s_244_701, s_244_702, s_244_703, gs_scr f_244_704, s_244_705, s_244_706, s_244_707, s_244_708, gs_scr f_244_709, s_244_710, s_244_711, s_244_712, s_244_713, s_244_714, s_244_715, s_244_716, s_244_717, gs_scr f_244_718, s_244_719, s_244_720, s_244_721, s_244_722, gs_scr f_244_723, s_244_724, s_244_725, s_244_726, s_244_727, gs_scr f_244_728, s_244_729, s_244_730, s_244_731, s_244_732, s_244_733, s_244_734, s_244_735, s_244_736, s_244_737, s_244_738, s_244_739, s_244_740, s_244_741, s_244_742, s_244_743, s_244_744, s_244_745, s_244_746, s_244_747, s_244_748, z1, h1, h2, g123, hc, yO_0, yO_160, e1, j1, c1, e2, j2, c2, e3, j3, c3, ne_eq, not_true_eq_false, not_false_eq_true, if_true, if_false, eq_self_iff_true, yix01, ycl0, Gk_v, Gk_n, xcat_nil, xcat_i, xcat_r, xcat_l, xcat_d, Nat.zero_le, Nat.reduceAdd, Nat.reduceLeDiff, true_and, and_true, ykl_i, ykl_r, ykl_n, ykl_l]
theorem c_241 (I : yInv t) (hz : t.z.1.1 < 898000) (hi : i + 6 ≤ t.z.2.1) (hL : t.z.2.1 ≤ 3072) : yCase (d + 100) 749 t i := by
  intro l5 l6 l7 l8
  have e1 : yI i + 1 = yI (i + 1) := yI_add
  have j1 : yix (yI (i + 1)) t.z.2.1 := yix_I (by omega) (by omega)
  have c1 : (yI (i + 1)).toNatClampNeg = i + 1 := yI_clamp (by omega)
  have e2 : yI i + 2 = yI (i + 2) := yI_add
  have j2 : yix (yI (i + 2)) t.z.2.1 := yix_I (by omega) (by omega)
  have c2 : (yI (i + 2)).toNatClampNeg = i + 2 := yI_clamp (by omega)
  obtain ⟨u1, u, c, b, h1, h2, O⟩ := k_241 (d := 0) I (by omega) (t.z.2.2 (i + 1)) (t.z.2.2 (i + 2))
  have z1 := Ra_z h1
  have h1 := Ra_le (d' := d + 99) h1 (by omega)
  have h2 := Ra_le (d' := d + 99) h2 (by omega)
  have g123 := m_123 (d := d + 99) (t := u)
  rw [O.1.2.1] at g123
  by_cases hc : c = 0
  · subst hc
    have hcmp : lg_cmp (u.L 183 0) b.toInt64 = 0 := by rw [O.1.2.2 rfl]; exact lg_cmp_self
    refine ⟨u, some (.int 0), some (.int b), l7, l8, fun Q => ?_, O.1.1, O.2⟩
    simp only [s_244_749, s_244_750, s_244_751, s_244_752, s_244_753, gs_scr f_244_754, s_244_755, s_244_756, s_244_757, s_244_758, gs_scr f_244_759, s_244_760, s_244_761, s_244_762, s_244_763, s_244_764, s_244_765, s_244_766, s_244_767, gs_scr f_244_768, s_244_769, s_244_770, s_244_771, s_244_772, gs_scr f_244_773, s_244_774, s_244_775, s_244_776, s_244_777, s_244_778, s_244_779, s_244_780, s_244_781, s_244_782, s_244_783, s_244_784, s_244_785, s_244_786, s_244_787, s_244_788, s_244_789, s_244_790, s_244_791, s_244_792, s_244_793, z1, h1, h2, g123, yA_183, yn_183, hcmp, yO_0, yO_160, e1, j1, c1, e2, j2, c2, ne_eq, not_true_eq_false, not_false_eq_true, if_true, if_false, eq_self_iff_true, yix01, ycl0, Gk_v, Gk_n, xcat_nil, xcat_i, xcat_r, xcat_l, xcat_d, Nat.zero_le, Nat.reduceAdd, Nat.reduceLeDiff, true_and, and_true, ykl_i, ykl_r, ykl_n, ykl_l]
  · refine ⟨u, some (.int c), some (.int b), l7, l8, fun Q => ?_, O.1.1, O.2⟩
    simp only [s_244_749, s_244_750, s_244_751, s_244_752, s_244_753, gs_scr f_244_754, s_244_755, s_244_756, s_244_757, s_244_758, gs_scr f_244_759, s_244_760, s_244_761, s_244_762, s_244_763, s_244_764, s_244_765, s_244_766, s_244_767, gs_scr f_244_768, s_244_769, s_244_770, s_244_771, s_244_772, gs_scr f_244_773, s_244_774, s_244_775, s_244_776, s_244_777, s_244_778, s_244_779, s_244_780, s_244_781, s_244_782, s_244_783, s_244_784, s_244_785, s_244_786, s_244_787, s_244_788, s_244_789, s_244_790, s_244_791, s_244_792, s_244_793, z1, h1, h2, g123, hc, yO_0, yO_160, e1, j1, c1, e2, j2, c2, ne_eq, not_true_eq_false, not_false_eq_true, if_true, if_false, eq_self_iff_true, yix01, ycl0, Gk_v, Gk_n, xcat_nil, xcat_i, xcat_r, xcat_l, xcat_d, Nat.zero_le, Nat.reduceAdd, Nat.reduceLeDiff, true_and, and_true, ykl_i, ykl_r, ykl_n, ykl_l]
theorem c_242 (I : yInv t) (hz : t.z.1.1 < 898000) (hi : i + 6 ≤ t.z.2.1) (hL : t.z.2.1 ≤ 3072) : yCase (d + 100) 794 t i := by
  intro l5 l6 l7 l8
  have e1 : yI i + 1 = yI (i + 1) := yI_add
  have j1 : yix (yI (i + 1)) t.z.2.1 := yix_I (by omega) (by omega)
  have c1 : (yI (i + 1)).toNatClampNeg = i + 1 := yI_clamp (by omega)
  obtain ⟨u1, u, c, b, h1, h2, O⟩ := k_242 (d := 0) I (by omega) (t.z.2.2 (i + 1))
  have z1 := Ra_z h1
  have h1 := Ra_le (d' := d + 99) h1 (by omega)
  have h2 := Ra_le (d' := d + 99) h2 (by omega)
  have g123 := m_123 (d := d + 99) (t := u)
  rw [O.1.2.1] at g123
  by_cases hc : c = 0
  · subst hc
    have hcmp : lg_cmp (u.L 183 0) b.toInt64 = 0 := by rw [O.1.2.2 rfl]; exact lg_cmp_self
    refine ⟨u, some (.int 0), some (.int b), l7, l8, fun Q => ?_, O.1.1, O.2⟩
    simp only [s_244_794, s_244_795, s_244_796, s_244_797, s_244_798, gs_scr f_244_799, s_244_800, s_244_801, s_244_802, s_244_803, s_244_804, s_244_805, s_244_806, s_244_807, gs_scr f_244_808, s_244_809, s_244_810, s_244_811, s_244_812, s_244_813, s_244_814, s_244_815, s_244_816, s_244_817, s_244_818, s_244_819, s_244_820, s_244_821, s_244_822, s_244_823, s_244_824, s_244_825, s_244_826, s_244_827, s_244_828, z1, h1, h2, g123, yA_183, yn_183, hcmp, yO_0, yO_160, e1, j1, c1, ne_eq, not_true_eq_false, not_false_eq_true, if_true, if_false, eq_self_iff_true, yix01, ycl0, Gk_v, Gk_n, xcat_nil, xcat_i, xcat_r, xcat_l, xcat_d, Nat.zero_le, Nat.reduceAdd, Nat.reduceLeDiff, true_and, and_true, ykl_i, ykl_r, ykl_n, ykl_l]
  · refine ⟨u, some (.int c), some (.int b), l7, l8, fun Q => ?_, O.1.1, O.2⟩
    simp only [s_244_794, s_244_795, s_244_796, s_244_797, s_244_798, gs_scr f_244_799, s_244_800, s_244_801, s_244_802, s_244_803, s_244_804, s_244_805, s_244_806, s_244_807, gs_scr f_244_808, s_244_809, s_244_810, s_244_811, s_244_812, s_244_813, s_244_814, s_244_815, s_244_816, s_244_817, s_244_818, s_244_819, s_244_820, s_244_821, s_244_822, s_244_823, s_244_824, s_244_825, s_244_826, s_244_827, s_244_828, z1, h1, h2, g123, hc, yO_0, yO_160, e1, j1, c1, ne_eq, not_true_eq_false, not_false_eq_true, if_true, if_false, eq_self_iff_true, yix01, ycl0, Gk_v, Gk_n, xcat_nil, xcat_i, xcat_r, xcat_l, xcat_d, Nat.zero_le, Nat.reduceAdd, Nat.reduceLeDiff, true_and, and_true, ykl_i, ykl_r, ykl_n, ykl_l]
theorem c_243 (I : yInv t) (hz : t.z.1.1 < 898000) (hi : i + 6 ≤ t.z.2.1) (hL : t.z.2.1 ≤ 3072) : yCase (d + 100) 829 t i := by
  intro l5 l6 l7 l8
  have e1 : yI i + 1 = yI (i + 1) := yI_add
  have j1 : yix (yI (i + 1)) t.z.2.1 := yix_I (by omega) (by omega)
  have c1 : (yI (i + 1)).toNatClampNeg = i + 1 := yI_clamp (by omega)
  obtain ⟨u1, u, c, b, h1, h2, O⟩ := k_243 (d := 0) I (by omega) (t.z.2.2 (i + 1))
  have z1 := Ra_z h1
  have h1 := Ra_le (d' := d + 99) h1 (by omega)
  have h2 := Ra_le (d' := d + 99) h2 (by omega)
  have g123 := m_123 (d := d + 99) (t := u)
  rw [O.1.2.1] at g123
  by_cases hc : c = 0
  · subst hc
    have hcmp : lg_cmp (u.L 183 0) b.toInt64 = 0 := by rw [O.1.2.2 rfl]; exact lg_cmp_self
    refine ⟨u, some (.int 0), some (.int b), l7, l8, fun Q => ?_, O.1.1, O.2⟩
    simp only [s_244_829, s_244_830, s_244_831, s_244_832, s_244_833, gs_scr f_244_834, s_244_835, s_244_836, s_244_837, s_244_838, s_244_839, s_244_840, s_244_841, s_244_842, gs_scr f_244_843, s_244_844, s_244_845, s_244_846, s_244_847, s_244_848, s_244_849, s_244_850, s_244_851, s_244_852, s_244_853, s_244_854, s_244_855, s_244_856, s_244_857, s_244_858, s_244_859, s_244_860, s_244_861, s_244_862, s_244_863, z1, h1, h2, g123, yA_183, yn_183, hcmp, yO_0, yO_160, e1, j1, c1, ne_eq, not_true_eq_false, not_false_eq_true, if_true, if_false, eq_self_iff_true, yix01, ycl0, Gk_v, Gk_n, xcat_nil, xcat_i, xcat_r, xcat_l, xcat_d, Nat.zero_le, Nat.reduceAdd, Nat.reduceLeDiff, true_and, and_true, ykl_i, ykl_r, ykl_n, ykl_l]
  · refine ⟨u, some (.int c), some (.int b), l7, l8, fun Q => ?_, O.1.1, O.2⟩
    simp only [s_244_829, s_244_830, s_244_831, s_244_832, s_244_833, gs_scr f_244_834, s_244_835, s_244_836, s_244_837, s_244_838, s_244_839, s_244_840, s_244_841, s_244_842, gs_scr f_244_843, s_244_844, s_244_845, s_244_846, s_244_847, s_244_848, s_244_849, s_244_850, s_244_851, s_244_852, s_244_853, s_244_854, s_244_855, s_244_856, s_244_857, s_244_858, s_244_859, s_244_860, s_244_861, s_244_862, s_244_863, z1, h1, h2, g123, hc, yO_0, yO_160, e1, j1, c1, ne_eq, not_true_eq_false, not_false_eq_true, if_true, if_false, eq_self_iff_true, yix01, ycl0, Gk_v, Gk_n, xcat_nil, xcat_i, xcat_r, xcat_l, xcat_d, Nat.zero_le, Nat.reduceAdd, Nat.reduceLeDiff, true_and, and_true, ykl_i, ykl_r, ykl_n, ykl_l]
theorem c_117 (I : yInv t) (hz : t.z.1.1 < 898000) (hi : i + 6 ≤ t.z.2.1) (hL : t.z.2.1 ≤ 3072) : yCase (d + 100) 864 t i := by
  intro l5 l6 l7 l8
  obtain ⟨u1, u, v, h1, h2, O⟩ := k_117 (d := 0) I 
  have z1 := Ra_z h1
  have h1 := Ra_le (d' := d + 99) h1 (by omega)
  have h2 := Ra_le (d' := d + 99) h2 (by omega)
  refine ⟨u, l5, l6, l7, l8, fun Q => ?_, O.1.1, O.2⟩
  simp only [s_244_864, s_244_865, s_244_866, s_244_867, s_244_868, s_244_869, s_244_870, z1, h1, h2, yO_0, yO_160, ne_eq, not_true_eq_false, not_false_eq_true, if_true, if_false, eq_self_iff_true, yix01, ycl0, Gk_v, Gk_n, xcat_nil, xcat_i, xcat_r, xcat_l, xcat_d, Nat.zero_le, Nat.reduceAdd, Nat.reduceLeDiff, true_and, and_true, ykl_i, ykl_r, ykl_n, ykl_l]
theorem c_118 (I : yInv t) (hz : t.z.1.1 < 898000) (hi : i + 6 ≤ t.z.2.1) (hL : t.z.2.1 ≤ 3072) : yCase (d + 100) 871 t i := by
  intro l5 l6 l7 l8
  obtain ⟨u, v, h1, h2, O⟩ := k_118 (d := 0) I 
  have h1 := Ra_le (d' := d + 99) h1 (by omega)
  have h2 := Ra_le (d' := d + 99) h2 (by omega)
  refine ⟨u, l5, l6, l7, l8, fun Q => ?_, O.1.1, O.2⟩
  simp only [s_244_871, s_244_872, s_244_873, s_244_874, s_244_875, s_244_876, s_244_877, s_244_878, lg_cmp_self, h1, h2, yO_0, yO_160, ne_eq, not_true_eq_false, not_false_eq_true, if_true, if_false, eq_self_iff_true, yix01, ycl0, Gk_v, Gk_n, xcat_nil, xcat_i, xcat_r, xcat_l, xcat_d, Nat.zero_le, Nat.reduceAdd, Nat.reduceLeDiff, true_and, and_true, ykl_i, ykl_r, ykl_n, ykl_l]
end
