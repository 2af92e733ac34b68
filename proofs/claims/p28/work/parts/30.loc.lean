theorem yO_0 : yisO 7 0 := ⟨rfl, by decide⟩
theorem yO_1 : yisO 6 1 := ⟨rfl, by decide⟩
theorem yO_3 : yisO 0 3 := ⟨rfl, by decide⟩
theorem yO_7 : yisO 4 7 := ⟨rfl, by decide⟩
theorem yO_19 : yisO 4 19 := ⟨rfl, by decide⟩
theorem yO_31 : yisO 3 31 := ⟨rfl, by decide⟩
theorem yO_32 : yisO 5 32 := ⟨rfl, by decide⟩
theorem yO_34 : yisO 2 34 := ⟨rfl, by decide⟩
theorem yO_38 : yisO 1 38 := ⟨rfl, by decide⟩
theorem yO_40 : yisO 4 40 := ⟨rfl, by decide⟩
theorem yO_52 : yisO 4 52 := ⟨rfl, by decide⟩
theorem yO_64 : yisO 4 64 := ⟨rfl, by decide⟩
theorem yO_76 : yisO 4 76 := ⟨rfl, by decide⟩
theorem yO_88 : yisO 4 88 := ⟨rfl, by decide⟩
theorem yO_100 : yisO 4 100 := ⟨rfl, by decide⟩
theorem yO_112 : yisO 4 112 := ⟨rfl, by decide⟩
theorem yO_124 : yisO 4 124 := ⟨rfl, by decide⟩
theorem yO_136 : yisO 4 136 := ⟨rfl, by decide⟩
theorem yO_148 : yisO 4 148 := ⟨rfl, by decide⟩
theorem yA_2 : yA 1 2 := ⟨rfl, by decide⟩
theorem yn_2 : yn 2 = 600 := rfl
theorem yA_4 : yA 0 4 := ⟨rfl, by decide⟩
theorem yn_4 : yn 4 = 256 := rfl
theorem yA_5 : yA 0 5 := ⟨rfl, by decide⟩
theorem yn_5 : yn 5 = 16 := rfl
theorem yA_8 : yA 0 8 := ⟨rfl, by decide⟩
theorem yn_8 : yn 8 = 40 := rfl
theorem yA_9 : yA 0 9 := ⟨rfl, by decide⟩
theorem yn_9 : yn 9 = 40 := rfl
theorem yA_10 : yA 0 10 := ⟨rfl, by decide⟩
theorem yn_10 : yn 10 = 40 := rfl
theorem yA_11 : yA 0 11 := ⟨rfl, by decide⟩
theorem yn_11 : yn 11 = 40 := rfl
theorem yA_12 : yA 0 12 := ⟨rfl, by decide⟩
theorem yn_12 : yn 12 = 40 := rfl
theorem yA_13 : yA 0 13 := ⟨rfl, by decide⟩
theorem yn_13 : yn 13 = 40 := rfl
theorem yA_14 : yA 0 14 := ⟨rfl, by decide⟩
theorem yn_14 : yn 14 = 40 := rfl
theorem yA_15 : yA 0 15 := ⟨rfl, by decide⟩
theorem yn_15 : yn 15 = 6 := rfl
theorem yA_16 : yA 0 16 := ⟨rfl, by decide⟩
theorem yn_16 : yn 16 = 6 := rfl
theorem yA_17 : yA 0 17 := ⟨rfl, by decide⟩
theorem yn_17 : yn 17 = 40 := rfl
theorem yA_20 : yA 0 20 := ⟨rfl, by decide⟩
theorem yn_20 : yn 20 = 40 := rfl
theorem yA_21 : yA 0 21 := ⟨rfl, by decide⟩
theorem yn_21 : yn 21 = 40 := rfl
theorem yA_22 : yA 0 22 := ⟨rfl, by decide⟩
theorem yn_22 : yn 22 = 40 := rfl
theorem yA_23 : yA 0 23 := ⟨rfl, by decide⟩
theorem yn_23 : yn 23 = 40 := rfl
theorem yA_24 : yA 0 24 := ⟨rfl, by decide⟩
theorem yn_24 : yn 24 = 40 := rfl
theorem yA_25 : yA 0 25 := ⟨rfl, by decide⟩
theorem yn_25 : yn 25 = 40 := rfl
theorem yA_26 : yA 0 26 := ⟨rfl, by decide⟩
theorem yn_26 : yn 26 = 40 := rfl
theorem yA_27 : yA 0 27 := ⟨rfl, by decide⟩
theorem yn_27 : yn 27 = 6 := rfl
theorem yA_28 : yA 0 28 := ⟨rfl, by decide⟩
theorem yn_28 : yn 28 = 6 := rfl
theorem yA_29 : yA 0 29 := ⟨rfl, by decide⟩
theorem yn_29 : yn 29 = 40 := rfl
theorem yA_33 : yA 0 33 := ⟨rfl, by decide⟩
theorem yn_33 : yn 33 = 600 := rfl
theorem yA_35 : yA 0 35 := ⟨rfl, by decide⟩
theorem yn_35 : yn 35 = 60 := rfl
theorem yA_36 : yA 0 36 := ⟨rfl, by decide⟩
theorem yn_36 : yn 36 = 300 := rfl
theorem yA_37 : yA 0 37 := ⟨rfl, by decide⟩
theorem yn_37 : yn 37 = 60 := rfl
theorem yA_41 : yA 0 41 := ⟨rfl, by decide⟩
theorem yn_41 : yn 41 = 40 := rfl
theorem yA_42 : yA 0 42 := ⟨rfl, by decide⟩
theorem yn_42 : yn 42 = 40 := rfl
theorem yA_43 : yA 0 43 := ⟨rfl, by decide⟩
theorem yn_43 : yn 43 = 40 := rfl
theorem yA_44 : yA 0 44 := ⟨rfl, by decide⟩
theorem yn_44 : yn 44 = 40 := rfl
theorem yA_45 : yA 0 45 := ⟨rfl, by decide⟩
theorem yn_45 : yn 45 = 40 := rfl
theorem yA_46 : yA 0 46 := ⟨rfl, by decide⟩
theorem yn_46 : yn 46 = 40 := rfl
theorem yA_47 : yA 0 47 := ⟨rfl, by decide⟩
theorem yn_47 : yn 47 = 40 := rfl
theorem yA_48 : yA 0 48 := ⟨rfl, by decide⟩
theorem yn_48 : yn 48 = 6 := rfl
theorem yA_49 : yA 0 49 := ⟨rfl, by decide⟩
theorem yn_49 : yn 49 = 6 := rfl
theorem yA_50 : yA 0 50 := ⟨rfl, by decide⟩
theorem yn_50 : yn 50 = 40 := rfl
theorem yA_53 : yA 0 53 := ⟨rfl, by decide⟩
theorem yn_53 : yn 53 = 40 := rfl
theorem yA_54 : yA 0 54 := ⟨rfl, by decide⟩
theorem yn_54 : yn 54 = 40 := rfl
theorem yA_55 : yA 0 55 := ⟨rfl, by decide⟩
theorem yn_55 : yn 55 = 40 := rfl
theorem yA_56 : yA 0 56 := ⟨rfl, by decide⟩
theorem yn_56 : yn 56 = 40 := rfl
theorem yA_57 : yA 0 57 := ⟨rfl, by decide⟩
theorem yn_57 : yn 57 = 40 := rfl
theorem yA_58 : yA 0 58 := ⟨rfl, by decide⟩
theorem yn_58 : yn 58 = 40 := rfl
theorem yA_59 : yA 0 59 := ⟨rfl, by decide⟩
theorem yn_59 : yn 59 = 40 := rfl
theorem yA_60 : yA 0 60 := ⟨rfl, by decide⟩
theorem yn_60 : yn 60 = 6 := rfl
theorem yA_61 : yA 0 61 := ⟨rfl, by decide⟩
theorem yn_61 : yn 61 = 6 := rfl
theorem yA_62 : yA 0 62 := ⟨rfl, by decide⟩
theorem yn_62 : yn 62 = 40 := rfl
theorem yA_65 : yA 0 65 := ⟨rfl, by decide⟩
theorem yn_65 : yn 65 = 40 := rfl
theorem yA_66 : yA 0 66 := ⟨rfl, by decide⟩
theorem yn_66 : yn 66 = 40 := rfl
theorem yA_67 : yA 0 67 := ⟨rfl, by decide⟩
theorem yn_67 : yn 67 = 40 := rfl
theorem yA_68 : yA 0 68 := ⟨rfl, by decide⟩
theorem yn_68 : yn 68 = 40 := rfl
theorem yA_69 : yA 0 69 := ⟨rfl, by decide⟩
theorem yn_69 : yn 69 = 40 := rfl
theorem yA_70 : yA 0 70 := ⟨rfl, by decide⟩
theorem yn_70 : yn 70 = 40 := rfl
theorem yA_71 : yA 0 71 := ⟨rfl, by decide⟩
theorem yn_71 : yn 71 = 40 := rfl
theorem yA_72 : yA 0 72 := ⟨rfl, by decide⟩
theorem yn_72 : yn 72 = 6 := rfl
theorem yA_73 : yA 0 73 := ⟨rfl, by decide⟩
theorem yn_73 : yn 73 = 6 := rfl
theorem yA_74 : yA 0 74 := ⟨rfl, by decide⟩
theorem yn_74 : yn 74 = 40 := rfl
theorem yA_77 : yA 0 77 := ⟨rfl, by decide⟩
theorem yn_77 : yn 77 = 40 := rfl
theorem yA_78 : yA 0 78 := ⟨rfl, by decide⟩
theorem yn_78 : yn 78 = 40 := rfl
theorem yA_79 : yA 0 79 := ⟨rfl, by decide⟩
theorem yn_79 : yn 79 = 40 := rfl
theorem yA_80 : yA 0 80 := ⟨rfl, by decide⟩
theorem yn_80 : yn 80 = 40 := rfl
theorem yA_81 : yA 0 81 := ⟨rfl, by decide⟩
theorem yn_81 : yn 81 = 40 := rfl
theorem yA_82 : yA 0 82 := ⟨rfl, by decide⟩
theorem yn_82 : yn 82 = 40 := rfl
theorem yA_83 : yA 0 83 := ⟨rfl, by decide⟩
theorem yn_83 : yn 83 = 40 := rfl
theorem yA_84 : yA 0 84 := ⟨rfl, by decide⟩
theorem yn_84 : yn 84 = 6 := rfl
theorem yA_85 : yA 0 85 := ⟨rfl, by decide⟩
theorem yn_85 : yn 85 = 6 := rfl
theorem yA_86 : yA 0 86 := ⟨rfl, by decide⟩
theorem yn_86 : yn 86 = 40 := rfl
theorem yA_89 : yA 0 89 := ⟨rfl, by decide⟩
theorem yn_89 : yn 89 = 40 := rfl
theorem yA_90 : yA 0 90 := ⟨rfl, by decide⟩
theorem yn_90 : yn 90 = 40 := rfl
theorem yA_91 : yA 0 91 := ⟨rfl, by decide⟩
theorem yn_91 : yn 91 = 40 := rfl
theorem yA_92 : yA 0 92 := ⟨rfl, by decide⟩
theorem yn_92 : yn 92 = 40 := rfl
theorem yA_93 : yA 0 93 := ⟨rfl, by decide⟩
theorem yn_93 : yn 93 = 40 := rfl
theorem yA_94 : yA 0 94 := ⟨rfl, by decide⟩
theorem yn_94 : yn 94 = 40 := rfl
theorem yA_95 : yA 0 95 := ⟨rfl, by decide⟩
theorem yn_95 : yn 95 = 40 := rfl
theorem yA_96 : yA 0 96 := ⟨rfl, by decide⟩
theorem yn_96 : yn 96 = 6 := rfl
theorem yA_97 : yA 0 97 := ⟨rfl, by decide⟩
theorem yn_97 : yn 97 = 6 := rfl
theorem yA_98 : yA 0 98 := ⟨rfl, by decide⟩
theorem yn_98 : yn 98 = 40 := rfl
theorem yA_101 : yA 0 101 := ⟨rfl, by decide⟩
theorem yn_101 : yn 101 = 40 := rfl
theorem yA_102 : yA 0 102 := ⟨rfl, by decide⟩
theorem yn_102 : yn 102 = 40 := rfl
theorem yA_103 : yA 0 103 := ⟨rfl, by decide⟩
theorem yn_103 : yn 103 = 40 := rfl
theorem yA_104 : yA 0 104 := ⟨rfl, by decide⟩
theorem yn_104 : yn 104 = 40 := rfl
theorem yA_105 : yA 0 105 := ⟨rfl, by decide⟩
theorem yn_105 : yn 105 = 40 := rfl
theorem yA_106 : yA 0 106 := ⟨rfl, by decide⟩
theorem yn_106 : yn 106 = 40 := rfl
theorem yA_107 : yA 0 107 := ⟨rfl, by decide⟩
theorem yn_107 : yn 107 = 40 := rfl
theorem yA_108 : yA 0 108 := ⟨rfl, by decide⟩
theorem yn_108 : yn 108 = 6 := rfl
theorem yA_109 : yA 0 109 := ⟨rfl, by decide⟩
theorem yn_109 : yn 109 = 6 := rfl
theorem yA_110 : yA 0 110 := ⟨rfl, by decide⟩
theorem yn_110 : yn 110 = 40 := rfl
theorem yA_113 : yA 0 113 := ⟨rfl, by decide⟩
theorem yn_113 : yn 113 = 40 := rfl
theorem yA_114 : yA 0 114 := ⟨rfl, by decide⟩
theorem yn_114 : yn 114 = 40 := rfl
theorem yA_115 : yA 0 115 := ⟨rfl, by decide⟩
theorem yn_115 : yn 115 = 40 := rfl
theorem yA_116 : yA 0 116 := ⟨rfl, by decide⟩
theorem yn_116 : yn 116 = 40 := rfl
theorem yA_117 : yA 0 117 := ⟨rfl, by decide⟩
theorem yn_117 : yn 117 = 40 := rfl
theorem yA_118 : yA 0 118 := ⟨rfl, by decide⟩
theorem yn_118 : yn 118 = 40 := rfl
theorem yA_119 : yA 0 119 := ⟨rfl, by decide⟩
theorem yn_119 : yn 119 = 40 := rfl
theorem yA_120 : yA 0 120 := ⟨rfl, by decide⟩
theorem yn_120 : yn 120 = 6 := rfl
theorem yA_121 : yA 0 121 := ⟨rfl, by decide⟩
theorem yn_121 : yn 121 = 6 := rfl
theorem yA_122 : yA 0 122 := ⟨rfl, by decide⟩
theorem yn_122 : yn 122 = 40 := rfl
theorem yA_125 : yA 0 125 := ⟨rfl, by decide⟩
theorem yn_125 : yn 125 = 40 := rfl
theorem yA_126 : yA 0 126 := ⟨rfl, by decide⟩
theorem yn_126 : yn 126 = 40 := rfl
theorem yA_127 : yA 0 127 := ⟨rfl, by decide⟩
theorem yn_127 : yn 127 = 40 := rfl
theorem yA_128 : yA 0 128 := ⟨rfl, by decide⟩
theorem yn_128 : yn 128 = 40 := rfl
theorem yA_129 : yA 0 129 := ⟨rfl, by decide⟩
theorem yn_129 : yn 129 = 40 := rfl
theorem yA_130 : yA 0 130 := ⟨rfl, by decide⟩
theorem yn_130 : yn 130 = 40 := rfl
theorem yA_131 : yA 0 131 := ⟨rfl, by decide⟩
theorem yn_131 : yn 131 = 40 := rfl
theorem yA_132 : yA 0 132 := ⟨rfl, by decide⟩
theorem yn_132 : yn 132 = 6 := rfl
theorem yA_133 : yA 0 133 := ⟨rfl, by decide⟩
theorem yn_133 : yn 133 = 6 := rfl
theorem yA_134 : yA 0 134 := ⟨rfl, by decide⟩
theorem yn_134 : yn 134 = 40 := rfl
theorem yA_137 : yA 0 137 := ⟨rfl, by decide⟩
theorem yn_137 : yn 137 = 40 := rfl
theorem yA_138 : yA 0 138 := ⟨rfl, by decide⟩
theorem yn_138 : yn 138 = 40 := rfl
theorem yA_139 : yA 0 139 := ⟨rfl, by decide⟩
theorem yn_139 : yn 139 = 40 := rfl
theorem yA_140 : yA 0 140 := ⟨rfl, by decide⟩
theorem yn_140 : yn 140 = 40 := rfl
theorem yA_141 : yA 0 141 := ⟨rfl, by decide⟩
theorem yn_141 : yn 141 = 40 := rfl
theorem yA_142 : yA 0 142 := ⟨rfl, by decide⟩
theorem yn_142 : yn 142 = 40 := rfl
theorem yA_143 : yA 0 143 := ⟨rfl, by decide⟩
theorem yn_143 : yn 143 = 40 := rfl
theorem yA_144 : yA 0 144 := ⟨rfl, by decide⟩
theorem yn_144 : yn 144 = 6 := rfl
theorem yA_145 : yA 0 145 := ⟨rfl, by decide⟩
theorem yn_145 : yn 145 = 6 := rfl
theorem yA_146 : yA 0 146 := ⟨rfl, by decide⟩
theorem yn_146 : yn 146 = 40 := rfl
theorem yA_149 : yA 0 149 := ⟨rfl, by decide⟩
theorem yn_149 : yn 149 = 40 := rfl
theorem yA_150 : yA 0 150 := ⟨rfl, by decide⟩
theorem yn_150 : yn 150 = 40 := rfl
theorem yA_151 : yA 0 151 := ⟨rfl, by decide⟩
theorem yn_151 : yn 151 = 40 := rfl
theorem yA_152 : yA 0 152 := ⟨rfl, by decide⟩
theorem yn_152 : yn 152 = 40 := rfl
theorem yA_153 : yA 0 153 := ⟨rfl, by decide⟩
theorem yn_153 : yn 153 = 40 := rfl
theorem yA_154 : yA 0 154 := ⟨rfl, by decide⟩
theorem yn_154 : yn 154 = 40 := rfl
theorem yA_155 : yA 0 155 := ⟨rfl, by decide⟩
theorem yn_155 : yn 155 = 40 := rfl
theorem yA_156 : yA 0 156 := ⟨rfl, by decide⟩
theorem yn_156 : yn 156 = 6 := rfl
theorem yA_157 : yA 0 157 := ⟨rfl, by decide⟩
theorem yn_157 : yn 157 = 6 := rfl
theorem yA_158 : yA 0 158 := ⟨rfl, by decide⟩
theorem yn_158 : yn 158 = 40 := rfl
theorem yla_no {a : Nat} (h : 160 ≤ a) : yla a = .no := by
  unfold yla
  rw [if_neg (by omega), if_neg (by omega), if_neg (by omega), if_neg (by omega), if_neg (by omega), if_neg (by omega), if_neg (by omega)]
theorem ystr_all : ∀ a, a < 160 → (match yla a with
    | some (.inr (.inr (.inr (4, _)))) => decide (a ∈ ystrips)
    | _ => true) = true := by decide +kernel
theorem ystr {o : Nat} (h : yisO 4 o) : o ∈ ystrips := by
  by_cases ho : o < 160
  · have h1 := ystr_all o ho
    rw [h.1] at h1
    simpa using h1
  · have h1 := h.1
    rw [yla_no (by omega)] at h1
    cases h1
theorem ystr_lay : ∀ o, o ∈ ystrips → ((yisO 4 o ∧ o < 160) ∧ ((yA 0 (o + 1) ∧ yA 0 (o + 2) ∧ yA 0 (o + 3) ∧ yA 0 (o + 4) ∧ yA 0 (o + 5) ∧ yA 0 (o + 6) ∧ yA 0 (o + 7) ∧ yA 0 (o + 8) ∧ yA 0 (o + 9) ∧ yA 0 (o + 10)) ∧ (yn (o + 1) = 40 ∧ yn (o + 2) = 40 ∧ yn (o + 3) = 40 ∧ yn (o + 4) = 40 ∧ yn (o + 5) = 40 ∧ yn (o + 6) = 40 ∧ yn (o + 7) = 40 ∧ yn (o + 8) = 6 ∧ yn (o + 9) = 6 ∧ yn (o + 10) = 40))) := by
  intro o h
  simp only [ystrips, List.mem_cons, List.not_mem_nil, or_false] at h
  rcases h with h | h | h | h | h | h | h | h | h | h | h | h <;> subst h <;> exact ⟨⟨⟨rfl, by decide⟩, by decide⟩, ⟨⟨rfl, by decide⟩, ⟨rfl, by decide⟩, ⟨rfl, by decide⟩, ⟨rfl, by decide⟩, ⟨rfl, by decide⟩, ⟨rfl, by decide⟩, ⟨rfl, by decide⟩, ⟨rfl, by decide⟩, ⟨rfl, by decide⟩, ⟨rfl, by decide⟩⟩, rfl, rfl, rfl, rfl, rfl, rfl, rfl, rfl, rfl, rfl⟩
theorem yAs_1 {o : Nat} (h : yisO 4 o) : yA 0 (o + 1) := (ystr_lay o (ystr h)).2.1.1
theorem yns_1 {o : Nat} (h : yisO 4 o) : yn (o + 1) = 40 := (ystr_lay o (ystr h)).2.2.1
theorem yAs_2 {o : Nat} (h : yisO 4 o) : yA 0 (o + 2) := (ystr_lay o (ystr h)).2.1.2.1
theorem yns_2 {o : Nat} (h : yisO 4 o) : yn (o + 2) = 40 := (ystr_lay o (ystr h)).2.2.2.1
theorem yAs_3 {o : Nat} (h : yisO 4 o) : yA 0 (o + 3) := (ystr_lay o (ystr h)).2.1.2.2.1
theorem yns_3 {o : Nat} (h : yisO 4 o) : yn (o + 3) = 40 := (ystr_lay o (ystr h)).2.2.2.2.1
theorem yAs_4 {o : Nat} (h : yisO 4 o) : yA 0 (o + 4) := (ystr_lay o (ystr h)).2.1.2.2.2.1
theorem yns_4 {o : Nat} (h : yisO 4 o) : yn (o + 4) = 40 := (ystr_lay o (ystr h)).2.2.2.2.2.1
theorem yAs_5 {o : Nat} (h : yisO 4 o) : yA 0 (o + 5) := (ystr_lay o (ystr h)).2.1.2.2.2.2.1
theorem yns_5 {o : Nat} (h : yisO 4 o) : yn (o + 5) = 40 := (ystr_lay o (ystr h)).2.2.2.2.2.2.1
theorem yAs_6 {o : Nat} (h : yisO 4 o) : yA 0 (o + 6) := (ystr_lay o (ystr h)).2.1.2.2.2.2.2.1
theorem yns_6 {o : Nat} (h : yisO 4 o) : yn (o + 6) = 40 := (ystr_lay o (ystr h)).2.2.2.2.2.2.2.1
theorem yAs_7 {o : Nat} (h : yisO 4 o) : yA 0 (o + 7) := (ystr_lay o (ystr h)).2.1.2.2.2.2.2.2.1
theorem yns_7 {o : Nat} (h : yisO 4 o) : yn (o + 7) = 40 := (ystr_lay o (ystr h)).2.2.2.2.2.2.2.2.1
theorem yAs_8 {o : Nat} (h : yisO 4 o) : yA 0 (o + 8) := (ystr_lay o (ystr h)).2.1.2.2.2.2.2.2.2.1
theorem yns_8 {o : Nat} (h : yisO 4 o) : yn (o + 8) = 6 := (ystr_lay o (ystr h)).2.2.2.2.2.2.2.2.2.1
theorem yAs_9 {o : Nat} (h : yisO 4 o) : yA 0 (o + 9) := (ystr_lay o (ystr h)).2.1.2.2.2.2.2.2.2.2.1
theorem yns_9 {o : Nat} (h : yisO 4 o) : yn (o + 9) = 6 := (ystr_lay o (ystr h)).2.2.2.2.2.2.2.2.2.2.1
theorem yAs_10 {o : Nat} (h : yisO 4 o) : yA 0 (o + 10) := (ystr_lay o (ystr h)).2.1.2.2.2.2.2.2.2.2.2
theorem yns_10 {o : Nat} (h : yisO 4 o) : yn (o + 10) = 40 := (ystr_lay o (ystr h)).2.2.2.2.2.2.2.2.2.2.2
theorem yo_lt {o : Nat} (h : yisO 4 o) : o < 160 := (ystr_lay o (ystr h)).1.2
/-! ===== small whole numbers ===== -/
abbrev yI (n : Nat) : Int32 := Int32.ofNat n
theorem yI_clamp {n : Nat} (h : n < 2147483648) : (yI n).toNatClampNeg = n := by
  have h0 : (Int32.size : Nat) = 4294967296 := rfl
  simp only [Int32.toNatClampNeg, Int32.toInt_ofNat', yI]
  rw [Int.bmod_eq_of_le]
  · rfl
  · omega
  · have : (Int32.size : Nat) = 4294967296 := rfl
    omega
theorem yI_toInt {n : Nat} (h : n < 2147483648) : (yI n).toInt = n := by
  simp only [yI, Int32.toInt_ofNat']
  rw [Int.bmod_eq_of_le]
  · omega
  · have : (Int32.size : Nat) = 4294967296 := rfl
    omega
theorem yI_nneg {n : Nat} (h : n < 2147483648) : ¬ yI n < 0 := by
  rw [Int32.lt_iff_toInt_lt, yI_toInt h]
  simp
theorem yix_I {n m : Nat} (h : n < m) (hm : m ≤ 2147483648) : yix (yI n) m := by
  unfold yix
  rw [yI_clamp (by omega)]
  rintro (h1 | h1)
  · exact yI_nneg (by omega) h1
  · omega
theorem yI_lt {n m : Nat} (hn : n < 2147483648) (hm : m < 2147483648) : yI n < yI m ↔ n < m := by
  rw [Int32.lt_iff_toInt_lt, yI_toInt hn, yI_toInt hm]
  omega
theorem yI_le {n m : Nat} (hn : n < 2147483648) (hm : m < 2147483648) : yI n ≤ yI m ↔ n ≤ m := by
  rw [Int32.le_iff_toInt_le, yI_toInt hn, yI_toInt hm]
  omega
theorem yI_inj {n m : Nat} (hn : n < 2147483648) (hm : m < 2147483648) : yI n = yI m ↔ n = m := by
  constructor
  · intro h
    have := congrArg Int32.toInt h
    rw [yI_toInt hn, yI_toInt hm] at this
    omega
  · intro h
    rw [h]
theorem yI_add {n m : Nat} : yI n + yI m = yI (n + m) := (Int32.ofNat_add n m).symm
theorem yI_mul {n m : Nat} : yI n * yI m = yI (n * m) := (Int32.ofNat_mul n m).symm
theorem yI_of {x : Int32} (h : ¬ x < 0) : ∃ n, n < 2147483648 ∧ x = yI n := by
  refine ⟨x.toInt.toNat, ?_, ?_⟩
  · have := x.toInt_lt
    omega
  · apply Int32.toInt_inj.mp
    have h2 := x.toInt_lt
    have h1 : 0 ≤ x.toInt := by
      rw [Int32.lt_iff_toInt_lt] at h
      simpa using h
    rw [yI_toInt (by omega)]
    omega
