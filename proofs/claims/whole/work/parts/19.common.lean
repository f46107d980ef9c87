/-! common rows -/
theorem q_tl1 (v : Value) (l : List Value) : (some v : Option Value).toList ++ l = v :: l := rfl
theorem q_tl0 (l : List Value) : (none : Option Value).toList ++ l = l := rfl
theorem q_wif {X : XT} {d M p q : Nat} {ls : LT} {st : List Value} {h : HT} {Q : QT} {c : Prop} [Decidable c] : wq X d M (if c then p else q) ls st h Q = if c then wq X d M p ls st h Q else wq X d M q ls st h Q := by split <;> rfl
theorem q_swc (a : Int) (t d : Nat) (l : List (Int × Nat)) (x : Int) : m_swt ((a, t) :: l) d x = if x = a then t else m_swt l d x := rfl
theorem q_swn (d : Nat) (x : Int) : m_swt [] d x = d := rfl
theorem q_nl0 : m_nl (some none) = true := by decide
theorem q_nlI (x : Int32) : m_nl (some (some (.int x))) = true := id rfl
theorem q_nlR (x : Nat) : m_nl (some (some (.ref x))) = true := id rfl
theorem q_nz0 : q_nb .boolean 0 = true := by decide
theorem q_nz1 : q_nb .boolean 1 = true := by decide
theorem q_nbB : q_nb .byte 0 = true := by decide
theorem q_nbC (x : Int32) : q_nb .char (x.toUInt32 % 65536).toInt32 = true := decide_eq_true (pk_nc x)
theorem q_zv0 : q_zv 0 = true := by decide
theorem q_zv1 : q_zv 1 = true := by decide
theorem q_in {i n : Nat} (h : i < n) (hn : n < 2 ^ 31) : m_in (nI i) n = true := by
  have h1 : ¬ nI i < 0 := nI_pos (by omega)
  have h2 : (nI i).toNatClampNeg = i := nI_clamp (by omega)
  unfold m_in
  rw [decide_eq_false h1, h2]
  simpa using h
theorem q_inOf {x : Int32} {n : Nat} (h : m_in x n = true) (hn : n < 2 ^ 31) : ∃ i, i < n ∧ x = nI i := vp_in_of (i_in h) hn
theorem q_cl {i : Nat} (h : i < 2 ^ 31) : (nI i).toNatClampNeg = i := nI_clamp h
theorem gI_sI {h : HT} {a k b j : Nat} {v : Int32} : m_gI (m_sI h a k v) b j = if b = a ∧ j = k then v else m_gI h b j := rfl
theorem gI_sL {h : HT} {a k b j : Nat} {v : Int64} : m_gI (m_sL h a k v) b j = m_gI h b j := rfl
theorem gI_sR {h : HT} {a k b j v : Nat} : m_gI (m_sR h a k v) b j = m_gI h b j := rfl
theorem gL_sI {h : HT} {a k b j : Nat} {v : Int32} : m_gL (m_sI h a k v) b j = m_gL h b j := rfl
theorem gL_sL {h : HT} {a k b j : Nat} {v : Int64} : m_gL (m_sL h a k v) b j = if b = a ∧ j = k then v else m_gL h b j := rfl
theorem gL_sR {h : HT} {a k b j v : Nat} : m_gL (m_sR h a k v) b j = m_gL h b j := rfl
theorem gR_sI {h : HT} {a k b j : Nat} {v : Int32} : m_gR (m_sI h a k v) b j = m_gR h b j := rfl
theorem gR_sL {h : HT} {a k b j : Nat} {v : Int64} : m_gR (m_sL h a k v) b j = m_gR h b j := rfl
theorem gR_sR {h : HT} {a k b j v : Nat} : m_gR (m_sR h a k v) b j = if b = a ∧ j = k then v else m_gR h b j := rfl
/-- a counting loop, as an equation: from 0 to n -/
theorem q_loop (P : Nat → Prop) (n : Nat) (hs : ∀ i, i < n → P i = P (i + 1)) : P 0 = P n := by
  induction n with
  | zero => rfl
  | succ n ih => rw [ih (fun i hi => hs i (by omega)), hs n (by omega)]
theorem q_loopFrom (P : Nat → Prop) (k n : Nat) (hk : k ≤ n) (hs : ∀ i, k ≤ i → i < n → P i = P (i + 1)) : P k = P n := by
  induction n with
  | zero => rw [show k = 0 by omega]
  | succ n ih =>
    by_cases h : k = n + 1
    · rw [h]
    · rw [ih (by omega) (fun i h1 h2 => hs i h1 (by omega)), hs n (by omega) (by omega)]
theorem sh_1 : m_sh KS 1 = (0, 11) := by decide +kernel
theorem sh_2 : m_sh KS 2 = (8, 7) := by decide +kernel
theorem sh_3 : m_sh KS 3 = (20, 1600) := by decide +kernel
theorem sh_4 : m_sh KS 4 = (5, 10) := by decide +kernel
theorem sh_5 : m_sh KS 5 = (9, 19) := by decide +kernel
theorem sh_6 : m_sh KS 6 = (20, 4) := by decide +kernel
theorem sh_7 : m_sh KS 7 = (20, 4) := by decide +kernel
theorem sh_8 : m_sh KS 8 = (20, 4) := by decide +kernel
theorem sh_9 : m_sh KS 9 = (20, 7) := by decide +kernel
theorem sh_10 : m_sh KS 10 = (20, 7) := by decide +kernel
theorem sh_11 : m_sh KS 11 = (20, 7) := by decide +kernel
theorem sh_12 : m_sh KS 12 = (20, 7) := by decide +kernel
theorem sh_13 : m_sh KS 13 = (20, 5) := by decide +kernel
theorem sh_14 : m_sh KS 14 = (20, 5) := by decide +kernel
theorem sh_15 : m_sh KS 15 = (2, 5) := by decide +kernel
theorem sh_16 : m_sh KS 16 = (20, 1600) := by decide +kernel
theorem sh_17 : m_sh KS 17 = (20, 30) := by decide +kernel
theorem sh_18 : m_sh KS 18 = (20, 128) := by decide +kernel
theorem sh_19 : m_sh KS 19 = (20, 16) := by decide +kernel
theorem sh_20 : m_sh KS 20 = (21, 4) := by decide +kernel
theorem sh_21 : m_sh KS 21 = (21, 7) := by decide +kernel
theorem sh_22 : m_sh KS 22 = (21, 5) := by decide +kernel
theorem sh_23 : m_sh KS 23 = (9, 19) := by decide +kernel
theorem sh_24 : m_sh KS 24 = (20, 4) := by decide +kernel
theorem sh_25 : m_sh KS 25 = (20, 4) := by decide +kernel
theorem sh_26 : m_sh KS 26 = (20, 4) := by decide +kernel
theorem sh_27 : m_sh KS 27 = (20, 7) := by decide +kernel
theorem sh_28 : m_sh KS 28 = (20, 7) := by decide +kernel
theorem sh_29 : m_sh KS 29 = (20, 7) := by decide +kernel
theorem sh_30 : m_sh KS 30 = (20, 7) := by decide +kernel
theorem sh_31 : m_sh KS 31 = (20, 5) := by decide +kernel
theorem sh_32 : m_sh KS 32 = (20, 5) := by decide +kernel
theorem sh_33 : m_sh KS 33 = (2, 5) := by decide +kernel
theorem sh_34 : m_sh KS 34 = (20, 1600) := by decide +kernel
theorem sh_35 : m_sh KS 35 = (20, 30) := by decide +kernel
theorem sh_36 : m_sh KS 36 = (20, 128) := by decide +kernel
theorem sh_37 : m_sh KS 37 = (20, 16) := by decide +kernel
theorem sh_38 : m_sh KS 38 = (7, 8) := by decide +kernel
theorem sh_39 : m_sh KS 39 = (20, 7) := by decide +kernel
theorem sh_40 : m_sh KS 40 = (20, 7) := by decide +kernel
theorem sh_41 : m_sh KS 41 = (7, 8) := by decide +kernel
theorem sh_42 : m_sh KS 42 = (20, 7) := by decide +kernel
theorem sh_43 : m_sh KS 43 = (20, 7) := by decide +kernel
theorem sh_44 : m_sh KS 44 = (1, 4) := by decide +kernel
theorem sh_45 : m_sh KS 45 = (24, 41) := by decide +kernel
theorem sh_46 : m_sh KS 46 = (7, 8) := by decide +kernel
theorem sh_47 : m_sh KS 47 = (20, 7) := by decide +kernel
theorem sh_48 : m_sh KS 48 = (20, 7) := by decide +kernel
theorem sh_49 : m_sh KS 49 = (7, 8) := by decide +kernel
theorem sh_50 : m_sh KS 50 = (20, 7) := by decide +kernel
theorem sh_51 : m_sh KS 51 = (20, 7) := by decide +kernel
theorem sh_52 : m_sh KS 52 = (7, 8) := by decide +kernel
theorem sh_53 : m_sh KS 53 = (20, 7) := by decide +kernel
theorem sh_54 : m_sh KS 54 = (20, 7) := by decide +kernel
theorem sh_55 : m_sh KS 55 = (7, 8) := by decide +kernel
theorem sh_56 : m_sh KS 56 = (20, 7) := by decide +kernel
theorem sh_57 : m_sh KS 57 = (20, 7) := by decide +kernel
theorem sh_58 : m_sh KS 58 = (7, 8) := by decide +kernel
theorem sh_59 : m_sh KS 59 = (20, 7) := by decide +kernel
theorem sh_60 : m_sh KS 60 = (20, 7) := by decide +kernel
theorem sh_61 : m_sh KS 61 = (7, 8) := by decide +kernel
theorem sh_62 : m_sh KS 62 = (20, 7) := by decide +kernel
theorem sh_63 : m_sh KS 63 = (20, 7) := by decide +kernel
theorem sh_64 : m_sh KS 64 = (7, 8) := by decide +kernel
theorem sh_65 : m_sh KS 65 = (20, 7) := by decide +kernel
theorem sh_66 : m_sh KS 66 = (20, 7) := by decide +kernel
theorem sh_67 : m_sh KS 67 = (7, 8) := by decide +kernel
theorem sh_68 : m_sh KS 68 = (20, 7) := by decide +kernel
theorem sh_69 : m_sh KS 69 = (20, 7) := by decide +kernel
theorem sh_70 : m_sh KS 70 = (7, 8) := by decide +kernel
theorem sh_71 : m_sh KS 71 = (20, 7) := by decide +kernel
theorem sh_72 : m_sh KS 72 = (20, 7) := by decide +kernel
theorem sh_73 : m_sh KS 73 = (7, 8) := by decide +kernel
theorem sh_74 : m_sh KS 74 = (20, 7) := by decide +kernel
theorem sh_75 : m_sh KS 75 = (20, 7) := by decide +kernel
theorem sh_76 : m_sh KS 76 = (7, 8) := by decide +kernel
theorem sh_77 : m_sh KS 77 = (20, 7) := by decide +kernel
theorem sh_78 : m_sh KS 78 = (20, 7) := by decide +kernel
theorem sh_79 : m_sh KS 79 = (7, 8) := by decide +kernel
theorem sh_80 : m_sh KS 80 = (20, 7) := by decide +kernel
theorem sh_81 : m_sh KS 81 = (20, 7) := by decide +kernel
theorem sh_82 : m_sh KS 82 = (7, 8) := by decide +kernel
theorem sh_83 : m_sh KS 83 = (20, 7) := by decide +kernel
theorem sh_84 : m_sh KS 84 = (20, 7) := by decide +kernel
theorem sh_85 : m_sh KS 85 = (7, 8) := by decide +kernel
theorem sh_86 : m_sh KS 86 = (20, 7) := by decide +kernel
theorem sh_87 : m_sh KS 87 = (20, 7) := by decide +kernel
theorem sh_88 : m_sh KS 88 = (7, 8) := by decide +kernel
theorem sh_89 : m_sh KS 89 = (20, 7) := by decide +kernel
theorem sh_90 : m_sh KS 90 = (20, 7) := by decide +kernel
theorem sh_91 : m_sh KS 91 = (7, 8) := by decide +kernel
theorem sh_92 : m_sh KS 92 = (20, 7) := by decide +kernel
theorem sh_93 : m_sh KS 93 = (20, 7) := by decide +kernel
theorem sh_94 : m_sh KS 94 = (7, 8) := by decide +kernel
theorem sh_95 : m_sh KS 95 = (20, 7) := by decide +kernel
theorem sh_96 : m_sh KS 96 = (20, 7) := by decide +kernel
theorem sh_97 : m_sh KS 97 = (7, 8) := by decide +kernel
theorem sh_98 : m_sh KS 98 = (20, 7) := by decide +kernel
theorem sh_99 : m_sh KS 99 = (20, 7) := by decide +kernel
theorem sh_100 : m_sh KS 100 = (7, 8) := by decide +kernel
theorem sh_101 : m_sh KS 101 = (20, 7) := by decide +kernel
theorem sh_102 : m_sh KS 102 = (20, 7) := by decide +kernel
theorem sh_103 : m_sh KS 103 = (7, 8) := by decide +kernel
theorem sh_104 : m_sh KS 104 = (20, 7) := by decide +kernel
theorem sh_105 : m_sh KS 105 = (20, 7) := by decide +kernel
theorem sh_106 : m_sh KS 106 = (7, 8) := by decide +kernel
theorem sh_107 : m_sh KS 107 = (20, 7) := by decide +kernel
theorem sh_108 : m_sh KS 108 = (20, 7) := by decide +kernel
theorem sh_109 : m_sh KS 109 = (7, 8) := by decide +kernel
theorem sh_110 : m_sh KS 110 = (20, 7) := by decide +kernel
theorem sh_111 : m_sh KS 111 = (20, 7) := by decide +kernel
theorem sh_112 : m_sh KS 112 = (7, 8) := by decide +kernel
theorem sh_113 : m_sh KS 113 = (20, 7) := by decide +kernel
theorem sh_114 : m_sh KS 114 = (20, 7) := by decide +kernel
theorem sh_115 : m_sh KS 115 = (7, 8) := by decide +kernel
theorem sh_116 : m_sh KS 116 = (20, 7) := by decide +kernel
theorem sh_117 : m_sh KS 117 = (20, 7) := by decide +kernel
theorem sh_118 : m_sh KS 118 = (7, 8) := by decide +kernel
theorem sh_119 : m_sh KS 119 = (20, 7) := by decide +kernel
theorem sh_120 : m_sh KS 120 = (20, 7) := by decide +kernel
theorem sh_121 : m_sh KS 121 = (7, 8) := by decide +kernel
theorem sh_122 : m_sh KS 122 = (20, 7) := by decide +kernel
theorem sh_123 : m_sh KS 123 = (20, 7) := by decide +kernel
theorem sh_124 : m_sh KS 124 = (7, 8) := by decide +kernel
theorem sh_125 : m_sh KS 125 = (20, 7) := by decide +kernel
theorem sh_126 : m_sh KS 126 = (20, 7) := by decide +kernel
theorem sh_127 : m_sh KS 127 = (7, 8) := by decide +kernel
theorem sh_128 : m_sh KS 128 = (20, 7) := by decide +kernel
theorem sh_129 : m_sh KS 129 = (20, 7) := by decide +kernel
theorem sh_130 : m_sh KS 130 = (7, 8) := by decide +kernel
theorem sh_131 : m_sh KS 131 = (20, 7) := by decide +kernel
theorem sh_132 : m_sh KS 132 = (20, 7) := by decide +kernel
theorem sh_133 : m_sh KS 133 = (7, 8) := by decide +kernel
theorem sh_134 : m_sh KS 134 = (20, 7) := by decide +kernel
theorem sh_135 : m_sh KS 135 = (20, 7) := by decide +kernel
theorem sh_136 : m_sh KS 136 = (7, 8) := by decide +kernel
theorem sh_137 : m_sh KS 137 = (20, 7) := by decide +kernel
theorem sh_138 : m_sh KS 138 = (20, 7) := by decide +kernel
theorem sh_139 : m_sh KS 139 = (7, 8) := by decide +kernel
theorem sh_140 : m_sh KS 140 = (20, 7) := by decide +kernel
theorem sh_141 : m_sh KS 141 = (20, 7) := by decide +kernel
theorem sh_142 : m_sh KS 142 = (7, 8) := by decide +kernel
theorem sh_143 : m_sh KS 143 = (20, 7) := by decide +kernel
theorem sh_144 : m_sh KS 144 = (20, 7) := by decide +kernel
theorem sh_145 : m_sh KS 145 = (7, 8) := by decide +kernel
theorem sh_146 : m_sh KS 146 = (20, 7) := by decide +kernel
theorem sh_147 : m_sh KS 147 = (20, 7) := by decide +kernel
theorem sh_148 : m_sh KS 148 = (7, 8) := by decide +kernel
theorem sh_149 : m_sh KS 149 = (20, 7) := by decide +kernel
theorem sh_150 : m_sh KS 150 = (20, 7) := by decide +kernel
theorem sh_151 : m_sh KS 151 = (7, 8) := by decide +kernel
theorem sh_152 : m_sh KS 152 = (20, 7) := by decide +kernel
theorem sh_153 : m_sh KS 153 = (20, 7) := by decide +kernel
theorem sh_154 : m_sh KS 154 = (7, 8) := by decide +kernel
theorem sh_155 : m_sh KS 155 = (20, 7) := by decide +kernel
theorem sh_156 : m_sh KS 156 = (20, 7) := by decide +kernel
theorem sh_157 : m_sh KS 157 = (7, 8) := by decide +kernel
theorem sh_158 : m_sh KS 158 = (20, 7) := by decide +kernel
theorem sh_159 : m_sh KS 159 = (20, 7) := by decide +kernel
theorem sh_160 : m_sh KS 160 = (7, 8) := by decide +kernel
theorem sh_161 : m_sh KS 161 = (20, 7) := by decide +kernel
theorem sh_162 : m_sh KS 162 = (20, 7) := by decide +kernel
theorem sh_163 : m_sh KS 163 = (7, 8) := by decide +kernel
theorem sh_164 : m_sh KS 164 = (20, 7) := by decide +kernel
theorem sh_165 : m_sh KS 165 = (20, 7) := by decide +kernel
theorem sh_166 : m_sh KS 166 = (7, 8) := by decide +kernel
theorem sh_167 : m_sh KS 167 = (20, 7) := by decide +kernel
theorem sh_168 : m_sh KS 168 = (20, 7) := by decide +kernel
theorem sh_169 : m_sh KS 169 = (24, 3) := by decide +kernel
theorem sh_170 : m_sh KS 170 = (22, 3) := by decide +kernel
theorem sh_171 : m_sh KS 171 = (3, 4) := by decide +kernel
theorem sh_172 : m_sh KS 172 = (7, 8) := by decide +kernel
theorem sh_173 : m_sh KS 173 = (20, 7) := by decide +kernel
theorem sh_174 : m_sh KS 174 = (20, 7) := by decide +kernel
theorem sh_175 : m_sh KS 175 = (20, 61) := by decide +kernel
theorem sh_176 : m_sh KS 176 = (20, 61) := by decide +kernel
theorem sh_177 : m_sh KS 177 = (20, 61) := by decide +kernel
theorem sh_178 : m_sh KS 178 = (4, 4) := by decide +kernel
theorem sh_179 : m_sh KS 179 = (6, 9) := by decide +kernel
theorem sh_180 : m_sh KS 180 = (20, 30) := by decide +kernel
theorem sh_181 : m_sh KS 181 = (20, 30) := by decide +kernel
theorem sh_182 : m_sh KS 182 = (22, 30) := by decide +kernel
theorem sh_183 : m_sh KS 183 = (20, 30) := by decide +kernel
theorem sh_184 : m_sh KS 184 = (20, 30) := by decide +kernel
theorem sh_185 : m_sh KS 185 = (20, 7) := by decide +kernel
theorem sh_186 : m_sh KS 186 = (7, 8) := by decide +kernel
theorem sh_187 : m_sh KS 187 = (20, 7) := by decide +kernel
theorem sh_188 : m_sh KS 188 = (20, 7) := by decide +kernel
theorem sh_189 : m_sh KS 189 = (7, 8) := by decide +kernel
theorem sh_190 : m_sh KS 190 = (20, 7) := by decide +kernel
theorem sh_191 : m_sh KS 191 = (20, 7) := by decide +kernel
theorem sh_192 : m_sh KS 192 = (7, 8) := by decide +kernel
theorem sh_193 : m_sh KS 193 = (20, 7) := by decide +kernel
theorem sh_194 : m_sh KS 194 = (20, 7) := by decide +kernel
theorem sh_195 : m_sh KS 195 = (10, 67) := by decide +kernel
theorem sh_196 : m_sh KS 196 = (23, 1620) := by decide +kernel
theorem sh_197 : m_sh KS 197 = (23, 1600) := by decide +kernel
theorem sh_198 : m_sh KS 198 = (20, 2) := by decide +kernel
theorem sh_199 : m_sh KS 199 = (20, 2) := by decide +kernel
theorem sh_200 : m_sh KS 200 = (20, 2) := by decide +kernel
theorem sh_201 : m_sh KS 201 = (20, 2) := by decide +kernel
theorem sh_202 : m_sh KS 202 = (20, 2) := by decide +kernel
theorem sh_203 : m_sh KS 203 = (20, 2) := by decide +kernel
theorem sh_204 : m_sh KS 204 = (20, 2) := by decide +kernel
theorem sh_205 : m_sh KS 205 = (20, 2) := by decide +kernel
theorem sh_206 : m_sh KS 206 = (20, 8) := by decide +kernel
theorem sh_207 : m_sh KS 207 = (20, 8) := by decide +kernel
theorem sh_208 : m_sh KS 208 = (20, 14) := by decide +kernel
theorem sh_209 : m_sh KS 209 = (20, 14) := by decide +kernel
theorem sh_210 : m_sh KS 210 = (20, 14) := by decide +kernel
theorem sh_211 : m_sh KS 211 = (20, 14) := by decide +kernel
theorem sh_212 : m_sh KS 212 = (20, 10) := by decide +kernel
theorem sh_213 : m_sh KS 213 = (20, 10) := by decide +kernel
theorem sh_214 : m_sh KS 214 = (20, 2) := by decide +kernel
theorem sh_215 : m_sh KS 215 = (20, 2) := by decide +kernel
theorem sh_216 : m_sh KS 216 = (22, 2) := by decide +kernel
theorem sh_217 : m_sh KS 217 = (22, 2) := by decide +kernel
theorem sh_218 : m_sh KS 218 = (22, 2) := by decide +kernel
theorem sh_219 : m_sh KS 219 = (21, 8) := by decide +kernel
theorem sh_220 : m_sh KS 220 = (21, 14) := by decide +kernel
theorem sh_221 : m_sh KS 221 = (21, 10) := by decide +kernel
theorem sh_222 : m_sh KS 222 = (20, 1120) := by decide +kernel
theorem sh_223 : m_sh KS 223 = (20, 1120) := by decide +kernel
theorem sh_224 : m_sh KS 224 = (20, 90) := by decide +kernel
theorem sh_225 : m_sh KS 225 = (20, 90) := by decide +kernel
theorem sh_226 : m_sh KS 226 = (20, 60) := by decide +kernel
theorem sh_227 : m_sh KS 227 = (20, 20) := by decide +kernel
theorem sh_228 : m_sh KS 228 = (20, 820) := by decide +kernel
theorem sh_229 : m_sh KS 229 = (20, 20) := by decide +kernel
theorem sh_230 : m_sh KS 230 = (20, 30) := by decide +kernel
theorem sh_231 : m_sh KS 231 = (20, 30) := by decide +kernel
theorem sh_232 : m_sh KS 232 = (20, 30) := by decide +kernel
theorem sh_233 : m_sh KS 233 = (20, 30) := by decide +kernel
theorem sh_234 : m_sh KS 234 = (20, 30) := by decide +kernel
theorem sh_235 : m_sh KS 235 = (20, 7) := by decide +kernel
theorem sh_236 : m_sh KS 236 = (20, 60) := by decide +kernel
theorem sh_237 : m_sh KS 237 = (22, 3) := by decide +kernel
theorem q_tm10 (x : Int32) : (x.toInt = (-10)) = (x = (-10)) := propext ⟨fun h => Int32.toInt_inj.mp (h.trans (by decide)), fun h => by rw [h]; decide⟩
theorem q_tm9 (x : Int32) : (x.toInt = (-9)) = (x = (-9)) := propext ⟨fun h => Int32.toInt_inj.mp (h.trans (by decide)), fun h => by rw [h]; decide⟩
theorem q_tm8 (x : Int32) : (x.toInt = (-8)) = (x = (-8)) := propext ⟨fun h => Int32.toInt_inj.mp (h.trans (by decide)), fun h => by rw [h]; decide⟩
theorem q_tm7 (x : Int32) : (x.toInt = (-7)) = (x = (-7)) := propext ⟨fun h => Int32.toInt_inj.mp (h.trans (by decide)), fun h => by rw [h]; decide⟩
theorem q_tm6 (x : Int32) : (x.toInt = (-6)) = (x = (-6)) := propext ⟨fun h => Int32.toInt_inj.mp (h.trans (by decide)), fun h => by rw [h]; decide⟩
theorem q_tm5 (x : Int32) : (x.toInt = (-5)) = (x = (-5)) := propext ⟨fun h => Int32.toInt_inj.mp (h.trans (by decide)), fun h => by rw [h]; decide⟩
theorem q_tm4 (x : Int32) : (x.toInt = (-4)) = (x = (-4)) := propext ⟨fun h => Int32.toInt_inj.mp (h.trans (by decide)), fun h => by rw [h]; decide⟩
theorem q_tm3 (x : Int32) : (x.toInt = (-3)) = (x = (-3)) := propext ⟨fun h => Int32.toInt_inj.mp (h.trans (by decide)), fun h => by rw [h]; decide⟩
theorem q_tm2 (x : Int32) : (x.toInt = (-2)) = (x = (-2)) := propext ⟨fun h => Int32.toInt_inj.mp (h.trans (by decide)), fun h => by rw [h]; decide⟩
theorem q_tm1 (x : Int32) : (x.toInt = (-1)) = (x = (-1)) := propext ⟨fun h => Int32.toInt_inj.mp (h.trans (by decide)), fun h => by rw [h]; decide⟩
theorem q_t0 (x : Int32) : (x.toInt = 0) = (x = 0) := propext ⟨fun h => Int32.toInt_inj.mp (h.trans (by decide)), fun h => by rw [h]; decide⟩
theorem q_t1 (x : Int32) : (x.toInt = 1) = (x = 1) := propext ⟨fun h => Int32.toInt_inj.mp (h.trans (by decide)), fun h => by rw [h]; decide⟩
theorem q_t2 (x : Int32) : (x.toInt = 2) = (x = 2) := propext ⟨fun h => Int32.toInt_inj.mp (h.trans (by decide)), fun h => by rw [h]; decide⟩
theorem q_t3 (x : Int32) : (x.toInt = 3) = (x = 3) := propext ⟨fun h => Int32.toInt_inj.mp (h.trans (by decide)), fun h => by rw [h]; decide⟩
theorem q_t4 (x : Int32) : (x.toInt = 4) = (x = 4) := propext ⟨fun h => Int32.toInt_inj.mp (h.trans (by decide)), fun h => by rw [h]; decide⟩
theorem q_t5 (x : Int32) : (x.toInt = 5) = (x = 5) := propext ⟨fun h => Int32.toInt_inj.mp (h.trans (by decide)), fun h => by rw [h]; decide⟩
theorem q_t6 (x : Int32) : (x.toInt = 6) = (x = 6) := propext ⟨fun h => Int32.toInt_inj.mp (h.trans (by decide)), fun h => by rw [h]; decide⟩
theorem q_t7 (x : Int32) : (x.toInt = 7) = (x = 7) := propext ⟨fun h => Int32.toInt_inj.mp (h.trans (by decide)), fun h => by rw [h]; decide⟩
theorem q_t8 (x : Int32) : (x.toInt = 8) = (x = 8) := propext ⟨fun h => Int32.toInt_inj.mp (h.trans (by decide)), fun h => by rw [h]; decide⟩
theorem q_t9 (x : Int32) : (x.toInt = 9) = (x = 9) := propext ⟨fun h => Int32.toInt_inj.mp (h.trans (by decide)), fun h => by rw [h]; decide⟩
theorem q_t10 (x : Int32) : (x.toInt = 10) = (x = 10) := propext ⟨fun h => Int32.toInt_inj.mp (h.trans (by decide)), fun h => by rw [h]; decide⟩
theorem q_t11 (x : Int32) : (x.toInt = 11) = (x = 11) := propext ⟨fun h => Int32.toInt_inj.mp (h.trans (by decide)), fun h => by rw [h]; decide⟩
theorem q_t12 (x : Int32) : (x.toInt = 12) = (x = 12) := propext ⟨fun h => Int32.toInt_inj.mp (h.trans (by decide)), fun h => by rw [h]; decide⟩
theorem q_t13 (x : Int32) : (x.toInt = 13) = (x = 13) := propext ⟨fun h => Int32.toInt_inj.mp (h.trans (by decide)), fun h => by rw [h]; decide⟩
theorem q_t14 (x : Int32) : (x.toInt = 14) = (x = 14) := propext ⟨fun h => Int32.toInt_inj.mp (h.trans (by decide)), fun h => by rw [h]; decide⟩
theorem q_t15 (x : Int32) : (x.toInt = 15) = (x = 15) := propext ⟨fun h => Int32.toInt_inj.mp (h.trans (by decide)), fun h => by rw [h]; decide⟩
theorem q_t16 (x : Int32) : (x.toInt = 16) = (x = 16) := propext ⟨fun h => Int32.toInt_inj.mp (h.trans (by decide)), fun h => by rw [h]; decide⟩
theorem q_t17 (x : Int32) : (x.toInt = 17) = (x = 17) := propext ⟨fun h => Int32.toInt_inj.mp (h.trans (by decide)), fun h => by rw [h]; decide⟩
theorem q_t18 (x : Int32) : (x.toInt = 18) = (x = 18) := propext ⟨fun h => Int32.toInt_inj.mp (h.trans (by decide)), fun h => by rw [h]; decide⟩
theorem q_t19 (x : Int32) : (x.toInt = 19) = (x = 19) := propext ⟨fun h => Int32.toInt_inj.mp (h.trans (by decide)), fun h => by rw [h]; decide⟩
theorem q_t20 (x : Int32) : (x.toInt = 20) = (x = 20) := propext ⟨fun h => Int32.toInt_inj.mp (h.trans (by decide)), fun h => by rw [h]; decide⟩
theorem q_t21 (x : Int32) : (x.toInt = 21) = (x = 21) := propext ⟨fun h => Int32.toInt_inj.mp (h.trans (by decide)), fun h => by rw [h]; decide⟩
theorem q_t22 (x : Int32) : (x.toInt = 22) = (x = 22) := propext ⟨fun h => Int32.toInt_inj.mp (h.trans (by decide)), fun h => by rw [h]; decide⟩
theorem q_t23 (x : Int32) : (x.toInt = 23) = (x = 23) := propext ⟨fun h => Int32.toInt_inj.mp (h.trans (by decide)), fun h => by rw [h]; decide⟩
theorem q_t24 (x : Int32) : (x.toInt = 24) = (x = 24) := propext ⟨fun h => Int32.toInt_inj.mp (h.trans (by decide)), fun h => by rw [h]; decide⟩
theorem q_t25 (x : Int32) : (x.toInt = 25) = (x = 25) := propext ⟨fun h => Int32.toInt_inj.mp (h.trans (by decide)), fun h => by rw [h]; decide⟩
theorem q_t26 (x : Int32) : (x.toInt = 26) = (x = 26) := propext ⟨fun h => Int32.toInt_inj.mp (h.trans (by decide)), fun h => by rw [h]; decide⟩
theorem q_t27 (x : Int32) : (x.toInt = 27) = (x = 27) := propext ⟨fun h => Int32.toInt_inj.mp (h.trans (by decide)), fun h => by rw [h]; decide⟩
theorem q_t28 (x : Int32) : (x.toInt = 28) = (x = 28) := propext ⟨fun h => Int32.toInt_inj.mp (h.trans (by decide)), fun h => by rw [h]; decide⟩
theorem q_t29 (x : Int32) : (x.toInt = 29) = (x = 29) := propext ⟨fun h => Int32.toInt_inj.mp (h.trans (by decide)), fun h => by rw [h]; decide⟩
theorem q_t30 (x : Int32) : (x.toInt = 30) = (x = 30) := propext ⟨fun h => Int32.toInt_inj.mp (h.trans (by decide)), fun h => by rw [h]; decide⟩
theorem q_t31 (x : Int32) : (x.toInt = 31) = (x = 31) := propext ⟨fun h => Int32.toInt_inj.mp (h.trans (by decide)), fun h => by rw [h]; decide⟩
theorem q_t32 (x : Int32) : (x.toInt = 32) = (x = 32) := propext ⟨fun h => Int32.toInt_inj.mp (h.trans (by decide)), fun h => by rw [h]; decide⟩
theorem q_t33 (x : Int32) : (x.toInt = 33) = (x = 33) := propext ⟨fun h => Int32.toInt_inj.mp (h.trans (by decide)), fun h => by rw [h]; decide⟩
theorem q_t34 (x : Int32) : (x.toInt = 34) = (x = 34) := propext ⟨fun h => Int32.toInt_inj.mp (h.trans (by decide)), fun h => by rw [h]; decide⟩
theorem q_t35 (x : Int32) : (x.toInt = 35) = (x = 35) := propext ⟨fun h => Int32.toInt_inj.mp (h.trans (by decide)), fun h => by rw [h]; decide⟩
theorem q_t36 (x : Int32) : (x.toInt = 36) = (x = 36) := propext ⟨fun h => Int32.toInt_inj.mp (h.trans (by decide)), fun h => by rw [h]; decide⟩
theorem q_t37 (x : Int32) : (x.toInt = 37) = (x = 37) := propext ⟨fun h => Int32.toInt_inj.mp (h.trans (by decide)), fun h => by rw [h]; decide⟩
theorem q_t38 (x : Int32) : (x.toInt = 38) = (x = 38) := propext ⟨fun h => Int32.toInt_inj.mp (h.trans (by decide)), fun h => by rw [h]; decide⟩
theorem q_t39 (x : Int32) : (x.toInt = 39) = (x = 39) := propext ⟨fun h => Int32.toInt_inj.mp (h.trans (by decide)), fun h => by rw [h]; decide⟩
theorem q_t40 (x : Int32) : (x.toInt = 40) = (x = 40) := propext ⟨fun h => Int32.toInt_inj.mp (h.trans (by decide)), fun h => by rw [h]; decide⟩
theorem q_t41 (x : Int32) : (x.toInt = 41) = (x = 41) := propext ⟨fun h => Int32.toInt_inj.mp (h.trans (by decide)), fun h => by rw [h]; decide⟩
theorem q_t42 (x : Int32) : (x.toInt = 42) = (x = 42) := propext ⟨fun h => Int32.toInt_inj.mp (h.trans (by decide)), fun h => by rw [h]; decide⟩
theorem q_t43 (x : Int32) : (x.toInt = 43) = (x = 43) := propext ⟨fun h => Int32.toInt_inj.mp (h.trans (by decide)), fun h => by rw [h]; decide⟩
theorem q_t44 (x : Int32) : (x.toInt = 44) = (x = 44) := propext ⟨fun h => Int32.toInt_inj.mp (h.trans (by decide)), fun h => by rw [h]; decide⟩
theorem q_t45 (x : Int32) : (x.toInt = 45) = (x = 45) := propext ⟨fun h => Int32.toInt_inj.mp (h.trans (by decide)), fun h => by rw [h]; decide⟩
theorem q_t46 (x : Int32) : (x.toInt = 46) = (x = 46) := propext ⟨fun h => Int32.toInt_inj.mp (h.trans (by decide)), fun h => by rw [h]; decide⟩
theorem q_t47 (x : Int32) : (x.toInt = 47) = (x = 47) := propext ⟨fun h => Int32.toInt_inj.mp (h.trans (by decide)), fun h => by rw [h]; decide⟩
theorem q_t48 (x : Int32) : (x.toInt = 48) = (x = 48) := propext ⟨fun h => Int32.toInt_inj.mp (h.trans (by decide)), fun h => by rw [h]; decide⟩
theorem q_t49 (x : Int32) : (x.toInt = 49) = (x = 49) := propext ⟨fun h => Int32.toInt_inj.mp (h.trans (by decide)), fun h => by rw [h]; decide⟩
theorem q_t50 (x : Int32) : (x.toInt = 50) = (x = 50) := propext ⟨fun h => Int32.toInt_inj.mp (h.trans (by decide)), fun h => by rw [h]; decide⟩
theorem q_t51 (x : Int32) : (x.toInt = 51) = (x = 51) := propext ⟨fun h => Int32.toInt_inj.mp (h.trans (by decide)), fun h => by rw [h]; decide⟩
theorem q_t52 (x : Int32) : (x.toInt = 52) = (x = 52) := propext ⟨fun h => Int32.toInt_inj.mp (h.trans (by decide)), fun h => by rw [h]; decide⟩
theorem q_t53 (x : Int32) : (x.toInt = 53) = (x = 53) := propext ⟨fun h => Int32.toInt_inj.mp (h.trans (by decide)), fun h => by rw [h]; decide⟩
theorem q_t54 (x : Int32) : (x.toInt = 54) = (x = 54) := propext ⟨fun h => Int32.toInt_inj.mp (h.trans (by decide)), fun h => by rw [h]; decide⟩
theorem q_t55 (x : Int32) : (x.toInt = 55) = (x = 55) := propext ⟨fun h => Int32.toInt_inj.mp (h.trans (by decide)), fun h => by rw [h]; decide⟩
theorem q_t56 (x : Int32) : (x.toInt = 56) = (x = 56) := propext ⟨fun h => Int32.toInt_inj.mp (h.trans (by decide)), fun h => by rw [h]; decide⟩
theorem q_t57 (x : Int32) : (x.toInt = 57) = (x = 57) := propext ⟨fun h => Int32.toInt_inj.mp (h.trans (by decide)), fun h => by rw [h]; decide⟩
theorem q_t58 (x : Int32) : (x.toInt = 58) = (x = 58) := propext ⟨fun h => Int32.toInt_inj.mp (h.trans (by decide)), fun h => by rw [h]; decide⟩
theorem q_t59 (x : Int32) : (x.toInt = 59) = (x = 59) := propext ⟨fun h => Int32.toInt_inj.mp (h.trans (by decide)), fun h => by rw [h]; decide⟩
theorem q_t60 (x : Int32) : (x.toInt = 60) = (x = 60) := propext ⟨fun h => Int32.toInt_inj.mp (h.trans (by decide)), fun h => by rw [h]; decide⟩
theorem q_t61 (x : Int32) : (x.toInt = 61) = (x = 61) := propext ⟨fun h => Int32.toInt_inj.mp (h.trans (by decide)), fun h => by rw [h]; decide⟩
theorem q_t62 (x : Int32) : (x.toInt = 62) = (x = 62) := propext ⟨fun h => Int32.toInt_inj.mp (h.trans (by decide)), fun h => by rw [h]; decide⟩
theorem q_t63 (x : Int32) : (x.toInt = 63) = (x = 63) := propext ⟨fun h => Int32.toInt_inj.mp (h.trans (by decide)), fun h => by rw [h]; decide⟩
theorem q_t100 (x : Int32) : (x.toInt = 100) = (x = 100) := propext ⟨fun h => Int32.toInt_inj.mp (h.trans (by decide)), fun h => by rw [h]; decide⟩
theorem q_t103 (x : Int32) : (x.toInt = 103) = (x = 103) := propext ⟨fun h => Int32.toInt_inj.mp (h.trans (by decide)), fun h => by rw [h]; decide⟩
theorem q_t108 (x : Int32) : (x.toInt = 108) = (x = 108) := propext ⟨fun h => Int32.toInt_inj.mp (h.trans (by decide)), fun h => by rw [h]; decide⟩
theorem q_t110 (x : Int32) : (x.toInt = 110) = (x = 110) := propext ⟨fun h => Int32.toInt_inj.mp (h.trans (by decide)), fun h => by rw [h]; decide⟩
theorem q_t111 (x : Int32) : (x.toInt = 111) = (x = 111) := propext ⟨fun h => Int32.toInt_inj.mp (h.trans (by decide)), fun h => by rw [h]; decide⟩
theorem q_t115 (x : Int32) : (x.toInt = 115) = (x = 115) := propext ⟨fun h => Int32.toInt_inj.mp (h.trans (by decide)), fun h => by rw [h]; decide⟩
theorem q_t121 (x : Int32) : (x.toInt = 121) = (x = 121) := propext ⟨fun h => Int32.toInt_inj.mp (h.trans (by decide)), fun h => by rw [h]; decide⟩
theorem q_t124 (x : Int32) : (x.toInt = 124) = (x = 124) := propext ⟨fun h => Int32.toInt_inj.mp (h.trans (by decide)), fun h => by rw [h]; decide⟩
theorem q_t126 (x : Int32) : (x.toInt = 126) = (x = 126) := propext ⟨fun h => Int32.toInt_inj.mp (h.trans (by decide)), fun h => by rw [h]; decide⟩
