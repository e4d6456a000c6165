section
set_option maxRecDepth 20000 in
theorem law_machine {E : Ev} {b L o o7 k n t : Nat} {xs : Nat → Int32} {wc wm : va_W} (C : Cx E cL_law wsL_law RL room_1 4) (hX : LX E b L xs) (hi : 6 * t + 6 ≤ L) (hkn : k ≤ room_1.cells ∧ n ≤ room_1.slots) (hI : INV t (eY E) o o7 wc wm) (kk : ∀ wc' wm', INV (t + 1) (eY E) o o7 wc' wm' → Go E k n 679 (lvL b o o7 (6 * t)) [] (wc' ++ wm')) : Go E k n 124 (lvL b o o7 (6 * t)) [] (wc ++ wm) := by
  have ht : t ≤ 900 := by have := hX.2.2.2; omega
  obtain ⟨hl6, hl7, ⟨fs6, he6⟩, ⟨fs7, he7⟩⟩ := INV_len hI
  obtain ⟨wcb, wmb, v, f, Lc, f', L', ⟨hf1, hf2, hf3, hf4⟩, hIb, h6, h7⟩ := s_machine (l := eL E) (D := eD E) hI ht (xs (6 * t + 1)) (xs (6 * t + 2))
  obtain ⟨hl6b, hl7b, _, _⟩ := INV_len hIb
  refine g_aload_n C dL_law_124 rfl 125 rfl 2 rfl ?_
  refine g_aload_n C dL_law_125 rfl 126 rfl 3 rfl ?_
  refine g_iload_n C dL_law_126 rfl 127 rfl 0 rfl ?_
  refine g_iconst C (v := nI 1) dL_law_127 rfl 128 rfl ?_
  refine g_iadd C dL_law_128 129 rfl (nI_add (6 * t) 1) ?_
  refine g_sld C hX (show 6 * t + 1 < L by omega) dL_law_129 130 rfl ?_
  refine g_aload_n C dL_law_130 rfl 131 rfl 3 rfl ?_
  refine g_iload_n C dL_law_131 rfl 132 rfl 0 rfl ?_
  refine g_iconst C (v := nI 2) dL_law_132 rfl 133 rfl ?_
  refine g_iadd C dL_law_133 134 rfl (nI_add (6 * t) 2) ?_
  refine g_sld C hX (show 6 * t + 2 < L by omega) dL_law_134 135 rfl ?_
  refine g_c2i C h6 2 gL_law_X6_machine rfl (by decide +kernel) ⟨show f + 1 ≤ 10 by omega, show 8 + (4 + 11) + Lc ≤ 396 by omega⟩ hkn (ci := 6) rfl he6 rfl rfl (Nat.le_of_ble_eq_true rfl) 35 19 hl6 hl7 hl6b nd_35 dL_law_135 138 rfl ?_
  refine g_aload_n C dL_law_138 rfl 139 rfl 1 rfl ?_
  refine g_aload_n C dL_law_139 rfl 140 rfl 3 rfl ?_
  refine g_iload_n C dL_law_140 rfl 141 rfl 0 rfl ?_
  refine g_iconst C (v := nI 1) dL_law_141 rfl 142 rfl ?_
  refine g_iadd C dL_law_142 143 rfl (nI_add (6 * t) 1) ?_
  refine g_sld C hX (show 6 * t + 1 < L by omega) dL_law_143 144 rfl ?_
  refine g_aload_n C dL_law_144 rfl 145 rfl 3 rfl ?_
  refine g_iload_n C dL_law_145 rfl 146 rfl 0 rfl ?_
  refine g_iconst C (v := nI 2) dL_law_146 rfl 147 rfl ?_
  refine g_iadd C dL_law_147 148 rfl (nI_add (6 * t) 2) ?_
  refine g_sld C hX (show 6 * t + 2 < L by omega) dL_law_148 149 rfl ?_
  refine g_c2i C h7 2 gL_law_X7_machine rfl (by decide +kernel) ⟨show f' + 1 ≤ 10 by omega, show 8 + (4 + 11) + L' ≤ 396 by omega⟩ hkn (ci := 7) rfl he7 rfl rfl (Nat.le_of_ble_eq_true rfl) 19 35 hl7 hl6b hl7b nd_19 dL_law_149 152 rfl ?_
  exact g_icmp_eq C (X := True) dL_law_152 679 (by decide) 155 rfl ⟨fun _ => trivial, fun _ => rfl⟩ (fun _ => kk _ _ hIb) (fun h => absurd trivial h)
set_option maxRecDepth 20000 in
theorem law_rule {E : Ev} {b L o o7 k n t : Nat} {xs : Nat → Int32} {wc wm : va_W} (C : Cx E cL_law wsL_law RL room_1 4) (hX : LX E b L xs) (hi : 6 * t + 6 ≤ L) (hkn : k ≤ room_1.cells ∧ n ≤ room_1.slots) (hI : INV t (eY E) o o7 wc wm) (kk : ∀ wc' wm', INV (t + 1) (eY E) o o7 wc' wm' → Go E k n 679 (lvL b o o7 (6 * t)) [] (wc' ++ wm')) : Go E k n 157 (lvL b o o7 (6 * t)) [] (wc ++ wm) := by
  have ht : t ≤ 900 := by have := hX.2.2.2; omega
  obtain ⟨hl6, hl7, ⟨fs6, he6⟩, ⟨fs7, he7⟩⟩ := INV_len hI
  obtain ⟨wcb, wmb, v, f, Lc, f', L', ⟨hf1, hf2, hf3, hf4⟩, hIb, h6, h7⟩ := s_rule (l := eL E) (D := eD E) hI ht (xs (6 * t + 1)) (xs (6 * t + 2)) (xs (6 * t + 3)) (xs (6 * t + 4)) (xs (6 * t + 5))
  obtain ⟨hl6b, hl7b, _, _⟩ := INV_len hIb
  refine g_aload_n C dL_law_157 rfl 158 rfl 2 rfl ?_
  refine g_aload_n C dL_law_158 rfl 159 rfl 3 rfl ?_
  refine g_iload_n C dL_law_159 rfl 160 rfl 0 rfl ?_
  refine g_iconst C (v := nI 1) dL_law_160 rfl 161 rfl ?_
  refine g_iadd C dL_law_161 162 rfl (nI_add (6 * t) 1) ?_
  refine g_sld C hX (show 6 * t + 1 < L by omega) dL_law_162 163 rfl ?_
  refine g_aload_n C dL_law_163 rfl 164 rfl 3 rfl ?_
  refine g_iload_n C dL_law_164 rfl 165 rfl 0 rfl ?_
  refine g_iconst C (v := nI 2) dL_law_165 rfl 166 rfl ?_
  refine g_iadd C dL_law_166 167 rfl (nI_add (6 * t) 2) ?_
  refine g_sld C hX (show 6 * t + 2 < L by omega) dL_law_167 168 rfl ?_
  refine g_aload_n C dL_law_168 rfl 169 rfl 3 rfl ?_
  refine g_iload_n C dL_law_169 rfl 170 rfl 0 rfl ?_
  refine g_iconst C (v := nI 3) dL_law_170 rfl 171 rfl ?_
  refine g_iadd C dL_law_171 172 rfl (nI_add (6 * t) 3) ?_
  refine g_sld C hX (show 6 * t + 3 < L by omega) dL_law_172 173 rfl ?_
  refine g_aload_n C dL_law_173 rfl 174 rfl 3 rfl ?_
  refine g_iload_n C dL_law_174 rfl 175 rfl 0 rfl ?_
  refine g_iconst C (v := nI 4) dL_law_175 rfl 176 rfl ?_
  refine g_iadd C dL_law_176 177 rfl (nI_add (6 * t) 4) ?_
  refine g_sld C hX (show 6 * t + 4 < L by omega) dL_law_177 178 rfl ?_
  refine g_aload_n C dL_law_178 rfl 179 rfl 3 rfl ?_
  refine g_iload_n C dL_law_179 rfl 180 rfl 0 rfl ?_
  refine g_iconst C (v := nI 5) dL_law_180 rfl 181 rfl ?_
  refine g_iadd C dL_law_181 182 rfl (nI_add (6 * t) 5) ?_
  refine g_sld C hX (show 6 * t + 5 < L by omega) dL_law_182 183 rfl ?_
  refine g_c2i C h6 5 gL_law_X6_rule rfl (by decide +kernel) ⟨show f + 1 ≤ 10 by omega, show 8 + (7 + 11) + Lc ≤ 396 by omega⟩ hkn (ci := 6) rfl he6 rfl rfl (Nat.le_of_ble_eq_true rfl) 35 19 hl6 hl7 hl6b nd_35 dL_law_183 186 rfl ?_
  refine g_aload_n C dL_law_186 rfl 187 rfl 1 rfl ?_
  refine g_aload_n C dL_law_187 rfl 188 rfl 3 rfl ?_
  refine g_iload_n C dL_law_188 rfl 189 rfl 0 rfl ?_
  refine g_iconst C (v := nI 1) dL_law_189 rfl 190 rfl ?_
  refine g_iadd C dL_law_190 191 rfl (nI_add (6 * t) 1) ?_
  refine g_sld C hX (show 6 * t + 1 < L by omega) dL_law_191 192 rfl ?_
  refine g_aload_n C dL_law_192 rfl 193 rfl 3 rfl ?_
  refine g_iload_n C dL_law_193 rfl 194 rfl 0 rfl ?_
  refine g_iconst C (v := nI 2) dL_law_194 rfl 195 rfl ?_
  refine g_iadd C dL_law_195 196 rfl (nI_add (6 * t) 2) ?_
  refine g_sld C hX (show 6 * t + 2 < L by omega) dL_law_196 197 rfl ?_
  refine g_aload_n C dL_law_197 rfl 198 rfl 3 rfl ?_
  refine g_iload_n C dL_law_198 rfl 199 rfl 0 rfl ?_
  refine g_iconst C (v := nI 3) dL_law_199 rfl 200 rfl ?_
  refine g_iadd C dL_law_200 201 rfl (nI_add (6 * t) 3) ?_
  refine g_sld C hX (show 6 * t + 3 < L by omega) dL_law_201 202 rfl ?_
  refine g_aload_n C dL_law_202 rfl 203 rfl 3 rfl ?_
  refine g_iload_n C dL_law_203 rfl 204 rfl 0 rfl ?_
  refine g_iconst C (v := nI 4) dL_law_204 rfl 205 rfl ?_
  refine g_iadd C dL_law_205 206 rfl (nI_add (6 * t) 4) ?_
  refine g_sld C hX (show 6 * t + 4 < L by omega) dL_law_206 207 rfl ?_
  refine g_aload_n C dL_law_207 rfl 208 rfl 3 rfl ?_
  refine g_iload_n C dL_law_208 rfl 209 rfl 0 rfl ?_
  refine g_iconst C (v := nI 5) dL_law_209 rfl 210 rfl ?_
  refine g_iadd C dL_law_210 211 rfl (nI_add (6 * t) 5) ?_
  refine g_sld C hX (show 6 * t + 5 < L by omega) dL_law_211 212 rfl ?_
  refine g_c2i C h7 5 gL_law_X7_rule rfl (by decide +kernel) ⟨show f' + 1 ≤ 10 by omega, show 8 + (7 + 11) + L' ≤ 396 by omega⟩ hkn (ci := 7) rfl he7 rfl rfl (Nat.le_of_ble_eq_true rfl) 19 35 hl7 hl6b hl7b nd_19 dL_law_212 215 rfl ?_
  exact g_icmp_eq C (X := True) dL_law_215 679 (by decide) 218 rfl ⟨fun _ => trivial, fun _ => rfl⟩ (fun _ => kk _ _ hIb) (fun h => absurd trivial h)
set_option maxRecDepth 20000 in
theorem law_unrule {E : Ev} {b L o o7 k n t : Nat} {xs : Nat → Int32} {wc wm : va_W} (C : Cx E cL_law wsL_law RL room_1 4) (hX : LX E b L xs) (hi : 6 * t + 6 ≤ L) (hkn : k ≤ room_1.cells ∧ n ≤ room_1.slots) (hI : INV t (eY E) o o7 wc wm) (kk : ∀ wc' wm', INV (t + 1) (eY E) o o7 wc' wm' → Go E k n 679 (lvL b o o7 (6 * t)) [] (wc' ++ wm')) : Go E k n 220 (lvL b o o7 (6 * t)) [] (wc ++ wm) := by
  have ht : t ≤ 900 := by have := hX.2.2.2; omega
  obtain ⟨hl6, hl7, ⟨fs6, he6⟩, ⟨fs7, he7⟩⟩ := INV_len hI
  obtain ⟨wcb, wmb, v, f, Lc, f', L', ⟨hf1, hf2, hf3, hf4⟩, hIb, h6, h7⟩ := s_unrule (l := eL E) (D := eD E) hI ht 
  obtain ⟨hl6b, hl7b, _, _⟩ := INV_len hIb
  refine g_aload_n C dL_law_220 rfl 221 rfl 2 rfl ?_
  refine g_c2i C h6 0 gL_law_X6_unrule rfl (by decide +kernel) ⟨show f + 1 ≤ 10 by omega, show 8 + (1 + 11) + Lc ≤ 396 by omega⟩ hkn (ci := 6) rfl he6 rfl rfl (Nat.le_of_ble_eq_true rfl) 35 19 hl6 hl7 hl6b nd_35 dL_law_221 224 rfl ?_
  refine g_aload_n C dL_law_224 rfl 225 rfl 1 rfl ?_
  refine g_c2i C h7 0 gL_law_X7_unrule rfl (by decide +kernel) ⟨show f' + 1 ≤ 10 by omega, show 8 + (1 + 11) + L' ≤ 396 by omega⟩ hkn (ci := 7) rfl he7 rfl rfl (Nat.le_of_ble_eq_true rfl) 19 35 hl7 hl6b hl7b nd_19 dL_law_225 228 rfl ?_
  exact g_icmp_eq C (X := True) dL_law_228 679 (by decide) 231 rfl ⟨fun _ => trivial, fun _ => rfl⟩ (fun _ => kk _ _ hIb) (fun h => absurd trivial h)
set_option maxRecDepth 20000 in
theorem law_stand {E : Ev} {b L o o7 k n t : Nat} {xs : Nat → Int32} {wc wm : va_W} (C : Cx E cL_law wsL_law RL room_1 4) (hX : LX E b L xs) (hi : 6 * t + 6 ≤ L) (hkn : k ≤ room_1.cells ∧ n ≤ room_1.slots) (hI : INV t (eY E) o o7 wc wm) (kk : ∀ wc' wm', INV (t + 1) (eY E) o o7 wc' wm' → Go E k n 679 (lvL b o o7 (6 * t)) [] (wc' ++ wm')) : Go E k n 233 (lvL b o o7 (6 * t)) [] (wc ++ wm) := by
  have ht : t ≤ 900 := by have := hX.2.2.2; omega
  obtain ⟨hl6, hl7, ⟨fs6, he6⟩, ⟨fs7, he7⟩⟩ := INV_len hI
  obtain ⟨wcb, wmb, v, f, Lc, f', L', ⟨hf1, hf2, hf3, hf4⟩, hIb, h6, h7⟩ := s_stand (l := eL E) (D := eD E) hI ht (xs (6 * t + 1))
  obtain ⟨hl6b, hl7b, _, _⟩ := INV_len hIb
  refine g_aload_n C dL_law_233 rfl 234 rfl 2 rfl ?_
  refine g_aload_n C dL_law_234 rfl 235 rfl 3 rfl ?_
  refine g_iload_n C dL_law_235 rfl 236 rfl 0 rfl ?_
  refine g_iconst C (v := nI 1) dL_law_236 rfl 237 rfl ?_
  refine g_iadd C dL_law_237 238 rfl (nI_add (6 * t) 1) ?_
  refine g_sld C hX (show 6 * t + 1 < L by omega) dL_law_238 239 rfl ?_
  refine g_c2i C h6 1 gL_law_X6_stand rfl (by decide +kernel) ⟨show f + 1 ≤ 10 by omega, show 8 + (3 + 11) + Lc ≤ 396 by omega⟩ hkn (ci := 6) rfl he6 rfl rfl (Nat.le_of_ble_eq_true rfl) 35 19 hl6 hl7 hl6b nd_35 dL_law_239 242 rfl ?_
  refine g_aload_n C dL_law_242 rfl 243 rfl 1 rfl ?_
  refine g_aload_n C dL_law_243 rfl 244 rfl 3 rfl ?_
  refine g_iload_n C dL_law_244 rfl 245 rfl 0 rfl ?_
  refine g_iconst C (v := nI 1) dL_law_245 rfl 246 rfl ?_
  refine g_iadd C dL_law_246 247 rfl (nI_add (6 * t) 1) ?_
  refine g_sld C hX (show 6 * t + 1 < L by omega) dL_law_247 248 rfl ?_
  refine g_c2i C h7 1 gL_law_X7_stand rfl (by decide +kernel) ⟨show f' + 1 ≤ 10 by omega, show 8 + (3 + 11) + L' ≤ 396 by omega⟩ hkn (ci := 7) rfl he7 rfl rfl (Nat.le_of_ble_eq_true rfl) 19 35 hl7 hl6b hl7b nd_19 dL_law_248 251 rfl ?_
  exact g_icmp_eq C (X := True) dL_law_251 679 (by decide) 254 rfl ⟨fun _ => trivial, fun _ => rfl⟩ (fun _ => kk _ _ hIb) (fun h => absurd trivial h)
set_option maxRecDepth 20000 in
theorem law_push {E : Ev} {b L o o7 k n t : Nat} {xs : Nat → Int32} {wc wm : va_W} (C : Cx E cL_law wsL_law RL room_1 4) (hX : LX E b L xs) (hi : 6 * t + 6 ≤ L) (hkn : k ≤ room_1.cells ∧ n ≤ room_1.slots) (hI : INV t (eY E) o o7 wc wm) (kk : ∀ wc' wm', INV (t + 1) (eY E) o o7 wc' wm' → Go E k n 679 (lvL b o o7 (6 * t)) [] (wc' ++ wm')) : Go E k n 256 (lvL b o o7 (6 * t)) [] (wc ++ wm) := by
  have ht : t ≤ 900 := by have := hX.2.2.2; omega
  obtain ⟨hl6, hl7, ⟨fs6, he6⟩, ⟨fs7, he7⟩⟩ := INV_len hI
  obtain ⟨wcb, wmb, v, f, Lc, f', L', ⟨hf1, hf2, hf3, hf4⟩, hIb, h6, h7⟩ := s_push (l := eL E) (D := eD E) hI ht (xs (6 * t + 1))
  obtain ⟨hl6b, hl7b, _, _⟩ := INV_len hIb
  refine g_aload_n C dL_law_256 rfl 257 rfl 2 rfl ?_
  refine g_aload_n C dL_law_257 rfl 258 rfl 3 rfl ?_
  refine g_iload_n C dL_law_258 rfl 259 rfl 0 rfl ?_
  refine g_iconst C (v := nI 1) dL_law_259 rfl 260 rfl ?_
  refine g_iadd C dL_law_260 261 rfl (nI_add (6 * t) 1) ?_
  refine g_sld C hX (show 6 * t + 1 < L by omega) dL_law_261 262 rfl ?_
  refine g_c2i C h6 1 gL_law_X6_push rfl (by decide +kernel) ⟨show f + 1 ≤ 10 by omega, show 8 + (2 + 11) + Lc ≤ 396 by omega⟩ hkn (ci := 6) rfl he6 rfl rfl (Nat.le_of_ble_eq_true rfl) 35 19 hl6 hl7 hl6b nd_35 dL_law_262 265 rfl ?_
  refine g_aload_n C dL_law_265 rfl 266 rfl 1 rfl ?_
  refine g_aload_n C dL_law_266 rfl 267 rfl 3 rfl ?_
  refine g_iload_n C dL_law_267 rfl 268 rfl 0 rfl ?_
  refine g_iconst C (v := nI 1) dL_law_268 rfl 269 rfl ?_
  refine g_iadd C dL_law_269 270 rfl (nI_add (6 * t) 1) ?_
  refine g_sld C hX (show 6 * t + 1 < L by omega) dL_law_270 271 rfl ?_
  refine g_c2i C h7 1 gL_law_X7_push rfl (by decide +kernel) ⟨show f' + 1 ≤ 10 by omega, show 8 + (2 + 11) + L' ≤ 396 by omega⟩ hkn (ci := 7) rfl he7 rfl rfl (Nat.le_of_ble_eq_true rfl) 19 35 hl7 hl6b hl7b nd_19 dL_law_271 274 rfl ?_
  exact g_icmp_eq C (X := True) dL_law_274 679 (by decide) 277 rfl ⟨fun _ => trivial, fun _ => rfl⟩ (fun _ => kk _ _ hIb) (fun h => absurd trivial h)
set_option maxRecDepth 20000 in
theorem law_at {E : Ev} {b L o o7 k n t : Nat} {xs : Nat → Int32} {wc wm : va_W} (C : Cx E cL_law wsL_law RL room_1 4) (hX : LX E b L xs) (hi : 6 * t + 6 ≤ L) (hkn : k ≤ room_1.cells ∧ n ≤ room_1.slots) (hI : INV t (eY E) o o7 wc wm) (kk : ∀ wc' wm', INV (t + 1) (eY E) o o7 wc' wm' → Go E k n 679 (lvL b o o7 (6 * t)) [] (wc' ++ wm')) : Go E k n 279 (lvL b o o7 (6 * t)) [] (wc ++ wm) := by
  have ht : t ≤ 900 := by have := hX.2.2.2; omega
  obtain ⟨hl6, hl7, ⟨fs6, he6⟩, ⟨fs7, he7⟩⟩ := INV_len hI
  obtain ⟨wcb, wmb, v, f, Lc, f', L', ⟨hf1, hf2, hf3, hf4⟩, hIb, h6, h7⟩ := s_at (l := eL E) (D := eD E) hI ht (xs (6 * t + 1))
  obtain ⟨hl6b, hl7b, _, _⟩ := INV_len hIb
  refine g_aload_n C dL_law_279 rfl 280 rfl 2 rfl ?_
  refine g_aload_n C dL_law_280 rfl 281 rfl 3 rfl ?_
  refine g_iload_n C dL_law_281 rfl 282 rfl 0 rfl ?_
  refine g_iconst C (v := nI 1) dL_law_282 rfl 283 rfl ?_
  refine g_iadd C dL_law_283 284 rfl (nI_add (6 * t) 1) ?_
  refine g_sld C hX (show 6 * t + 1 < L by omega) dL_law_284 285 rfl ?_
  refine g_c2i C h6 1 gL_law_X6_at rfl (by decide +kernel) ⟨show f + 1 ≤ 10 by omega, show 8 + (2 + 11) + Lc ≤ 396 by omega⟩ hkn (ci := 6) rfl he6 rfl rfl (Nat.le_of_ble_eq_true rfl) 35 19 hl6 hl7 hl6b nd_35 dL_law_285 288 rfl ?_
  refine g_aload_n C dL_law_288 rfl 289 rfl 1 rfl ?_
  refine g_aload_n C dL_law_289 rfl 290 rfl 3 rfl ?_
  refine g_iload_n C dL_law_290 rfl 291 rfl 0 rfl ?_
  refine g_iconst C (v := nI 1) dL_law_291 rfl 292 rfl ?_
  refine g_iadd C dL_law_292 293 rfl (nI_add (6 * t) 1) ?_
  refine g_sld C hX (show 6 * t + 1 < L by omega) dL_law_293 294 rfl ?_
  refine g_c2i C h7 1 gL_law_X7_at rfl (by decide +kernel) ⟨show f' + 1 ≤ 10 by omega, show 8 + (2 + 11) + L' ≤ 396 by omega⟩ hkn (ci := 7) rfl he7 rfl rfl (Nat.le_of_ble_eq_true rfl) 19 35 hl7 hl6b hl7b nd_19 dL_law_294 297 rfl ?_
  exact g_icmp_eq C (X := True) dL_law_297 679 (by decide) 300 rfl ⟨fun _ => trivial, fun _ => rfl⟩ (fun _ => kk _ _ hIb) (fun h => absurd trivial h)
set_option maxRecDepth 20000 in
theorem law_go {E : Ev} {b L o o7 k n t : Nat} {xs : Nat → Int32} {wc wm : va_W} (C : Cx E cL_law wsL_law RL room_1 4) (hX : LX E b L xs) (hi : 6 * t + 6 ≤ L) (hkn : k ≤ room_1.cells ∧ n ≤ room_1.slots) (hI : INV t (eY E) o o7 wc wm) (kk : ∀ wc' wm', INV (t + 1) (eY E) o o7 wc' wm' → Go E k n 679 (lvL b o o7 (6 * t)) [] (wc' ++ wm')) : Go E k n 302 (lvL b o o7 (6 * t)) [] (wc ++ wm) := by
  have ht : t ≤ 900 := by have := hX.2.2.2; omega
  obtain ⟨hl6, hl7, ⟨fs6, he6⟩, ⟨fs7, he7⟩⟩ := INV_len hI
  obtain ⟨wcb, wmb, v, f, Lc, f', L', ⟨hf1, hf2, hf3, hf4⟩, hIb, h6, h7⟩ := s_go (l := eL E) (D := eD E) hI ht (xs (6 * t + 1))
  obtain ⟨hl6b, hl7b, _, _⟩ := INV_len hIb
  refine g_aload_n C dL_law_302 rfl 303 rfl 2 rfl ?_
  refine g_aload_n C dL_law_303 rfl 304 rfl 3 rfl ?_
  refine g_iload_n C dL_law_304 rfl 305 rfl 0 rfl ?_
  refine g_iconst C (v := nI 1) dL_law_305 rfl 306 rfl ?_
  refine g_iadd C dL_law_306 307 rfl (nI_add (6 * t) 1) ?_
  refine g_sld C hX (show 6 * t + 1 < L by omega) dL_law_307 308 rfl ?_
  refine g_c2i C h6 1 gL_law_X6_go rfl (by decide +kernel) ⟨show f + 1 ≤ 10 by omega, show 8 + (2 + 11) + Lc ≤ 396 by omega⟩ hkn (ci := 6) rfl he6 rfl rfl (Nat.le_of_ble_eq_true rfl) 35 19 hl6 hl7 hl6b nd_35 dL_law_308 311 rfl ?_
  refine g_aload_n C dL_law_311 rfl 312 rfl 1 rfl ?_
  refine g_aload_n C dL_law_312 rfl 313 rfl 3 rfl ?_
  refine g_iload_n C dL_law_313 rfl 314 rfl 0 rfl ?_
  refine g_iconst C (v := nI 1) dL_law_314 rfl 315 rfl ?_
  refine g_iadd C dL_law_315 316 rfl (nI_add (6 * t) 1) ?_
  refine g_sld C hX (show 6 * t + 1 < L by omega) dL_law_316 317 rfl ?_
  refine g_c2i C h7 1 gL_law_X7_go rfl (by decide +kernel) ⟨show f' + 1 ≤ 10 by omega, show 8 + (2 + 11) + L' ≤ 396 by omega⟩ hkn (ci := 7) rfl he7 rfl rfl (Nat.le_of_ble_eq_true rfl) 19 35 hl7 hl6b hl7b nd_19 dL_law_317 320 rfl ?_
  exact g_icmp_eq C (X := True) dL_law_320 679 (by decide) 323 rfl ⟨fun _ => trivial, fun _ => rfl⟩ (fun _ => kk _ _ hIb) (fun h => absurd trivial h)
set_option maxRecDepth 20000 in
theorem law_set {E : Ev} {b L o o7 k n t : Nat} {xs : Nat → Int32} {wc wm : va_W} (C : Cx E cL_law wsL_law RL room_1 4) (hX : LX E b L xs) (hi : 6 * t + 6 ≤ L) (hkn : k ≤ room_1.cells ∧ n ≤ room_1.slots) (hI : INV t (eY E) o o7 wc wm) (kk : ∀ wc' wm', INV (t + 1) (eY E) o o7 wc' wm' → Go E k n 679 (lvL b o o7 (6 * t)) [] (wc' ++ wm')) : Go E k n 325 (lvL b o o7 (6 * t)) [] (wc ++ wm) := by
  have ht : t ≤ 900 := by have := hX.2.2.2; omega
  obtain ⟨hl6, hl7, ⟨fs6, he6⟩, ⟨fs7, he7⟩⟩ := INV_len hI
  obtain ⟨wcb, wmb, v, f, Lc, f', L', ⟨hf1, hf2, hf3, hf4⟩, hIb, h6, h7⟩ := s_set (l := eL E) (D := eD E) hI ht 
  obtain ⟨hl6b, hl7b, _, _⟩ := INV_len hIb
  refine g_aload_n C dL_law_325 rfl 326 rfl 2 rfl ?_
  refine g_c2i C h6 0 gL_law_X6_set rfl (by decide +kernel) ⟨show f + 1 ≤ 10 by omega, show 8 + (1 + 11) + Lc ≤ 396 by omega⟩ hkn (ci := 6) rfl he6 rfl rfl (Nat.le_of_ble_eq_true rfl) 35 19 hl6 hl7 hl6b nd_35 dL_law_326 329 rfl ?_
  refine g_aload_n C dL_law_329 rfl 330 rfl 1 rfl ?_
  refine g_c2i C h7 0 gL_law_X7_set rfl (by decide +kernel) ⟨show f' + 1 ≤ 10 by omega, show 8 + (2 + 11) + L' ≤ 396 by omega⟩ hkn (ci := 7) rfl he7 rfl rfl (Nat.le_of_ble_eq_true rfl) 19 35 hl7 hl6b hl7b nd_19 dL_law_330 333 rfl ?_
  exact g_icmp_eq C (X := True) dL_law_333 679 (by decide) 336 rfl ⟨fun _ => trivial, fun _ => rfl⟩ (fun _ => kk _ _ hIb) (fun h => absurd trivial h)
set_option maxRecDepth 20000 in
theorem law_link {E : Ev} {b L o o7 k n t : Nat} {xs : Nat → Int32} {wc wm : va_W} (C : Cx E cL_law wsL_law RL room_1 4) (hX : LX E b L xs) (hi : 6 * t + 6 ≤ L) (hkn : k ≤ room_1.cells ∧ n ≤ room_1.slots) (hI : INV t (eY E) o o7 wc wm) (kk : ∀ wc' wm', INV (t + 1) (eY E) o o7 wc' wm' → Go E k n 679 (lvL b o o7 (6 * t)) [] (wc' ++ wm')) : Go E k n 338 (lvL b o o7 (6 * t)) [] (wc ++ wm) := by
  have ht : t ≤ 900 := by have := hX.2.2.2; omega
  obtain ⟨hl6, hl7, ⟨fs6, he6⟩, ⟨fs7, he7⟩⟩ := INV_len hI
  obtain ⟨wcb, wmb, v, f, Lc, f', L', ⟨hf1, hf2, hf3, hf4⟩, hIb, h6, h7⟩ := s_link (l := eL E) (D := eD E) hI ht (xs (6 * t + 1)) (xs (6 * t + 2)) (xs (6 * t + 3)) (xs (6 * t + 4)) (xs (6 * t + 5))
  obtain ⟨hl6b, hl7b, _, _⟩ := INV_len hIb
  refine g_aload_n C dL_law_338 rfl 339 rfl 2 rfl ?_
  refine g_aload_n C dL_law_339 rfl 340 rfl 3 rfl ?_
  refine g_iload_n C dL_law_340 rfl 341 rfl 0 rfl ?_
  refine g_iconst C (v := nI 1) dL_law_341 rfl 342 rfl ?_
  refine g_iadd C dL_law_342 343 rfl (nI_add (6 * t) 1) ?_
  refine g_sld C hX (show 6 * t + 1 < L by omega) dL_law_343 344 rfl ?_
  refine g_aload_n C dL_law_344 rfl 345 rfl 3 rfl ?_
  refine g_iload_n C dL_law_345 rfl 346 rfl 0 rfl ?_
  refine g_iconst C (v := nI 2) dL_law_346 rfl 347 rfl ?_
  refine g_iadd C dL_law_347 348 rfl (nI_add (6 * t) 2) ?_
  refine g_sld C hX (show 6 * t + 2 < L by omega) dL_law_348 349 rfl ?_
  refine g_aload_n C dL_law_349 rfl 350 rfl 3 rfl ?_
  refine g_iload_n C dL_law_350 rfl 351 rfl 0 rfl ?_
  refine g_iconst C (v := nI 3) dL_law_351 rfl 352 rfl ?_
  refine g_iadd C dL_law_352 353 rfl (nI_add (6 * t) 3) ?_
  refine g_sld C hX (show 6 * t + 3 < L by omega) dL_law_353 354 rfl ?_
  refine g_aload_n C dL_law_354 rfl 355 rfl 3 rfl ?_
  refine g_iload_n C dL_law_355 rfl 356 rfl 0 rfl ?_
  refine g_iconst C (v := nI 4) dL_law_356 rfl 357 rfl ?_
  refine g_iadd C dL_law_357 358 rfl (nI_add (6 * t) 4) ?_
  refine g_sld C hX (show 6 * t + 4 < L by omega) dL_law_358 359 rfl ?_
  refine g_aload_n C dL_law_359 rfl 360 rfl 3 rfl ?_
  refine g_iload_n C dL_law_360 rfl 361 rfl 0 rfl ?_
  refine g_iconst C (v := nI 5) dL_law_361 rfl 362 rfl ?_
  refine g_iadd C dL_law_362 363 rfl (nI_add (6 * t) 5) ?_
  refine g_sld C hX (show 6 * t + 5 < L by omega) dL_law_363 364 rfl ?_
  refine g_c2i C h6 5 gL_law_X6_link rfl (by decide +kernel) ⟨show f + 1 ≤ 10 by omega, show 8 + (6 + 11) + Lc ≤ 396 by omega⟩ hkn (ci := 6) rfl he6 rfl rfl (Nat.le_of_ble_eq_true rfl) 35 19 hl6 hl7 hl6b nd_35 dL_law_364 367 rfl ?_
  refine g_aload_n C dL_law_367 rfl 368 rfl 1 rfl ?_
  refine g_aload_n C dL_law_368 rfl 369 rfl 3 rfl ?_
  refine g_iload_n C dL_law_369 rfl 370 rfl 0 rfl ?_
  refine g_iconst C (v := nI 1) dL_law_370 rfl 371 rfl ?_
  refine g_iadd C dL_law_371 372 rfl (nI_add (6 * t) 1) ?_
  refine g_sld C hX (show 6 * t + 1 < L by omega) dL_law_372 373 rfl ?_
  refine g_aload_n C dL_law_373 rfl 374 rfl 3 rfl ?_
  refine g_iload_n C dL_law_374 rfl 375 rfl 0 rfl ?_
  refine g_iconst C (v := nI 2) dL_law_375 rfl 376 rfl ?_
  refine g_iadd C dL_law_376 377 rfl (nI_add (6 * t) 2) ?_
  refine g_sld C hX (show 6 * t + 2 < L by omega) dL_law_377 378 rfl ?_
  refine g_aload_n C dL_law_378 rfl 379 rfl 3 rfl ?_
  refine g_iload_n C dL_law_379 rfl 380 rfl 0 rfl ?_
  refine g_iconst C (v := nI 3) dL_law_380 rfl 381 rfl ?_
  refine g_iadd C dL_law_381 382 rfl (nI_add (6 * t) 3) ?_
  refine g_sld C hX (show 6 * t + 3 < L by omega) dL_law_382 383 rfl ?_
  refine g_aload_n C dL_law_383 rfl 384 rfl 3 rfl ?_
  refine g_iload_n C dL_law_384 rfl 385 rfl 0 rfl ?_
  refine g_iconst C (v := nI 4) dL_law_385 rfl 386 rfl ?_
  refine g_iadd C dL_law_386 387 rfl (nI_add (6 * t) 4) ?_
  refine g_sld C hX (show 6 * t + 4 < L by omega) dL_law_387 388 rfl ?_
  refine g_aload_n C dL_law_388 rfl 389 rfl 3 rfl ?_
  refine g_iload_n C dL_law_389 rfl 390 rfl 0 rfl ?_
  refine g_iconst C (v := nI 5) dL_law_390 rfl 391 rfl ?_
  refine g_iadd C dL_law_391 392 rfl (nI_add (6 * t) 5) ?_
  refine g_sld C hX (show 6 * t + 5 < L by omega) dL_law_392 393 rfl ?_
  refine g_c2i C h7 5 gL_law_X7_link rfl (by decide +kernel) ⟨show f' + 1 ≤ 10 by omega, show 8 + (7 + 11) + L' ≤ 396 by omega⟩ hkn (ci := 7) rfl he7 rfl rfl (Nat.le_of_ble_eq_true rfl) 19 35 hl7 hl6b hl7b nd_19 dL_law_393 396 rfl ?_
  exact g_icmp_eq C (X := True) dL_law_396 679 (by decide) 399 rfl ⟨fun _ => trivial, fun _ => rfl⟩ (fun _ => kk _ _ hIb) (fun h => absurd trivial h)
set_option maxRecDepth 20000 in
theorem law_last {E : Ev} {b L o o7 k n t : Nat} {xs : Nat → Int32} {wc wm : va_W} (C : Cx E cL_law wsL_law RL room_1 4) (hX : LX E b L xs) (hi : 6 * t + 6 ≤ L) (hkn : k ≤ room_1.cells ∧ n ≤ room_1.slots) (hI : INV t (eY E) o o7 wc wm) (kk : ∀ wc' wm', INV (t + 1) (eY E) o o7 wc' wm' → Go E k n 679 (lvL b o o7 (6 * t)) [] (wc' ++ wm')) : Go E k n 401 (lvL b o o7 (6 * t)) [] (wc ++ wm) := by
  have ht : t ≤ 900 := by have := hX.2.2.2; omega
  obtain ⟨hl6, hl7, ⟨fs6, he6⟩, ⟨fs7, he7⟩⟩ := INV_len hI
  by_cases hz : xs (6 * t + 4) = 0
  · obtain ⟨wcb, wmb, v, f, Lc, f', L', ⟨hf1, hf2, hf3, hf4⟩, hIb, h6, h7⟩ := s_last (l := eL E) (D := eD E) hI ht (xs (6 * t + 1)) (xs (6 * t + 2)) (xs (6 * t + 3)) false
    obtain ⟨hl6b, hl7b, _, _⟩ := INV_len hIb
    refine g_aload_n C dL_law_401 rfl 402 rfl 2 rfl ?_
    refine g_aload_n C dL_law_402 rfl 403 rfl 3 rfl ?_
    refine g_iload_n C dL_law_403 rfl 404 rfl 0 rfl ?_
    refine g_iconst C (v := nI 1) dL_law_404 rfl 405 rfl ?_
    refine g_iadd C dL_law_405 406 rfl (nI_add (6 * t) 1) ?_
    refine g_sld C hX (show 6 * t + 1 < L by omega) dL_law_406 407 rfl ?_
    refine g_aload_n C dL_law_407 rfl 408 rfl 3 rfl ?_
    refine g_iload_n C dL_law_408 rfl 409 rfl 0 rfl ?_
    refine g_iconst C (v := nI 2) dL_law_409 rfl 410 rfl ?_
    refine g_iadd C dL_law_410 411 rfl (nI_add (6 * t) 2) ?_
    refine g_sld C hX (show 6 * t + 2 < L by omega) dL_law_411 412 rfl ?_
    refine g_aload_n C dL_law_412 rfl 413 rfl 3 rfl ?_
    refine g_iload_n C dL_law_413 rfl 414 rfl 0 rfl ?_
    refine g_iconst C (v := nI 3) dL_law_414 rfl 415 rfl ?_
    refine g_iadd C dL_law_415 416 rfl (nI_add (6 * t) 3) ?_
    refine g_sld C hX (show 6 * t + 3 < L by omega) dL_law_416 417 rfl ?_
    refine g_aload_n C dL_law_417 rfl 418 rfl 3 rfl ?_
    refine g_iload_n C dL_law_418 rfl 419 rfl 0 rfl ?_
    refine g_iconst C (v := nI 4) dL_law_419 rfl 420 rfl ?_
    refine g_iadd C dL_law_420 421 rfl (nI_add (6 * t) 4) ?_
    refine g_sld C hX (show 6 * t + 4 < L by omega) dL_law_421 422 rfl ?_
    refine g_if_eq C (X := True) dL_law_422 429 (by decide) 425 rfl ⟨fun _ => trivial, fun _ => hz⟩ (fun _ => ?_) (fun h => absurd trivial h)
    refine g_iconst C (v := bI false) dL_law_429 rfl 430 rfl ?_
    refine g_c2i C h6 4 gL_law_X6_last rfl (by decide +kernel) ⟨show f + 1 ≤ 10 by omega, show 8 + (5 + 11) + Lc ≤ 396 by omega⟩ hkn (ci := 6) rfl he6 rfl rfl (Nat.le_of_ble_eq_true rfl) 35 19 hl6 hl7 hl6b nd_35 dL_law_430 433 rfl ?_
    refine g_aload_n C dL_law_433 rfl 434 rfl 1 rfl ?_
    refine g_aload_n C dL_law_434 rfl 435 rfl 3 rfl ?_
    refine g_iload_n C dL_law_435 rfl 436 rfl 0 rfl ?_
    refine g_iconst C (v := nI 1) dL_law_436 rfl 437 rfl ?_
    refine g_iadd C dL_law_437 438 rfl (nI_add (6 * t) 1) ?_
    refine g_sld C hX (show 6 * t + 1 < L by omega) dL_law_438 439 rfl ?_
    refine g_aload_n C dL_law_439 rfl 440 rfl 3 rfl ?_
    refine g_iload_n C dL_law_440 rfl 441 rfl 0 rfl ?_
    refine g_iconst C (v := nI 2) dL_law_441 rfl 442 rfl ?_
    refine g_iadd C dL_law_442 443 rfl (nI_add (6 * t) 2) ?_
    refine g_sld C hX (show 6 * t + 2 < L by omega) dL_law_443 444 rfl ?_
    refine g_aload_n C dL_law_444 rfl 445 rfl 3 rfl ?_
    refine g_iload_n C dL_law_445 rfl 446 rfl 0 rfl ?_
    refine g_iconst C (v := nI 3) dL_law_446 rfl 447 rfl ?_
    refine g_iadd C dL_law_447 448 rfl (nI_add (6 * t) 3) ?_
    refine g_sld C hX (show 6 * t + 3 < L by omega) dL_law_448 449 rfl ?_
    refine g_aload_n C dL_law_449 rfl 450 rfl 3 rfl ?_
    refine g_iload_n C dL_law_450 rfl 451 rfl 0 rfl ?_
    refine g_iconst C (v := nI 4) dL_law_451 rfl 452 rfl ?_
    refine g_iadd C dL_law_452 453 rfl (nI_add (6 * t) 4) ?_
    refine g_sld C hX (show 6 * t + 4 < L by omega) dL_law_453 454 rfl ?_
    refine g_if_eq C (X := True) dL_law_454 461 (by decide) 457 rfl ⟨fun _ => trivial, fun _ => hz⟩ (fun _ => ?_) (fun h => absurd trivial h)
    refine g_iconst C (v := bI false) dL_law_461 rfl 462 rfl ?_
    refine g_c2i C h7 4 gL_law_X7_last rfl (by decide +kernel) ⟨show f' + 1 ≤ 10 by omega, show 8 + (7 + 11) + L' ≤ 396 by omega⟩ hkn (ci := 7) rfl he7 rfl rfl (Nat.le_of_ble_eq_true rfl) 19 35 hl7 hl6b hl7b nd_19 dL_law_462 465 rfl ?_
    exact g_icmp_eq C (X := True) dL_law_465 679 (by decide) 468 rfl ⟨fun _ => trivial, fun _ => rfl⟩ (fun _ => kk _ _ hIb) (fun h => absurd trivial h)
  · obtain ⟨wcb, wmb, v, f, Lc, f', L', ⟨hf1, hf2, hf3, hf4⟩, hIb, h6, h7⟩ := s_last (l := eL E) (D := eD E) hI ht (xs (6 * t + 1)) (xs (6 * t + 2)) (xs (6 * t + 3)) true
    obtain ⟨hl6b, hl7b, _, _⟩ := INV_len hIb
    refine g_aload_n C dL_law_401 rfl 402 rfl 2 rfl ?_
    refine g_aload_n C dL_law_402 rfl 403 rfl 3 rfl ?_
    refine g_iload_n C dL_law_403 rfl 404 rfl 0 rfl ?_
    refine g_iconst C (v := nI 1) dL_law_404 rfl 405 rfl ?_
    refine g_iadd C dL_law_405 406 rfl (nI_add (6 * t) 1) ?_
    refine g_sld C hX (show 6 * t + 1 < L by omega) dL_law_406 407 rfl ?_
    refine g_aload_n C dL_law_407 rfl 408 rfl 3 rfl ?_
    refine g_iload_n C dL_law_408 rfl 409 rfl 0 rfl ?_
    refine g_iconst C (v := nI 2) dL_law_409 rfl 410 rfl ?_
    refine g_iadd C dL_law_410 411 rfl (nI_add (6 * t) 2) ?_
    refine g_sld C hX (show 6 * t + 2 < L by omega) dL_law_411 412 rfl ?_
    refine g_aload_n C dL_law_412 rfl 413 rfl 3 rfl ?_
    refine g_iload_n C dL_law_413 rfl 414 rfl 0 rfl ?_
    refine g_iconst C (v := nI 3) dL_law_414 rfl 415 rfl ?_
    refine g_iadd C dL_law_415 416 rfl (nI_add (6 * t) 3) ?_
    refine g_sld C hX (show 6 * t + 3 < L by omega) dL_law_416 417 rfl ?_
    refine g_aload_n C dL_law_417 rfl 418 rfl 3 rfl ?_
    refine g_iload_n C dL_law_418 rfl 419 rfl 0 rfl ?_
    refine g_iconst C (v := nI 4) dL_law_419 rfl 420 rfl ?_
    refine g_iadd C dL_law_420 421 rfl (nI_add (6 * t) 4) ?_
    refine g_sld C hX (show 6 * t + 4 < L by omega) dL_law_421 422 rfl ?_
    refine g_if_eq C (X := False) dL_law_422 429 (by decide) 425 rfl ⟨hz, fun h => h.elim⟩ (fun h => h.elim) (fun _ => ?_)
    refine g_iconst C (v := bI true) dL_law_425 rfl 426 rfl ?_
    refine g_goto C dL_law_426 430 (by decide) ?_
    refine g_c2i C h6 4 gL_law_X6_last rfl (by decide +kernel) ⟨show f + 1 ≤ 10 by omega, show 8 + (5 + 11) + Lc ≤ 396 by omega⟩ hkn (ci := 6) rfl he6 rfl rfl (Nat.le_of_ble_eq_true rfl) 35 19 hl6 hl7 hl6b nd_35 dL_law_430 433 rfl ?_
    refine g_aload_n C dL_law_433 rfl 434 rfl 1 rfl ?_
    refine g_aload_n C dL_law_434 rfl 435 rfl 3 rfl ?_
    refine g_iload_n C dL_law_435 rfl 436 rfl 0 rfl ?_
    refine g_iconst C (v := nI 1) dL_law_436 rfl 437 rfl ?_
    refine g_iadd C dL_law_437 438 rfl (nI_add (6 * t) 1) ?_
    refine g_sld C hX (show 6 * t + 1 < L by omega) dL_law_438 439 rfl ?_
    refine g_aload_n C dL_law_439 rfl 440 rfl 3 rfl ?_
    refine g_iload_n C dL_law_440 rfl 441 rfl 0 rfl ?_
    refine g_iconst C (v := nI 2) dL_law_441 rfl 442 rfl ?_
    refine g_iadd C dL_law_442 443 rfl (nI_add (6 * t) 2) ?_
    refine g_sld C hX (show 6 * t + 2 < L by omega) dL_law_443 444 rfl ?_
    refine g_aload_n C dL_law_444 rfl 445 rfl 3 rfl ?_
    refine g_iload_n C dL_law_445 rfl 446 rfl 0 rfl ?_
    refine g_iconst C (v := nI 3) dL_law_446 rfl 447 rfl ?_
    refine g_iadd C dL_law_447 448 rfl (nI_add (6 * t) 3) ?_
    refine g_sld C hX (show 6 * t + 3 < L by omega) dL_law_448 449 rfl ?_
    refine g_aload_n C dL_law_449 rfl 450 rfl 3 rfl ?_
    refine g_iload_n C dL_law_450 rfl 451 rfl 0 rfl ?_
    refine g_iconst C (v := nI 4) dL_law_451 rfl 452 rfl ?_
    refine g_iadd C dL_law_452 453 rfl (nI_add (6 * t) 4) ?_
    refine g_sld C hX (show 6 * t + 4 < L by omega) dL_law_453 454 rfl ?_
    refine g_if_eq C (X := False) dL_law_454 461 (by decide) 457 rfl ⟨hz, fun h => h.elim⟩ (fun h => h.elim) (fun _ => ?_)
    refine g_iconst C (v := bI true) dL_law_457 rfl 458 rfl ?_
    refine g_goto C dL_law_458 462 (by decide) ?_
    refine g_c2i C h7 4 gL_law_X7_last rfl (by decide +kernel) ⟨show f' + 1 ≤ 10 by omega, show 8 + (7 + 11) + L' ≤ 396 by omega⟩ hkn (ci := 7) rfl he7 rfl rfl (Nat.le_of_ble_eq_true rfl) 19 35 hl7 hl6b hl7b nd_19 dL_law_462 465 rfl ?_
    exact g_icmp_eq C (X := True) dL_law_465 679 (by decide) 468 rfl ⟨fun _ => trivial, fun _ => rfl⟩ (fun _ => kk _ _ hIb) (fun h => absurd trivial h)
set_option maxRecDepth 20000 in
theorem law_unset {E : Ev} {b L o o7 k n t : Nat} {xs : Nat → Int32} {wc wm : va_W} (C : Cx E cL_law wsL_law RL room_1 4) (hX : LX E b L xs) (hi : 6 * t + 6 ≤ L) (hkn : k ≤ room_1.cells ∧ n ≤ room_1.slots) (hI : INV t (eY E) o o7 wc wm) (kk : ∀ wc' wm', INV (t + 1) (eY E) o o7 wc' wm' → Go E k n 679 (lvL b o o7 (6 * t)) [] (wc' ++ wm')) : Go E k n 470 (lvL b o o7 (6 * t)) [] (wc ++ wm) := by
  have ht : t ≤ 900 := by have := hX.2.2.2; omega
  obtain ⟨hl6, hl7, ⟨fs6, he6⟩, ⟨fs7, he7⟩⟩ := INV_len hI
  obtain ⟨wcb, wmb, v, f, Lc, f', L', ⟨hf1, hf2, hf3, hf4⟩, hIb, h6, h7⟩ := s_unset (l := eL E) (D := eD E) hI ht 
  obtain ⟨hl6b, hl7b, _, _⟩ := INV_len hIb
  refine g_aload_n C dL_law_470 rfl 471 rfl 2 rfl ?_
  refine g_c2i C h6 0 gL_law_X6_unset rfl (by decide +kernel) ⟨show f + 1 ≤ 10 by omega, show 8 + (1 + 11) + Lc ≤ 396 by omega⟩ hkn (ci := 6) rfl he6 rfl rfl (Nat.le_of_ble_eq_true rfl) 35 19 hl6 hl7 hl6b nd_35 dL_law_471 474 rfl ?_
  refine g_aload_n C dL_law_474 rfl 475 rfl 1 rfl ?_
  refine g_c2i C h7 0 gL_law_X7_unset rfl (by decide +kernel) ⟨show f' + 1 ≤ 10 by omega, show 8 + (1 + 11) + L' ≤ 396 by omega⟩ hkn (ci := 7) rfl he7 rfl rfl (Nat.le_of_ble_eq_true rfl) 19 35 hl7 hl6b hl7b nd_19 dL_law_475 478 rfl ?_
  exact g_icmp_eq C (X := True) dL_law_478 679 (by decide) 481 rfl ⟨fun _ => trivial, fun _ => rfl⟩ (fun _ => kk _ _ hIb) (fun h => absurd trivial h)
set_option maxRecDepth 20000 in
theorem law_in {E : Ev} {b L o o7 k n t : Nat} {xs : Nat → Int32} {wc wm : va_W} (C : Cx E cL_law wsL_law RL room_1 4) (hX : LX E b L xs) (hi : 6 * t + 6 ≤ L) (hkn : k ≤ room_1.cells ∧ n ≤ room_1.slots) (hI : INV t (eY E) o o7 wc wm) (kk : ∀ wc' wm', INV (t + 1) (eY E) o o7 wc' wm' → Go E k n 679 (lvL b o o7 (6 * t)) [] (wc' ++ wm')) : Go E k n 483 (lvL b o o7 (6 * t)) [] (wc ++ wm) := by
  have ht : t ≤ 900 := by have := hX.2.2.2; omega
  obtain ⟨hl6, hl7, ⟨fs6, he6⟩, ⟨fs7, he7⟩⟩ := INV_len hI
  obtain ⟨wcb, wmb, v, f, Lc, f', L', ⟨hf1, hf2, hf3, hf4⟩, hIb, h6, h7⟩ := s_in (l := eL E) (D := eD E) hI ht (xs (6 * t + 1))
  obtain ⟨hl6b, hl7b, _, _⟩ := INV_len hIb
  refine g_aload_n C dL_law_483 rfl 484 rfl 2 rfl ?_
  refine g_aload_n C dL_law_484 rfl 485 rfl 3 rfl ?_
  refine g_iload_n C dL_law_485 rfl 486 rfl 0 rfl ?_
  refine g_iconst C (v := nI 1) dL_law_486 rfl 487 rfl ?_
  refine g_iadd C dL_law_487 488 rfl (nI_add (6 * t) 1) ?_
  refine g_sld C hX (show 6 * t + 1 < L by omega) dL_law_488 489 rfl ?_
  refine g_c2i C h6 1 gL_law_X6_in rfl (by decide +kernel) ⟨show f + 1 ≤ 10 by omega, show 8 + (2 + 11) + Lc ≤ 396 by omega⟩ hkn (ci := 6) rfl he6 rfl rfl (Nat.le_of_ble_eq_true rfl) 35 19 hl6 hl7 hl6b nd_35 dL_law_489 492 rfl ?_
  refine g_aload_n C dL_law_492 rfl 493 rfl 1 rfl ?_
  refine g_aload_n C dL_law_493 rfl 494 rfl 3 rfl ?_
  refine g_iload_n C dL_law_494 rfl 495 rfl 0 rfl ?_
  refine g_iconst C (v := nI 1) dL_law_495 rfl 496 rfl ?_
  refine g_iadd C dL_law_496 497 rfl (nI_add (6 * t) 1) ?_
  refine g_sld C hX (show 6 * t + 1 < L by omega) dL_law_497 498 rfl ?_
  refine g_c2i C h7 1 gL_law_X7_in rfl (by decide +kernel) ⟨show f' + 1 ≤ 10 by omega, show 8 + (2 + 11) + L' ≤ 396 by omega⟩ hkn (ci := 7) rfl he7 rfl rfl (Nat.le_of_ble_eq_true rfl) 19 35 hl7 hl6b hl7b nd_19 dL_law_498 501 rfl ?_
  exact g_icmp_eq C (X := True) dL_law_501 679 (by decide) 504 rfl ⟨fun _ => trivial, fun _ => rfl⟩ (fun _ => kk _ _ hIb) (fun h => absurd trivial h)
set_option maxRecDepth 20000 in
theorem law_far {E : Ev} {b L o o7 k n t : Nat} {xs : Nat → Int32} {wc wm : va_W} (C : Cx E cL_law wsL_law RL room_1 4) (hX : LX E b L xs) (hi : 6 * t + 6 ≤ L) (hkn : k ≤ room_1.cells ∧ n ≤ room_1.slots) (hI : INV t (eY E) o o7 wc wm) (kk : ∀ wc' wm', INV (t + 1) (eY E) o o7 wc' wm' → Go E k n 679 (lvL b o o7 (6 * t)) [] (wc' ++ wm')) : Go E k n 506 (lvL b o o7 (6 * t)) [] (wc ++ wm) := by
  have ht : t ≤ 900 := by have := hX.2.2.2; omega
  obtain ⟨hl6, hl7, ⟨fs6, he6⟩, ⟨fs7, he7⟩⟩ := INV_len hI
  obtain ⟨wcb, wmb, v, f, Lc, f', L', ⟨hf1, hf2, hf3, hf4⟩, hIb, h6, h7⟩ := s_far (l := eL E) (D := eD E) hI ht (xs (6 * t + 1))
  obtain ⟨hl6b, hl7b, _, _⟩ := INV_len hIb
  refine g_aload_n C dL_law_506 rfl 507 rfl 2 rfl ?_
  refine g_aload_n C dL_law_507 rfl 508 rfl 3 rfl ?_
  refine g_iload_n C dL_law_508 rfl 509 rfl 0 rfl ?_
  refine g_iconst C (v := nI 1) dL_law_509 rfl 510 rfl ?_
  refine g_iadd C dL_law_510 511 rfl (nI_add (6 * t) 1) ?_
  refine g_sld C hX (show 6 * t + 1 < L by omega) dL_law_511 512 rfl ?_
  refine g_c2l C h6 1 gL_law_X6_far rfl (by decide +kernel) ⟨show f + 1 ≤ 10 by omega, show 8 + (2 + 11) + Lc ≤ 396 by omega⟩ hkn (ci := 6) rfl he6 rfl rfl (Nat.le_of_ble_eq_true rfl) 35 19 hl6 hl7 hl6b nd_35 dL_law_512 515 rfl ?_
  refine g_aload_n C dL_law_515 rfl 516 rfl 1 rfl ?_
  refine g_aload_n C dL_law_516 rfl 517 rfl 3 rfl ?_
  refine g_iload_n C dL_law_517 rfl 518 rfl 0 rfl ?_
  refine g_iconst C (v := nI 1) dL_law_518 rfl 519 rfl ?_
  refine g_iadd C dL_law_519 520 rfl (nI_add (6 * t) 1) ?_
  refine g_sld C hX (show 6 * t + 1 < L by omega) dL_law_520 521 rfl ?_
  refine g_c2l C h7 1 gL_law_X7_far rfl (by decide +kernel) ⟨show f' + 1 ≤ 10 by omega, show 8 + (2 + 11) + L' ≤ 396 by omega⟩ hkn (ci := 7) rfl he7 rfl rfl (Nat.le_of_ble_eq_true rfl) 19 35 hl7 hl6b hl7b nd_19 dL_law_521 524 rfl ?_
  exact g_lcmp_eq C (X := True) dL_law_524 rfl dL_law_525 679 (by decide) 528 rfl ⟨fun _ => trivial, fun _ => rfl⟩ (fun _ => kk _ _ hIb) (fun h => absurd trivial h)
set_option maxRecDepth 20000 in
theorem law_step {E : Ev} {b L o o7 k n t : Nat} {xs : Nat → Int32} {wc wm : va_W} (C : Cx E cL_law wsL_law RL room_1 4) (hX : LX E b L xs) (hi : 6 * t + 6 ≤ L) (hkn : k ≤ room_1.cells ∧ n ≤ room_1.slots) (hI : INV t (eY E) o o7 wc wm) (kk : ∀ wc' wm', INV (t + 1) (eY E) o o7 wc' wm' → Go E k n 679 (lvL b o o7 (6 * t)) [] (wc' ++ wm')) : Go E k n 530 (lvL b o o7 (6 * t)) [] (wc ++ wm) := by
  have ht : t ≤ 900 := by have := hX.2.2.2; omega
  obtain ⟨hl6, hl7, ⟨fs6, he6⟩, ⟨fs7, he7⟩⟩ := INV_len hI
  obtain ⟨wcb, wmb, v, f, Lc, f', L', ⟨hf1, hf2, hf3, hf4⟩, hIb, h6, h7⟩ := s_step (l := eL E) (D := eD E) hI ht (xs (6 * t + 1))
  obtain ⟨hl6b, hl7b, _, _⟩ := INV_len hIb
  refine g_aload_n C dL_law_530 rfl 531 rfl 2 rfl ?_
  refine g_aload_n C dL_law_531 rfl 532 rfl 3 rfl ?_
  refine g_iload_n C dL_law_532 rfl 533 rfl 0 rfl ?_
  refine g_iconst C (v := nI 1) dL_law_533 rfl 534 rfl ?_
  refine g_iadd C dL_law_534 535 rfl (nI_add (6 * t) 1) ?_
  refine g_sld C hX (show 6 * t + 1 < L by omega) dL_law_535 536 rfl ?_
  refine g_c2i C h6 1 gL_law_X6_step rfl (by decide +kernel) ⟨show f + 1 ≤ 10 by omega, show 8 + (5 + 11) + Lc ≤ 396 by omega⟩ hkn (ci := 6) rfl he6 rfl rfl (Nat.le_of_ble_eq_true rfl) 35 19 hl6 hl7 hl6b nd_35 dL_law_536 539 rfl ?_
  refine g_aload_n C dL_law_539 rfl 540 rfl 1 rfl ?_
  refine g_aload_n C dL_law_540 rfl 541 rfl 3 rfl ?_
  refine g_iload_n C dL_law_541 rfl 542 rfl 0 rfl ?_
  refine g_iconst C (v := nI 1) dL_law_542 rfl 543 rfl ?_
  refine g_iadd C dL_law_543 544 rfl (nI_add (6 * t) 1) ?_
  refine g_sld C hX (show 6 * t + 1 < L by omega) dL_law_544 545 rfl ?_
  refine g_c2i C h7 1 gL_law_X7_step rfl (by decide +kernel) ⟨show f' + 1 ≤ 10 by omega, show 8 + (5 + 11) + L' ≤ 396 by omega⟩ hkn (ci := 7) rfl he7 rfl rfl (Nat.le_of_ble_eq_true rfl) 19 35 hl7 hl6b hl7b nd_19 dL_law_545 548 rfl ?_
  exact g_icmp_eq C (X := True) dL_law_548 679 (by decide) 551 rfl ⟨fun _ => trivial, fun _ => rfl⟩ (fun _ => kk _ _ hIb) (fun h => absurd trivial h)
set_option maxRecDepth 20000 in
theorem law_run {E : Ev} {b L o o7 k n t : Nat} {xs : Nat → Int32} {wc wm : va_W} (C : Cx E cL_law wsL_law RL room_1 4) (hX : LX E b L xs) (hi : 6 * t + 6 ≤ L) (hkn : k ≤ room_1.cells ∧ n ≤ room_1.slots) (hI : INV t (eY E) o o7 wc wm) (kk : ∀ wc' wm', INV (t + 1) (eY E) o o7 wc' wm' → Go E k n 679 (lvL b o o7 (6 * t)) [] (wc' ++ wm')) : Go E k n 553 (lvL b o o7 (6 * t)) [] (wc ++ wm) := by
  have ht : t ≤ 900 := by have := hX.2.2.2; omega
  obtain ⟨hl6, hl7, ⟨fs6, he6⟩, ⟨fs7, he7⟩⟩ := INV_len hI
  obtain ⟨wcb, wmb, v, f, Lc, f', L', ⟨hf1, hf2, hf3, hf4⟩, hIb, h6, h7⟩ := s_run (l := eL E) (D := eD E) hI ht (xs (6 * t + 1)) (xs (6 * t + 2))
  obtain ⟨hl6b, hl7b, _, _⟩ := INV_len hIb
  refine g_aload_n C dL_law_553 rfl 554 rfl 2 rfl ?_
  refine g_aload_n C dL_law_554 rfl 555 rfl 3 rfl ?_
  refine g_iload_n C dL_law_555 rfl 556 rfl 0 rfl ?_
  refine g_iconst C (v := nI 1) dL_law_556 rfl 557 rfl ?_
  refine g_iadd C dL_law_557 558 rfl (nI_add (6 * t) 1) ?_
  refine g_sld C hX (show 6 * t + 1 < L by omega) dL_law_558 559 rfl ?_
  refine g_aload_n C dL_law_559 rfl 560 rfl 3 rfl ?_
  refine g_iload_n C dL_law_560 rfl 561 rfl 0 rfl ?_
  refine g_iconst C (v := nI 2) dL_law_561 rfl 562 rfl ?_
  refine g_iadd C dL_law_562 563 rfl (nI_add (6 * t) 2) ?_
  refine g_sld C hX (show 6 * t + 2 < L by omega) dL_law_563 564 rfl ?_
  refine g_c2i C h6 2 gL_law_X6_run rfl (by decide +kernel) ⟨show f + 1 ≤ 10 by omega, show 8 + (8 + 11) + Lc ≤ 396 by omega⟩ hkn (ci := 6) rfl he6 rfl rfl (Nat.le_of_ble_eq_true rfl) 35 19 hl6 hl7 hl6b nd_35 dL_law_564 567 rfl ?_
  refine g_aload_n C dL_law_567 rfl 568 rfl 1 rfl ?_
  refine g_aload_n C dL_law_568 rfl 569 rfl 3 rfl ?_
  refine g_iload_n C dL_law_569 rfl 570 rfl 0 rfl ?_
  refine g_iconst C (v := nI 1) dL_law_570 rfl 571 rfl ?_
  refine g_iadd C dL_law_571 572 rfl (nI_add (6 * t) 1) ?_
  refine g_sld C hX (show 6 * t + 1 < L by omega) dL_law_572 573 rfl ?_
  refine g_aload_n C dL_law_573 rfl 574 rfl 3 rfl ?_
  refine g_iload_n C dL_law_574 rfl 575 rfl 0 rfl ?_
  refine g_iconst C (v := nI 2) dL_law_575 rfl 576 rfl ?_
  refine g_iadd C dL_law_576 577 rfl (nI_add (6 * t) 2) ?_
  refine g_sld C hX (show 6 * t + 2 < L by omega) dL_law_577 578 rfl ?_
  refine g_c2i C h7 2 gL_law_X7_run rfl (by decide +kernel) ⟨show f' + 1 ≤ 10 by omega, show 8 + (7 + 11) + L' ≤ 396 by omega⟩ hkn (ci := 7) rfl he7 rfl rfl (Nat.le_of_ble_eq_true rfl) 19 35 hl7 hl6b hl7b nd_19 dL_law_578 581 rfl ?_
  exact g_icmp_eq C (X := True) dL_law_581 679 (by decide) 584 rfl ⟨fun _ => trivial, fun _ => rfl⟩ (fun _ => kk _ _ hIb) (fun h => absurd trivial h)
set_option maxRecDepth 20000 in
theorem law_pop {E : Ev} {b L o o7 k n t : Nat} {xs : Nat → Int32} {wc wm : va_W} (C : Cx E cL_law wsL_law RL room_1 4) (hX : LX E b L xs) (hi : 6 * t + 6 ≤ L) (hkn : k ≤ room_1.cells ∧ n ≤ room_1.slots) (hI : INV t (eY E) o o7 wc wm) (kk : ∀ wc' wm', INV (t + 1) (eY E) o o7 wc' wm' → Go E k n 679 (lvL b o o7 (6 * t)) [] (wc' ++ wm')) : Go E k n 586 (lvL b o o7 (6 * t)) [] (wc ++ wm) := by
  have ht : t ≤ 900 := by have := hX.2.2.2; omega
  obtain ⟨hl6, hl7, ⟨fs6, he6⟩, ⟨fs7, he7⟩⟩ := INV_len hI
  obtain ⟨wcb, wmb, v, f, Lc, f', L', ⟨hf1, hf2, hf3, hf4⟩, hIb, h6, h7⟩ := s_pop (l := eL E) (D := eD E) hI ht (xs (6 * t + 1)) (xs (6 * t + 2)) (xs (6 * t + 3))
  obtain ⟨hl6b, hl7b, _, _⟩ := INV_len hIb
  refine g_aload_n C dL_law_586 rfl 587 rfl 2 rfl ?_
  refine g_aload_n C dL_law_587 rfl 588 rfl 3 rfl ?_
  refine g_iload_n C dL_law_588 rfl 589 rfl 0 rfl ?_
  refine g_iconst C (v := nI 1) dL_law_589 rfl 590 rfl ?_
  refine g_iadd C dL_law_590 591 rfl (nI_add (6 * t) 1) ?_
  refine g_sld C hX (show 6 * t + 1 < L by omega) dL_law_591 592 rfl ?_
  refine g_aload_n C dL_law_592 rfl 593 rfl 3 rfl ?_
  refine g_iload_n C dL_law_593 rfl 594 rfl 0 rfl ?_
  refine g_iconst C (v := nI 2) dL_law_594 rfl 595 rfl ?_
  refine g_iadd C dL_law_595 596 rfl (nI_add (6 * t) 2) ?_
  refine g_sld C hX (show 6 * t + 2 < L by omega) dL_law_596 597 rfl ?_
  refine g_aload_n C dL_law_597 rfl 598 rfl 3 rfl ?_
  refine g_iload_n C dL_law_598 rfl 599 rfl 0 rfl ?_
  refine g_iconst C (v := nI 3) dL_law_599 rfl 600 rfl ?_
  refine g_iadd C dL_law_600 601 rfl (nI_add (6 * t) 3) ?_
  refine g_sld C hX (show 6 * t + 3 < L by omega) dL_law_601 602 rfl ?_
  refine g_c2l C h6 3 gL_law_X6_pop rfl (by decide +kernel) ⟨show f + 1 ≤ 10 by omega, show 8 + (4 + 11) + Lc ≤ 396 by omega⟩ hkn (ci := 6) rfl he6 rfl rfl (Nat.le_of_ble_eq_true rfl) 35 19 hl6 hl7 hl6b nd_35 dL_law_602 605 rfl ?_
  refine g_aload_n C dL_law_605 rfl 606 rfl 1 rfl ?_
  refine g_aload_n C dL_law_606 rfl 607 rfl 3 rfl ?_
  refine g_iload_n C dL_law_607 rfl 608 rfl 0 rfl ?_
  refine g_iconst C (v := nI 1) dL_law_608 rfl 609 rfl ?_
  refine g_iadd C dL_law_609 610 rfl (nI_add (6 * t) 1) ?_
  refine g_sld C hX (show 6 * t + 1 < L by omega) dL_law_610 611 rfl ?_
  refine g_aload_n C dL_law_611 rfl 612 rfl 3 rfl ?_
  refine g_iload_n C dL_law_612 rfl 613 rfl 0 rfl ?_
  refine g_iconst C (v := nI 2) dL_law_613 rfl 614 rfl ?_
  refine g_iadd C dL_law_614 615 rfl (nI_add (6 * t) 2) ?_
  refine g_sld C hX (show 6 * t + 2 < L by omega) dL_law_615 616 rfl ?_
  refine g_aload_n C dL_law_616 rfl 617 rfl 3 rfl ?_
  refine g_iload_n C dL_law_617 rfl 618 rfl 0 rfl ?_
  refine g_iconst C (v := nI 3) dL_law_618 rfl 619 rfl ?_
  refine g_iadd C dL_law_619 620 rfl (nI_add (6 * t) 3) ?_
  refine g_sld C hX (show 6 * t + 3 < L by omega) dL_law_620 621 rfl ?_
  refine g_c2l C h7 3 gL_law_X7_pop rfl (by decide +kernel) ⟨show f' + 1 ≤ 10 by omega, show 8 + (4 + 11) + L' ≤ 396 by omega⟩ hkn (ci := 7) rfl he7 rfl rfl (Nat.le_of_ble_eq_true rfl) 19 35 hl7 hl6b hl7b nd_19 dL_law_621 624 rfl ?_
  exact g_lcmp_eq C (X := True) dL_law_624 rfl dL_law_625 679 (by decide) 628 rfl ⟨fun _ => trivial, fun _ => rfl⟩ (fun _ => kk _ _ hIb) (fun h => absurd trivial h)
set_option maxRecDepth 20000 in
theorem law_endless {E : Ev} {b L o o7 k n t : Nat} {xs : Nat → Int32} {wc wm : va_W} (C : Cx E cL_law wsL_law RL room_1 4) (hX : LX E b L xs) (hi : 6 * t + 6 ≤ L) (hkn : k ≤ room_1.cells ∧ n ≤ room_1.slots) (hI : INV t (eY E) o o7 wc wm) (kk : ∀ wc' wm', INV (t + 1) (eY E) o o7 wc' wm' → Go E k n 679 (lvL b o o7 (6 * t)) [] (wc' ++ wm')) : Go E k n 630 (lvL b o o7 (6 * t)) [] (wc ++ wm) := by
  have ht : t ≤ 900 := by have := hX.2.2.2; omega
  obtain ⟨hl6, hl7, ⟨fs6, he6⟩, ⟨fs7, he7⟩⟩ := INV_len hI
  obtain ⟨wcb, wmb, v, f, Lc, f', L', ⟨hf1, hf2, hf3, hf4⟩, hIb, h6, h7⟩ := s_endless (l := eL E) (D := eD E) hI ht 
  obtain ⟨hl6b, hl7b, _, _⟩ := INV_len hIb
  refine g_aload_n C dL_law_630 rfl 631 rfl 2 rfl ?_
  refine g_c2i C h6 0 gL_law_X6_endless rfl (by decide +kernel) ⟨show f + 1 ≤ 10 by omega, show 8 + (1 + 11) + Lc ≤ 396 by omega⟩ hkn (ci := 6) rfl he6 rfl rfl (Nat.le_of_ble_eq_true rfl) 35 19 hl6 hl7 hl6b nd_35 dL_law_631 634 rfl ?_
  refine g_aload_n C dL_law_634 rfl 635 rfl 1 rfl ?_
  refine g_c2i C h7 0 gL_law_X7_endless rfl (by decide +kernel) ⟨show f' + 1 ≤ 10 by omega, show 8 + (5 + 11) + L' ≤ 396 by omega⟩ hkn (ci := 7) rfl he7 rfl rfl (Nat.le_of_ble_eq_true rfl) 19 35 hl7 hl6b hl7b nd_19 dL_law_635 638 rfl ?_
  exact g_icmp_eq C (X := True) dL_law_638 679 (by decide) 641 rfl ⟨fun _ => trivial, fun _ => rfl⟩ (fun _ => kk _ _ hIb) (fun h => absurd trivial h)
set_option maxRecDepth 20000 in
theorem law_high {E : Ev} {b L o o7 k n t : Nat} {xs : Nat → Int32} {wc wm : va_W} (C : Cx E cL_law wsL_law RL room_1 4) (hX : LX E b L xs) (hi : 6 * t + 6 ≤ L) (hkn : k ≤ room_1.cells ∧ n ≤ room_1.slots) (hI : INV t (eY E) o o7 wc wm) (kk : ∀ wc' wm', INV (t + 1) (eY E) o o7 wc' wm' → Go E k n 679 (lvL b o o7 (6 * t)) [] (wc' ++ wm')) : Go E k n 643 (lvL b o o7 (6 * t)) [] (wc ++ wm) := by
  have ht : t ≤ 900 := by have := hX.2.2.2; omega
  obtain ⟨hl6, hl7, ⟨fs6, he6⟩, ⟨fs7, he7⟩⟩ := INV_len hI
  obtain ⟨wcb, wmb, v, f, Lc, f', L', ⟨hf1, hf2, hf3, hf4⟩, hIb, h6, h7⟩ := s_high (l := eL E) (D := eD E) hI ht 
  obtain ⟨hl6b, hl7b, _, _⟩ := INV_len hIb
  refine g_aload_n C dL_law_643 rfl 644 rfl 2 rfl ?_
  refine g_c2i C h6 0 gL_law_X6_high rfl (by decide +kernel) ⟨show f + 1 ≤ 10 by omega, show 8 + (1 + 11) + Lc ≤ 396 by omega⟩ hkn (ci := 6) rfl he6 rfl rfl (Nat.le_of_ble_eq_true rfl) 35 19 hl6 hl7 hl6b nd_35 dL_law_644 647 rfl ?_
  refine g_aload_n C dL_law_647 rfl 648 rfl 1 rfl ?_
  refine g_c2i C h7 0 gL_law_X7_high rfl (by decide +kernel) ⟨show f' + 1 ≤ 10 by omega, show 8 + (6 + 11) + L' ≤ 396 by omega⟩ hkn (ci := 7) rfl he7 rfl rfl (Nat.le_of_ble_eq_true rfl) 19 35 hl7 hl6b hl7b nd_19 dL_law_648 651 rfl ?_
  exact g_icmp_eq C (X := True) dL_law_651 679 (by decide) 654 rfl ⟨fun _ => trivial, fun _ => rfl⟩ (fun _ => kk _ _ hIb) (fun h => absurd trivial h)
set_option maxRecDepth 20000 in
theorem law_count {E : Ev} {b L o o7 k n t : Nat} {xs : Nat → Int32} {wc wm : va_W} (C : Cx E cL_law wsL_law RL room_1 4) (hX : LX E b L xs) (hi : 6 * t + 6 ≤ L) (hkn : k ≤ room_1.cells ∧ n ≤ room_1.slots) (hI : INV t (eY E) o o7 wc wm) (kk : ∀ wc' wm', INV (t + 1) (eY E) o o7 wc' wm' → Go E k n 679 (lvL b o o7 (6 * t)) [] (wc' ++ wm')) : Go E k n 656 (lvL b o o7 (6 * t)) [] (wc ++ wm) := by
  have ht : t ≤ 900 := by have := hX.2.2.2; omega
  obtain ⟨hl6, hl7, ⟨fs6, he6⟩, ⟨fs7, he7⟩⟩ := INV_len hI
  obtain ⟨wcb, wmb, v, f, Lc, f', L', ⟨hf1, hf2, hf3, hf4⟩, hIb, h6, h7⟩ := s_count (l := eL E) (D := eD E) hI ht (xs (6 * t + 1))
  obtain ⟨hl6b, hl7b, _, _⟩ := INV_len hIb
  refine g_aload_n C dL_law_656 rfl 657 rfl 2 rfl ?_
  refine g_aload_n C dL_law_657 rfl 658 rfl 3 rfl ?_
  refine g_iload_n C dL_law_658 rfl 659 rfl 0 rfl ?_
  refine g_iconst C (v := nI 1) dL_law_659 rfl 660 rfl ?_
  refine g_iadd C dL_law_660 661 rfl (nI_add (6 * t) 1) ?_
  refine g_sld C hX (show 6 * t + 1 < L by omega) dL_law_661 662 rfl ?_
  refine g_c2i C h6 1 gL_law_X6_count rfl (by decide +kernel) ⟨show f + 1 ≤ 10 by omega, show 8 + (2 + 11) + Lc ≤ 396 by omega⟩ hkn (ci := 6) rfl he6 rfl rfl (Nat.le_of_ble_eq_true rfl) 35 19 hl6 hl7 hl6b nd_35 dL_law_662 665 rfl ?_
  refine g_aload_n C dL_law_665 rfl 666 rfl 1 rfl ?_
  refine g_aload_n C dL_law_666 rfl 667 rfl 3 rfl ?_
  refine g_iload_n C dL_law_667 rfl 668 rfl 0 rfl ?_
  refine g_iconst C (v := nI 1) dL_law_668 rfl 669 rfl ?_
  refine g_iadd C dL_law_669 670 rfl (nI_add (6 * t) 1) ?_
  refine g_sld C hX (show 6 * t + 1 < L by omega) dL_law_670 671 rfl ?_
  refine g_c2i C h7 1 gL_law_X7_count rfl (by decide +kernel) ⟨show f' + 1 ≤ 10 by omega, show 8 + (4 + 11) + L' ≤ 396 by omega⟩ hkn (ci := 7) rfl he7 rfl rfl (Nat.le_of_ble_eq_true rfl) 19 35 hl7 hl6b hl7b nd_19 dL_law_671 674 rfl ?_
  exact g_icmp_eq C (X := True) dL_law_674 679 (by decide) 677 rfl ⟨fun _ => trivial, fun _ => rfl⟩ (fun _ => kk _ _ hIb) (fun h => absurd trivial h)
end
