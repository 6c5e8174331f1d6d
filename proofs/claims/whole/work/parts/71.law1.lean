/-! THE LAW: cases -/
section LC
variable {L j : Nat} {xs : Nat → Int32} {h : ix_H} {Q : ix_O → Prop}
theorem law_c0 (hL : L ≤ 3072) (hj : 6 * j + 6 ≤ L) (w : LI h) (back : ∀ h2, LI h2 → gs (some (L, xs)) 8 mD_law (963, [(3, .int (nI (6 * j))), (0, .retAddr 0), (1, .ref 0), (2, .ref 96)], [], h2) Q) : gs (some (L, xs)) 8 mD_law (132, [(3, .int (nI (6 * j))), (0, .retAddr 0), (1, .ref 0), (2, .ref 96)], [], h) Q := by
  obtain ⟨⟨P, cap, tmo, clk, cl, cut, X, sy, torn, tE, tp, an⟩, hJ, hC, hR, hc1, hc2⟩ := w
  obtain ⟨fs4, k4⟩ := hC.cell
  refine gs_n 133 a_L_law_132 rfl ?_
  refine gs_n 134 a_L_law_133 rfl ?_
  refine gs_n 135 a_L_law_134 rfl ?_
  refine gs_k (nI 1) 136 a_L_law_135 (by decide +kernel) rfl ?_
  refine gs_n 137 a_L_law_136 rfl ?_
  refine gs_sc (6 * j + 1) 138 a_L_law_137 (nI_add (6 * j) 1) (by omega) hL rfl ?_
  refine gs_n 139 a_L_law_138 rfl ?_
  refine gs_n 140 a_L_law_139 rfl ?_
  refine gs_k (nI 2) 141 a_L_law_140 (by decide +kernel) rfl ?_
  refine gs_n 142 a_L_law_141 rfl ?_
  refine gs_sc (6 * j + 2) 143 a_L_law_142 (nI_add (6 * j) 2) (by omega) hL rfl ?_
  refine gs_n 144 a_L_law_143 rfl ?_
  refine gs_n 145 a_L_law_144 rfl ?_
  refine gs_k (nI 3) 146 a_L_law_145 (by decide +kernel) rfl ?_
  refine gs_n 147 a_L_law_146 rfl ?_
  refine gs_sc (6 * j + 3) 148 a_L_law_147 (nI_add (6 * j) 3) (by omega) hL rfl ?_
  refine gs_cv 151 a_L_law_148 k_6_13 q_X4_format (c_format _ _ _ hJ.1 hC) rfl rfl rfl (by simp [Value.category]) (by first | assumption | exact hs_same _ _ _ | exact (hs_ne _ _ (by first | assumption | decide | omega)).trans (by first | assumption | exact hs_same _ _ _ | exact (hs_ne _ _ (by first | assumption | decide | omega)).trans (by first | assumption | exact hs_same _ _ _ | exact (hs_ne _ _ (by first | assumption | decide | omega)).trans (by first | assumption | exact hs_same _ _ _ | exact (hs_ne _ _ (by first | assumption | decide | omega)).trans (by first | assumption | exact hs_same _ _ _))))) rfl (fun v h3 hp => ?_)
  obtain ⟨z1, hF3, hC2⟩ := hp
  simp only at z1
  subst z1
  have hR2 := hR.c hF3
  obtain ⟨fs5, k5⟩ := hR2.cell
  refine gs_n 152 a_L_law_151 rfl ?_
  refine gs_n 153 a_L_law_152 rfl ?_
  refine gs_n 154 a_L_law_153 rfl ?_
  refine gs_k (nI 1) 155 a_L_law_154 (by decide +kernel) rfl ?_
  refine gs_n 156 a_L_law_155 rfl ?_
  refine gs_sc (6 * j + 1) 157 a_L_law_156 (nI_add (6 * j) 1) (by omega) hL rfl ?_
  refine gs_n 158 a_L_law_157 rfl ?_
  refine gs_n 159 a_L_law_158 rfl ?_
  refine gs_k (nI 2) 160 a_L_law_159 (by decide +kernel) rfl ?_
  refine gs_n 161 a_L_law_160 rfl ?_
  refine gs_sc (6 * j + 2) 162 a_L_law_161 (nI_add (6 * j) 2) (by omega) hL rfl ?_
  refine gs_n 163 a_L_law_162 rfl ?_
  refine gs_n 164 a_L_law_163 rfl ?_
  refine gs_k (nI 3) 165 a_L_law_164 (by decide +kernel) rfl ?_
  refine gs_n 166 a_L_law_165 rfl ?_
  refine gs_sc (6 * j + 3) 167 a_L_law_166 (nI_add (6 * j) 3) (by omega) hL rfl ?_
  refine gs_cv 170 a_L_law_167 k_6_17 q_X5_format (r_formatS _ _ _ hJ.1 hR2) rfl rfl rfl (by simp [Value.category]) (by first | assumption | exact hs_same _ _ _ | exact (hs_ne _ _ (by first | assumption | decide | omega)).trans (by first | assumption | exact hs_same _ _ _ | exact (hs_ne _ _ (by first | assumption | decide | omega)).trans (by first | assumption | exact hs_same _ _ _ | exact (hs_ne _ _ (by first | assumption | decide | omega)).trans (by first | assumption | exact hs_same _ _ _ | exact (hs_ne _ _ (by first | assumption | decide | omega)).trans (by first | assumption | exact hs_same _ _ _))))) rfl (fun v h4 hp => ?_)
  obtain ⟨z1, hF4, hR3⟩ := hp
  simp only at z1
  subst z1
  have hC3 := hC2.m hF4
  refine gs_ic 963 173 a_L_law_170 rfl rfl (fun c => ?_) (fun c => ?_)
  · refine gs_w [(3, .int (nI (6 * j))), (0, .retAddr 0), (1, .ref 0), (2, .ref 96)] (by simp [ix_nd]) (by intro x hx; simp only [List.mem_cons, List.not_mem_nil, or_false] at hx; rcases hx with rfl | rfl | rfl | rfl <;> rfl) ?_
    exact back h4 ⟨_, J_format hJ, hC3, hR3, hF4.1.trans (hF3.1.trans hc1), by rw [hF4.2.1, hF3.2.1]; exact hc2⟩
  · exact absurd rfl c
theorem law_c1 (hL : L ≤ 3072) (hj : 6 * j + 6 ≤ L) (w : LI h) (back : ∀ h2, LI h2 → gs (some (L, xs)) 8 mD_law (963, [(3, .int (nI (6 * j))), (0, .retAddr 0), (1, .ref 0), (2, .ref 96)], [], h2) Q) : gs (some (L, xs)) 8 mD_law (175, [(3, .int (nI (6 * j))), (0, .retAddr 0), (1, .ref 0), (2, .ref 96)], [], h) Q := by
  obtain ⟨⟨P, cap, tmo, clk, cl, cut, X, sy, torn, tE, tp, an⟩, hJ, hC, hR, hc1, hc2⟩ := w
  obtain ⟨fs4, k4⟩ := hC.cell
  refine gs_n 176 a_L_law_175 rfl ?_
  refine gs_n 177 a_L_law_176 rfl ?_
  refine gs_n 178 a_L_law_177 rfl ?_
  refine gs_k (nI 1) 179 a_L_law_178 (by decide +kernel) rfl ?_
  refine gs_n 180 a_L_law_179 rfl ?_
  refine gs_sc (6 * j + 1) 181 a_L_law_180 (nI_add (6 * j) 1) (by omega) hL rfl ?_
  refine gs_n 182 a_L_law_181 rfl ?_
  refine gs_n 183 a_L_law_182 rfl ?_
  refine gs_k (nI 2) 184 a_L_law_183 (by decide +kernel) rfl ?_
  refine gs_n 185 a_L_law_184 rfl ?_
  refine gs_sc (6 * j + 2) 186 a_L_law_185 (nI_add (6 * j) 2) (by omega) hL rfl ?_
  refine gs_n 187 a_L_law_186 rfl ?_
  refine gs_k (nI 32) 189 a_L_law_187 (by decide +kernel) rfl ?_
  refine gs_n 190 a_L_law_189 rfl ?_
  refine gs_n 191 a_L_law_190 rfl ?_
  refine gs_n 192 a_L_law_191 rfl ?_
  refine gs_k (nI 3) 193 a_L_law_192 (by decide +kernel) rfl ?_
  refine gs_n 194 a_L_law_193 rfl ?_
  refine gs_sc (6 * j + 3) 195 a_L_law_194 (nI_add (6 * j) 3) (by omega) hL rfl ?_
  refine gs_n 196 a_L_law_195 rfl ?_
  refine gs_n 199 a_L_law_196 rfl ?_
  refine gs_n 200 a_L_law_199 rfl ?_
  refine gs_n 201 a_L_law_200 rfl ?_
  refine gs_n 202 a_L_law_201 rfl ?_
  refine gs_n 203 a_L_law_202 rfl ?_
  refine gs_k (nI 4) 204 a_L_law_203 (by decide +kernel) rfl ?_
  refine gs_n 205 a_L_law_204 rfl ?_
  refine gs_sc (6 * j + 4) 206 a_L_law_205 (nI_add (6 * j) 4) (by omega) hL rfl ?_
  refine gs_n 207 a_L_law_206 rfl ?_
  refine gs_k (nI 32) 209 a_L_law_207 (by decide +kernel) rfl ?_
  refine gs_n 210 a_L_law_209 rfl ?_
  refine gs_n 211 a_L_law_210 rfl ?_
  refine gs_n 212 a_L_law_211 rfl ?_
  refine gs_k (nI 5) 213 a_L_law_212 (by decide +kernel) rfl ?_
  refine gs_n 214 a_L_law_213 rfl ?_
  refine gs_sc (6 * j + 5) 215 a_L_law_214 (nI_add (6 * j) 5) (by omega) hL rfl ?_
  refine gs_n 216 a_L_law_215 rfl ?_
  refine gs_n 219 a_L_law_216 rfl ?_
  refine gs_n 220 a_L_law_219 rfl ?_
  refine gs_n 221 a_L_law_220 rfl ?_
  refine gs_cv 224 a_L_law_221 k_6_20 q_X4_feed (c_feed _ _ _ hJ.1 hC) rfl rfl rfl (by simp [Value.category]) (by first | assumption | exact hs_same _ _ _ | exact (hs_ne _ _ (by first | assumption | decide | omega)).trans (by first | assumption | exact hs_same _ _ _ | exact (hs_ne _ _ (by first | assumption | decide | omega)).trans (by first | assumption | exact hs_same _ _ _ | exact (hs_ne _ _ (by first | assumption | decide | omega)).trans (by first | assumption | exact hs_same _ _ _ | exact (hs_ne _ _ (by first | assumption | decide | omega)).trans (by first | assumption | exact hs_same _ _ _))))) rfl (fun v h3 hp => ?_)
  obtain ⟨z1, hF3, hC2⟩ := hp
  simp only at z1
  subst z1
  have hR2 := hR.c hF3
  obtain ⟨fs5, k5⟩ := hR2.cell
  refine gs_n 225 a_L_law_224 rfl ?_
  refine gs_n 226 a_L_law_225 rfl ?_
  refine gs_n 227 a_L_law_226 rfl ?_
  refine gs_k (nI 1) 228 a_L_law_227 (by decide +kernel) rfl ?_
  refine gs_n 229 a_L_law_228 rfl ?_
  refine gs_sc (6 * j + 1) 230 a_L_law_229 (nI_add (6 * j) 1) (by omega) hL rfl ?_
  refine gs_n 231 a_L_law_230 rfl ?_
  refine gs_n 232 a_L_law_231 rfl ?_
  refine gs_k (nI 2) 233 a_L_law_232 (by decide +kernel) rfl ?_
  refine gs_n 234 a_L_law_233 rfl ?_
  refine gs_sc (6 * j + 2) 235 a_L_law_234 (nI_add (6 * j) 2) (by omega) hL rfl ?_
  refine gs_n 236 a_L_law_235 rfl ?_
  refine gs_k (nI 32) 238 a_L_law_236 (by decide +kernel) rfl ?_
  refine gs_n 239 a_L_law_238 rfl ?_
  refine gs_n 240 a_L_law_239 rfl ?_
  refine gs_n 241 a_L_law_240 rfl ?_
  refine gs_k (nI 3) 242 a_L_law_241 (by decide +kernel) rfl ?_
  refine gs_n 243 a_L_law_242 rfl ?_
  refine gs_sc (6 * j + 3) 244 a_L_law_243 (nI_add (6 * j) 3) (by omega) hL rfl ?_
  refine gs_n 245 a_L_law_244 rfl ?_
  refine gs_n 248 a_L_law_245 rfl ?_
  refine gs_n 249 a_L_law_248 rfl ?_
  refine gs_n 250 a_L_law_249 rfl ?_
  refine gs_n 251 a_L_law_250 rfl ?_
  refine gs_n 252 a_L_law_251 rfl ?_
  refine gs_k (nI 4) 253 a_L_law_252 (by decide +kernel) rfl ?_
  refine gs_n 254 a_L_law_253 rfl ?_
  refine gs_sc (6 * j + 4) 255 a_L_law_254 (nI_add (6 * j) 4) (by omega) hL rfl ?_
  refine gs_n 256 a_L_law_255 rfl ?_
  refine gs_k (nI 32) 258 a_L_law_256 (by decide +kernel) rfl ?_
  refine gs_n 259 a_L_law_258 rfl ?_
  refine gs_n 260 a_L_law_259 rfl ?_
  refine gs_n 261 a_L_law_260 rfl ?_
  refine gs_k (nI 5) 262 a_L_law_261 (by decide +kernel) rfl ?_
  refine gs_n 263 a_L_law_262 rfl ?_
  refine gs_sc (6 * j + 5) 264 a_L_law_263 (nI_add (6 * j) 5) (by omega) hL rfl ?_
  refine gs_n 265 a_L_law_264 rfl ?_
  refine gs_n 268 a_L_law_265 rfl ?_
  refine gs_n 269 a_L_law_268 rfl ?_
  refine gs_n 270 a_L_law_269 rfl ?_
  refine gs_cv 273 a_L_law_270 k_6_24 q_X5_feed (r_feed _ _ _ hJ.1 hR2) rfl rfl rfl (by simp [Value.category]) (by first | assumption | exact hs_same _ _ _ | exact (hs_ne _ _ (by first | assumption | decide | omega)).trans (by first | assumption | exact hs_same _ _ _ | exact (hs_ne _ _ (by first | assumption | decide | omega)).trans (by first | assumption | exact hs_same _ _ _ | exact (hs_ne _ _ (by first | assumption | decide | omega)).trans (by first | assumption | exact hs_same _ _ _ | exact (hs_ne _ _ (by first | assumption | decide | omega)).trans (by first | assumption | exact hs_same _ _ _))))) rfl (fun v h4 hp => ?_)
  obtain ⟨z1, hF4, hR3⟩ := hp
  simp only at z1
  subst z1
  have hC3 := hC2.m hF4
  refine gs_ic 963 276 a_L_law_273 rfl rfl (fun c => ?_) (fun c => ?_)
  · refine gs_w [(3, .int (nI (6 * j))), (0, .retAddr 0), (1, .ref 0), (2, .ref 96)] (by simp [ix_nd]) (by intro x hx; simp only [List.mem_cons, List.not_mem_nil, or_false] at hx; rcases hx with rfl | rfl | rfl | rfl <;> rfl) ?_
    exact back h4 ⟨_, J_feed hJ, hC3, hR3, hF4.1.trans (hF3.1.trans hc1), by rw [hF4.2.1, hF3.2.1]; exact hc2⟩
  · exact absurd rfl c
theorem law_c2 (hL : L ≤ 3072) (hj : 6 * j + 6 ≤ L) (w : LI h) (back : ∀ h2, LI h2 → gs (some (L, xs)) 8 mD_law (963, [(3, .int (nI (6 * j))), (0, .retAddr 0), (1, .ref 0), (2, .ref 96)], [], h2) Q) : gs (some (L, xs)) 8 mD_law (278, [(3, .int (nI (6 * j))), (0, .retAddr 0), (1, .ref 0), (2, .ref 96)], [], h) Q := by
  obtain ⟨⟨P, cap, tmo, clk, cl, cut, X, sy, torn, tE, tp, an⟩, hJ, hC, hR, hc1, hc2⟩ := w
  obtain ⟨fs4, k4⟩ := hC.cell
  refine gs_n 279 a_L_law_278 rfl ?_
  refine gs_n 280 a_L_law_279 rfl ?_
  refine gs_n 281 a_L_law_280 rfl ?_
  refine gs_k (nI 1) 282 a_L_law_281 (by decide +kernel) rfl ?_
  refine gs_n 283 a_L_law_282 rfl ?_
  refine gs_sc (6 * j + 1) 284 a_L_law_283 (nI_add (6 * j) 1) (by omega) hL rfl ?_
  refine gs_cv 287 a_L_law_284 k_6_25 q_X4_register (c_register _ hJ.1 hC) rfl rfl rfl (by simp [Value.category]) (by first | assumption | exact hs_same _ _ _ | exact (hs_ne _ _ (by first | assumption | decide | omega)).trans (by first | assumption | exact hs_same _ _ _ | exact (hs_ne _ _ (by first | assumption | decide | omega)).trans (by first | assumption | exact hs_same _ _ _ | exact (hs_ne _ _ (by first | assumption | decide | omega)).trans (by first | assumption | exact hs_same _ _ _ | exact (hs_ne _ _ (by first | assumption | decide | omega)).trans (by first | assumption | exact hs_same _ _ _))))) rfl (fun v h3 hp => ?_)
  obtain ⟨z1, hF3, hC2⟩ := hp
  simp only at z1
  subst z1
  have hR2 := hR.c hF3
  obtain ⟨fs5, k5⟩ := hR2.cell
  refine gs_n 288 a_L_law_287 rfl ?_
  refine gs_n 289 a_L_law_288 rfl ?_
  refine gs_n 290 a_L_law_289 rfl ?_
  refine gs_k (nI 1) 291 a_L_law_290 (by decide +kernel) rfl ?_
  refine gs_n 292 a_L_law_291 rfl ?_
  refine gs_sc (6 * j + 1) 293 a_L_law_292 (nI_add (6 * j) 1) (by omega) hL rfl ?_
  refine gs_cv 296 a_L_law_293 k_6_29 q_X5_register (r_register _ hJ.1 hR2) rfl rfl rfl (by simp [Value.category]) (by first | assumption | exact hs_same _ _ _ | exact (hs_ne _ _ (by first | assumption | decide | omega)).trans (by first | assumption | exact hs_same _ _ _ | exact (hs_ne _ _ (by first | assumption | decide | omega)).trans (by first | assumption | exact hs_same _ _ _ | exact (hs_ne _ _ (by first | assumption | decide | omega)).trans (by first | assumption | exact hs_same _ _ _ | exact (hs_ne _ _ (by first | assumption | decide | omega)).trans (by first | assumption | exact hs_same _ _ _))))) rfl (fun v h4 hp => ?_)
  obtain ⟨z1, hF4, hR3⟩ := hp
  simp only at z1
  subst z1
  have hC3 := hC2.m hF4
  refine gs_ic 963 299 a_L_law_296 rfl rfl (fun c => ?_) (fun c => ?_)
  · refine gs_w [(3, .int (nI (6 * j))), (0, .retAddr 0), (1, .ref 0), (2, .ref 96)] (by simp [ix_nd]) (by intro x hx; simp only [List.mem_cons, List.not_mem_nil, or_false] at hx; rcases hx with rfl | rfl | rfl | rfl <;> rfl) ?_
    exact back h4 ⟨_, J_register hJ, hC3, hR3, hF4.1.trans (hF3.1.trans hc1), by rw [hF4.2.1, hF3.2.1]; exact hc2⟩
  · exact absurd rfl c
theorem law_c3 (hL : L ≤ 3072) (hj : 6 * j + 6 ≤ L) (w : LI h) (back : ∀ h2, LI h2 → gs (some (L, xs)) 8 mD_law (963, [(3, .int (nI (6 * j))), (0, .retAddr 0), (1, .ref 0), (2, .ref 96)], [], h2) Q) : gs (some (L, xs)) 8 mD_law (301, [(3, .int (nI (6 * j))), (0, .retAddr 0), (1, .ref 0), (2, .ref 96)], [], h) Q := by
  obtain ⟨⟨P, cap, tmo, clk, cl, cut, X, sy, torn, tE, tp, an⟩, hJ, hC, hR, hc1, hc2⟩ := w
  obtain ⟨fs4, k4⟩ := hC.cell
  refine gs_n 302 a_L_law_301 rfl ?_
  refine gs_n 303 a_L_law_302 rfl ?_
  refine gs_n 304 a_L_law_303 rfl ?_
  refine gs_k (nI 1) 305 a_L_law_304 (by decide +kernel) rfl ?_
  refine gs_n 306 a_L_law_305 rfl ?_
  refine gs_sc (6 * j + 1) 307 a_L_law_306 (nI_add (6 * j) 1) (by omega) hL rfl ?_
  refine gs_n 308 a_L_law_307 rfl ?_
  refine gs_n 309 a_L_law_308 rfl ?_
  refine gs_k (nI 2) 310 a_L_law_309 (by decide +kernel) rfl ?_
  refine gs_n 311 a_L_law_310 rfl ?_
  refine gs_sc (6 * j + 2) 312 a_L_law_311 (nI_add (6 * j) 2) (by omega) hL rfl ?_
  refine gs_cv 315 a_L_law_312 k_6_30 q_X4_begin (c_begin _ _ hJ.1 hC) rfl rfl rfl (by simp [Value.category]) (by first | assumption | exact hs_same _ _ _ | exact (hs_ne _ _ (by first | assumption | decide | omega)).trans (by first | assumption | exact hs_same _ _ _ | exact (hs_ne _ _ (by first | assumption | decide | omega)).trans (by first | assumption | exact hs_same _ _ _ | exact (hs_ne _ _ (by first | assumption | decide | omega)).trans (by first | assumption | exact hs_same _ _ _ | exact (hs_ne _ _ (by first | assumption | decide | omega)).trans (by first | assumption | exact hs_same _ _ _))))) rfl (fun v h3 hp => ?_)
  obtain ⟨z1, hF3, hC2⟩ := hp
  simp only at z1
  subst z1
  have hR2 := hR.c hF3
  obtain ⟨fs5, k5⟩ := hR2.cell
  refine gs_n 316 a_L_law_315 rfl ?_
  refine gs_n 317 a_L_law_316 rfl ?_
  refine gs_n 318 a_L_law_317 rfl ?_
  refine gs_k (nI 1) 319 a_L_law_318 (by decide +kernel) rfl ?_
  refine gs_n 320 a_L_law_319 rfl ?_
  refine gs_sc (6 * j + 1) 321 a_L_law_320 (nI_add (6 * j) 1) (by omega) hL rfl ?_
  refine gs_n 322 a_L_law_321 rfl ?_
  refine gs_n 323 a_L_law_322 rfl ?_
  refine gs_k (nI 2) 324 a_L_law_323 (by decide +kernel) rfl ?_
  refine gs_n 325 a_L_law_324 rfl ?_
  refine gs_sc (6 * j + 2) 326 a_L_law_325 (nI_add (6 * j) 2) (by omega) hL rfl ?_
  refine gs_cv 329 a_L_law_326 k_6_34 q_X5_begin (r_begin _ _ hJ.1 hR2) rfl rfl rfl (by simp [Value.category]) (by first | assumption | exact hs_same _ _ _ | exact (hs_ne _ _ (by first | assumption | decide | omega)).trans (by first | assumption | exact hs_same _ _ _ | exact (hs_ne _ _ (by first | assumption | decide | omega)).trans (by first | assumption | exact hs_same _ _ _ | exact (hs_ne _ _ (by first | assumption | decide | omega)).trans (by first | assumption | exact hs_same _ _ _ | exact (hs_ne _ _ (by first | assumption | decide | omega)).trans (by first | assumption | exact hs_same _ _ _))))) rfl (fun v h4 hp => ?_)
  obtain ⟨z1, hF4, hR3⟩ := hp
  simp only at z1
  subst z1
  have hC3 := hC2.m hF4
  refine gs_ic 963 332 a_L_law_329 rfl rfl (fun c => ?_) (fun c => ?_)
  · refine gs_w [(3, .int (nI (6 * j))), (0, .retAddr 0), (1, .ref 0), (2, .ref 96)] (by simp [ix_nd]) (by intro x hx; simp only [List.mem_cons, List.not_mem_nil, or_false] at hx; rcases hx with rfl | rfl | rfl | rfl <;> rfl) ?_
    exact back h4 ⟨_, J_begin hJ, hC3, hR3, hF4.1.trans (hF3.1.trans hc1), by rw [hF4.2.1, hF3.2.1]; exact hc2⟩
  · exact absurd rfl c
theorem law_c4 (hL : L ≤ 3072) (hj : 6 * j + 6 ≤ L) (w : LI h) (back : ∀ h2, LI h2 → gs (some (L, xs)) 8 mD_law (963, [(3, .int (nI (6 * j))), (0, .retAddr 0), (1, .ref 0), (2, .ref 96)], [], h2) Q) : gs (some (L, xs)) 8 mD_law (334, [(3, .int (nI (6 * j))), (0, .retAddr 0), (1, .ref 0), (2, .ref 96)], [], h) Q := by
  obtain ⟨⟨P, cap, tmo, clk, cl, cut, X, sy, torn, tE, tp, an⟩, hJ, hC, hR, hc1, hc2⟩ := w
  obtain ⟨fs4, k4⟩ := hC.cell
  refine gs_n 335 a_L_law_334 rfl ?_
  refine gs_n 336 a_L_law_335 rfl ?_
  refine gs_n 337 a_L_law_336 rfl ?_
  refine gs_k (nI 1) 338 a_L_law_337 (by decide +kernel) rfl ?_
  refine gs_n 339 a_L_law_338 rfl ?_
  refine gs_sc (6 * j + 1) 340 a_L_law_339 (nI_add (6 * j) 1) (by omega) hL rfl ?_
  refine gs_n 341 a_L_law_340 rfl ?_
  refine gs_n 342 a_L_law_341 rfl ?_
  refine gs_k (nI 2) 343 a_L_law_342 (by decide +kernel) rfl ?_
  refine gs_n 344 a_L_law_343 rfl ?_
  refine gs_sc (6 * j + 2) 345 a_L_law_344 (nI_add (6 * j) 2) (by omega) hL rfl ?_
  refine gs_n 346 a_L_law_345 rfl ?_
  refine gs_n 347 a_L_law_346 rfl ?_
  refine gs_k (nI 3) 348 a_L_law_347 (by decide +kernel) rfl ?_
  refine gs_n 349 a_L_law_348 rfl ?_
  refine gs_sc (6 * j + 3) 350 a_L_law_349 (nI_add (6 * j) 3) (by omega) hL rfl ?_
  refine gs_n 351 a_L_law_350 rfl ?_
  refine gs_n 352 a_L_law_351 rfl ?_
  refine gs_k (nI 4) 353 a_L_law_352 (by decide +kernel) rfl ?_
  refine gs_n 354 a_L_law_353 rfl ?_
  refine gs_sc (6 * j + 4) 355 a_L_law_354 (nI_add (6 * j) 4) (by omega) hL rfl ?_
  refine gs_n 356 a_L_law_355 rfl ?_
  refine gs_n 357 a_L_law_356 rfl ?_
  refine gs_k (nI 5) 358 a_L_law_357 (by decide +kernel) rfl ?_
  refine gs_n 359 a_L_law_358 rfl ?_
  refine gs_sc (6 * j + 5) 360 a_L_law_359 (nI_add (6 * j) 5) (by omega) hL rfl ?_
  refine gs_nz 363 364 367 368 a_L_law_360 rfl a_L_law_363 a_L_law_364 rfl a_L_law_367 rfl rfl rfl ?_
  refine gs_cv 371 a_L_law_368 k_6_35 q_X4_send (c_send _ _ _ _ _ hJ.1 hC) rfl rfl rfl (by simp [Value.category]) (by first | assumption | exact hs_same _ _ _ | exact (hs_ne _ _ (by first | assumption | decide | omega)).trans (by first | assumption | exact hs_same _ _ _ | exact (hs_ne _ _ (by first | assumption | decide | omega)).trans (by first | assumption | exact hs_same _ _ _ | exact (hs_ne _ _ (by first | assumption | decide | omega)).trans (by first | assumption | exact hs_same _ _ _ | exact (hs_ne _ _ (by first | assumption | decide | omega)).trans (by first | assumption | exact hs_same _ _ _))))) rfl (fun v h3 hp => ?_)
  obtain ⟨z1, hF3, hC2⟩ := hp
  simp only at z1
  subst z1
  have hR2 := hR.c hF3
  obtain ⟨fs5, k5⟩ := hR2.cell
  refine gs_n 372 a_L_law_371 rfl ?_
  refine gs_n 373 a_L_law_372 rfl ?_
  refine gs_n 374 a_L_law_373 rfl ?_
  refine gs_k (nI 1) 375 a_L_law_374 (by decide +kernel) rfl ?_
  refine gs_n 376 a_L_law_375 rfl ?_
  refine gs_sc (6 * j + 1) 377 a_L_law_376 (nI_add (6 * j) 1) (by omega) hL rfl ?_
  refine gs_n 378 a_L_law_377 rfl ?_
  refine gs_n 379 a_L_law_378 rfl ?_
  refine gs_k (nI 2) 380 a_L_law_379 (by decide +kernel) rfl ?_
  refine gs_n 381 a_L_law_380 rfl ?_
  refine gs_sc (6 * j + 2) 382 a_L_law_381 (nI_add (6 * j) 2) (by omega) hL rfl ?_
  refine gs_n 383 a_L_law_382 rfl ?_
  refine gs_n 384 a_L_law_383 rfl ?_
  refine gs_k (nI 3) 385 a_L_law_384 (by decide +kernel) rfl ?_
  refine gs_n 386 a_L_law_385 rfl ?_
  refine gs_sc (6 * j + 3) 387 a_L_law_386 (nI_add (6 * j) 3) (by omega) hL rfl ?_
  refine gs_n 388 a_L_law_387 rfl ?_
  refine gs_n 389 a_L_law_388 rfl ?_
  refine gs_k (nI 4) 390 a_L_law_389 (by decide +kernel) rfl ?_
  refine gs_n 391 a_L_law_390 rfl ?_
  refine gs_sc (6 * j + 4) 392 a_L_law_391 (nI_add (6 * j) 4) (by omega) hL rfl ?_
  refine gs_n 393 a_L_law_392 rfl ?_
  refine gs_n 394 a_L_law_393 rfl ?_
  refine gs_k (nI 5) 395 a_L_law_394 (by decide +kernel) rfl ?_
  refine gs_n 396 a_L_law_395 rfl ?_
  refine gs_sc (6 * j + 5) 397 a_L_law_396 (nI_add (6 * j) 5) (by omega) hL rfl ?_
  refine gs_nz 400 401 404 405 a_L_law_397 rfl a_L_law_400 a_L_law_401 rfl a_L_law_404 rfl rfl rfl ?_
  refine gs_cv 408 a_L_law_405 k_6_39 q_X5_send (r_send _ _ _ _ _ hJ.1 hR2) rfl rfl rfl (by simp [Value.category]) (by first | assumption | exact hs_same _ _ _ | exact (hs_ne _ _ (by first | assumption | decide | omega)).trans (by first | assumption | exact hs_same _ _ _ | exact (hs_ne _ _ (by first | assumption | decide | omega)).trans (by first | assumption | exact hs_same _ _ _ | exact (hs_ne _ _ (by first | assumption | decide | omega)).trans (by first | assumption | exact hs_same _ _ _ | exact (hs_ne _ _ (by first | assumption | decide | omega)).trans (by first | assumption | exact hs_same _ _ _))))) rfl (fun v h4 hp => ?_)
  obtain ⟨z1, hF4, hR3⟩ := hp
  simp only at z1
  subst z1
  have hC3 := hC2.m hF4
  refine gs_ic 963 411 a_L_law_408 rfl rfl (fun c => ?_) (fun c => ?_)
  · refine gs_w [(3, .int (nI (6 * j))), (0, .retAddr 0), (1, .ref 0), (2, .ref 96)] (by simp [ix_nd]) (by intro x hx; simp only [List.mem_cons, List.not_mem_nil, or_false] at hx; rcases hx with rfl | rfl | rfl | rfl <;> rfl) ?_
    exact back h4 ⟨_, J_send hJ, hC3, hR3, hF4.1.trans (hF3.1.trans hc1), by rw [hF4.2.1, hF3.2.1]; exact hc2⟩
  · exact absurd rfl c
end LC
