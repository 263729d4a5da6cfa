/-! ===== the law: its cases ===== -/
section LC97
variable {nm : String} {G : GP} {F : FX} {Q : State → Prop} {b L x m i n cells slots : Nat} {xs : Nat → Int32} {h : AH}
abbrev lvL (b x m : Nat) (v : Int32) : List (Option Value) := [some (.ref b), some (.ref x), some (.ref m), some (.int v)]
theorem lc_wide (C : CX G F (mL_law nm) room_1) (hX : va_X b L xs (fs F) (gH G)) (hbl : b < gb G) (hL : L ≤ 385) (hi : i + 6 ≤ L) (hn64 : n ≤ 100) (I : LI x m n h) (hc : cells + 7 ≤ 600000) (hsl : slots + 543 ≤ 7302250) (k : ∀ h', LI x m (n + 1) h' → WA G F (mL_law nm) h' (cells + 7) (slots + 543) Q 1068 (lvL b x m (nI i)) []) : WA G F (mL_law nm) h cells slots Q 152 (lvL b x m (nI i)) [] := by
  obtain ⟨t, e, u, M0, E, H, V, c, hu, hn⟩ := I
  have B := V.1.1
  refine r_aload_n (pc := 152) C dL_law_152 rfl rfl ?_
  refine r_aload_n (pc := 153) C dL_law_153 rfl rfl ?_
  refine r_iload_n (pc := 154) C dL_law_154 rfl rfl ?_
  refine r_iconst (pc := 155) (v := (nI 1)) C dL_law_155 (by decide) ?_
  refine n_iadd (pc := 156) C dL_law_156 ?_
  refine n_sld (pc := 157) C hX hbl (by omega) (by omega) dL_law_157 ?_
  refine r_aload_n (pc := 158) C dL_law_158 rfl rfl ?_
  refine r_iload_n (pc := 159) C dL_law_159 rfl rfl ?_
  refine r_iconst (pc := 160) (v := (nI 2)) C dL_law_160 (by decide) ?_
  refine n_iadd (pc := 161) C dL_law_161 ?_
  refine n_sld (pc := 162) C hX hbl (by omega) (by omega) dL_law_162 ?_
  refine r_calli (cr_V (pc := 163) C (c_X5_wide E B H (fun z c => (V.1.2.2.1.2.2.1 z c).2.1) _ _) dL_law_163 cm_X5_wide ml_L_21 im_X5_wide se_X5_wide E.L.o rfl ⟨⟨Nat.le_of_ble_eq_true rfl, Nat.le_of_ble_eq_true rfl⟩, (by show cells + 0 ≤ 600000; omega), (by show slots + 0 ≤ 7302250; omega)⟩ rfl rfl (Nat.le_of_ble_eq_true rfl)) (fun v163 h163 hq163 => ?_)
  obtain ⟨rfl, ⟨e1, E1, H1⟩, K1, n1⟩ := (XP.xm E hn hq163)
  have M1 := M0.kp K1
  refine r_aload_n (pc := 166) C dL_law_166 rfl rfl ?_
  refine r_aload_n (pc := 167) C dL_law_167 rfl rfl ?_
  refine r_iload_n (pc := 168) C dL_law_168 rfl rfl ?_
  refine r_iconst (pc := 169) (v := (nI 1)) C dL_law_169 (by decide) ?_
  refine n_iadd (pc := 170) C dL_law_170 ?_
  refine n_sld (pc := 171) C hX hbl (by omega) (by omega) dL_law_171 ?_
  refine r_aload_n (pc := 172) C dL_law_172 rfl rfl ?_
  refine r_iload_n (pc := 173) C dL_law_173 rfl rfl ?_
  refine r_iconst (pc := 174) (v := (nI 2)) C dL_law_174 (by decide) ?_
  refine n_iadd (pc := 175) C dL_law_175 ?_
  refine n_sld (pc := 176) C hX hbl (by omega) (by omega) dL_law_176 ?_
  refine r_calli (cr_V (pc := 177) C (c_X6_wide M1 B _ _) dL_law_177 cm_X6_wide ml_L_25 im_X6_wide se_X6_wide M1.L.o rfl ⟨⟨Nat.le_of_ble_eq_true rfl, Nat.le_of_ble_eq_true rfl⟩, (by show cells + 0 + 0 ≤ 600000; omega), (by show slots + 0 + 0 ≤ 7302250; omega)⟩ rfl rfl (Nat.le_of_ble_eq_true rfl)) (fun v177 h177 hq177 => ?_)
  obtain ⟨rfl, M2, f2⟩ := hq177
  refine r_icmp_eq (pc := 180) (tgt := 1068) C dL_law_180 (by decide) (fun c180 => ?_) (fun c180 => absurd c180 (fun z => z rfl))
  obtain ⟨V', c'⟩ := IV.spWide V c (by omega) _ _
  exact WA.widen (by omega) (by omega) (k _ ⟨_, e1, u, M2, E1.fr f2, H1, V', c', by omega, by rw [f2.1]; exact n1⟩)
theorem lc_capacity (C : CX G F (mL_law nm) room_1) (hX : va_X b L xs (fs F) (gH G)) (hbl : b < gb G) (hL : L ≤ 385) (hi : i + 6 ≤ L) (hn64 : n ≤ 100) (I : LI x m n h) (hc : cells + 7 ≤ 600000) (hsl : slots + 543 ≤ 7302250) (k : ∀ h', LI x m (n + 1) h' → WA G F (mL_law nm) h' (cells + 7) (slots + 543) Q 1068 (lvL b x m (nI i)) []) : WA G F (mL_law nm) h cells slots Q 185 (lvL b x m (nI i)) [] := by
  obtain ⟨t, e, u, M0, E, H, V, c, hu, hn⟩ := I
  have B := V.1.1
  refine r_aload_n (pc := 185) C dL_law_185 rfl rfl ?_
  refine r_aload_n (pc := 186) C dL_law_186 rfl rfl ?_
  refine r_iload_n (pc := 187) C dL_law_187 rfl rfl ?_
  refine r_iconst (pc := 188) (v := (nI 1)) C dL_law_188 (by decide) ?_
  refine n_iadd (pc := 189) C dL_law_189 ?_
  refine n_sld (pc := 190) C hX hbl (by omega) (by omega) dL_law_190 ?_
  refine r_calli (cr_V (pc := 191) C (c_X5_capacity E B H _) dL_law_191 cm_X5_capacity ml_L_26 im_X5_capacity se_X5_capacity E.L.o rfl ⟨⟨Nat.le_of_ble_eq_true rfl, Nat.le_of_ble_eq_true rfl⟩, (by show cells + 0 ≤ 600000; omega), (by show slots + 0 ≤ 7302250; omega)⟩ rfl rfl (Nat.le_of_ble_eq_true rfl)) (fun v191 h191 hq191 => ?_)
  obtain ⟨rfl, ⟨e1, E1, H1⟩, K1, n1⟩ := (XP.xm E hn hq191)
  have M1 := M0.kp K1
  refine r_aload_n (pc := 194) C dL_law_194 rfl rfl ?_
  refine r_aload_n (pc := 195) C dL_law_195 rfl rfl ?_
  refine r_iload_n (pc := 196) C dL_law_196 rfl rfl ?_
  refine r_iconst (pc := 197) (v := (nI 1)) C dL_law_197 (by decide) ?_
  refine n_iadd (pc := 198) C dL_law_198 ?_
  refine n_sld (pc := 199) C hX hbl (by omega) (by omega) dL_law_199 ?_
  refine r_calli (cr_V (pc := 200) C (c_X6_capacity M1 B _) dL_law_200 cm_X6_capacity ml_L_30 im_X6_capacity se_X6_capacity M1.L.o rfl ⟨⟨Nat.le_of_ble_eq_true rfl, Nat.le_of_ble_eq_true rfl⟩, (by show cells + 0 + 0 ≤ 600000; omega), (by show slots + 0 + 0 ≤ 7302250; omega)⟩ rfl rfl (Nat.le_of_ble_eq_true rfl)) (fun v200 h200 hq200 => ?_)
  obtain ⟨rfl, M2, f2⟩ := hq200
  refine r_icmp_eq (pc := 203) (tgt := 1068) C dL_law_203 (by decide) (fun c203 => ?_) (fun c203 => absurd c203 (fun z => z rfl))
  obtain ⟨V', c'⟩ := IV.spCap V c _
  exact WA.widen (by omega) (by omega) (k _ ⟨_, e1, u, M2, E1.fr f2, H1, V', c', by omega, by rw [f2.1]; exact n1⟩)
theorem lc_bound (C : CX G F (mL_law nm) room_1) (hX : va_X b L xs (fs F) (gH G)) (hbl : b < gb G) (hL : L ≤ 385) (hi : i + 6 ≤ L) (hn64 : n ≤ 100) (I : LI x m n h) (hc : cells + 7 ≤ 600000) (hsl : slots + 543 ≤ 7302250) (k : ∀ h', LI x m (n + 1) h' → WA G F (mL_law nm) h' (cells + 7) (slots + 543) Q 1068 (lvL b x m (nI i)) []) : WA G F (mL_law nm) h cells slots Q 208 (lvL b x m (nI i)) [] := by
  obtain ⟨t, e, u, M0, E, H, V, c, hu, hn⟩ := I
  have B := V.1.1
  refine r_aload_n (pc := 208) C dL_law_208 rfl rfl ?_
  refine r_aload_n (pc := 209) C dL_law_209 rfl rfl ?_
  refine r_iload_n (pc := 210) C dL_law_210 rfl rfl ?_
  refine r_iconst (pc := 211) (v := (nI 1)) C dL_law_211 (by decide) ?_
  refine n_iadd (pc := 212) C dL_law_212 ?_
  refine n_sld (pc := 213) C hX hbl (by omega) (by omega) dL_law_213 ?_
  refine r_calli (cr_V (pc := 214) C (c_X5_bound E B H _) dL_law_214 cm_X5_bound ml_L_31 im_X5_bound se_X5_bound E.L.o rfl ⟨⟨Nat.le_of_ble_eq_true rfl, Nat.le_of_ble_eq_true rfl⟩, (by show cells + 0 ≤ 600000; omega), (by show slots + 0 ≤ 7302250; omega)⟩ rfl rfl (Nat.le_of_ble_eq_true rfl)) (fun v214 h214 hq214 => ?_)
  obtain ⟨rfl, ⟨e1, E1, H1⟩, K1, n1⟩ := (XP.xm E hn hq214)
  have M1 := M0.kp K1
  refine r_aload_n (pc := 217) C dL_law_217 rfl rfl ?_
  refine r_aload_n (pc := 218) C dL_law_218 rfl rfl ?_
  refine r_iload_n (pc := 219) C dL_law_219 rfl rfl ?_
  refine r_iconst (pc := 220) (v := (nI 1)) C dL_law_220 (by decide) ?_
  refine n_iadd (pc := 221) C dL_law_221 ?_
  refine n_sld (pc := 222) C hX hbl (by omega) (by omega) dL_law_222 ?_
  refine r_calli (cr_V (pc := 223) C (c_X6_bound M1 B _) dL_law_223 cm_X6_bound ml_L_34 im_X6_bound se_X6_bound M1.L.o rfl ⟨⟨Nat.le_of_ble_eq_true rfl, Nat.le_of_ble_eq_true rfl⟩, (by show cells + 0 + 0 ≤ 600000; omega), (by show slots + 0 + 0 ≤ 7302250; omega)⟩ rfl rfl (Nat.le_of_ble_eq_true rfl)) (fun v223 h223 hq223 => ?_)
  obtain ⟨rfl, M2, f2⟩ := hq223
  refine r_icmp_eq (pc := 226) (tgt := 1068) C dL_law_226 (by decide) (fun c226 => ?_) (fun c226 => absurd c226 (fun z => z rfl))
  obtain ⟨V', c'⟩ := IV.spBnd V c _
  exact WA.widen (by omega) (by omega) (k _ ⟨_, e1, u, M2, E1.fr f2, H1, V', c', by omega, by rw [f2.1]; exact n1⟩)
theorem lc_limit (C : CX G F (mL_law nm) room_1) (hX : va_X b L xs (fs F) (gH G)) (hbl : b < gb G) (hL : L ≤ 385) (hi : i + 6 ≤ L) (hn64 : n ≤ 100) (I : LI x m n h) (hc : cells + 7 ≤ 600000) (hsl : slots + 543 ≤ 7302250) (k : ∀ h', LI x m (n + 1) h' → WA G F (mL_law nm) h' (cells + 7) (slots + 543) Q 1068 (lvL b x m (nI i)) []) : WA G F (mL_law nm) h cells slots Q 231 (lvL b x m (nI i)) [] := by
  obtain ⟨t, e, u, M0, E, H, V, c, hu, hn⟩ := I
  have B := V.1.1
  refine r_aload_n (pc := 231) C dL_law_231 rfl rfl ?_
  refine r_aload_n (pc := 232) C dL_law_232 rfl rfl ?_
  refine r_iload_n (pc := 233) C dL_law_233 rfl rfl ?_
  refine r_iconst (pc := 234) (v := (nI 1)) C dL_law_234 (by decide) ?_
  refine n_iadd (pc := 235) C dL_law_235 ?_
  refine n_sld (pc := 236) C hX hbl (by omega) (by omega) dL_law_236 ?_
  refine r_calli (cr_V (pc := 237) C (c_X5_limit E B H _) dL_law_237 cm_X5_limit ml_L_35 im_X5_limit se_X5_limit E.L.o rfl ⟨⟨Nat.le_of_ble_eq_true rfl, Nat.le_of_ble_eq_true rfl⟩, (by show cells + 0 ≤ 600000; omega), (by show slots + 0 ≤ 7302250; omega)⟩ rfl rfl (Nat.le_of_ble_eq_true rfl)) (fun v237 h237 hq237 => ?_)
  obtain ⟨rfl, ⟨e1, E1, H1⟩, K1, n1⟩ := (XP.xm E hn hq237)
  have M1 := M0.kp K1
  refine r_aload_n (pc := 240) C dL_law_240 rfl rfl ?_
  refine r_aload_n (pc := 241) C dL_law_241 rfl rfl ?_
  refine r_iload_n (pc := 242) C dL_law_242 rfl rfl ?_
  refine r_iconst (pc := 243) (v := (nI 1)) C dL_law_243 (by decide) ?_
  refine n_iadd (pc := 244) C dL_law_244 ?_
  refine n_sld (pc := 245) C hX hbl (by omega) (by omega) dL_law_245 ?_
  refine r_calli (cr_V (pc := 246) C (c_X6_limit M1 B _) dL_law_246 cm_X6_limit ml_L_38 im_X6_limit se_X6_limit M1.L.o rfl ⟨⟨Nat.le_of_ble_eq_true rfl, Nat.le_of_ble_eq_true rfl⟩, (by show cells + 0 + 0 ≤ 600000; omega), (by show slots + 0 + 0 ≤ 7302250; omega)⟩ rfl rfl (Nat.le_of_ble_eq_true rfl)) (fun v246 h246 hq246 => ?_)
  obtain ⟨rfl, M2, f2⟩ := hq246
  refine r_icmp_eq (pc := 249) (tgt := 1068) C dL_law_249 (by decide) (fun c249 => ?_) (fun c249 => absurd c249 (fun z => z rfl))
  obtain ⟨V', c'⟩ := IV.spLim V c _
  exact WA.widen (by omega) (by omega) (k _ ⟨_, e1, u, M2, E1.fr f2, H1, V', c', by omega, by rw [f2.1]; exact n1⟩)
theorem lc_feed (C : CX G F (mL_law nm) room_1) (hX : va_X b L xs (fs F) (gH G)) (hbl : b < gb G) (hL : L ≤ 385) (hi : i + 6 ≤ L) (hn64 : n ≤ 100) (I : LI x m n h) (hc : cells + 7 ≤ 600000) (hsl : slots + 543 ≤ 7302250) (hcl : (Cond.constantLong (mL_law nm).1.cls 39 4294967295).before (fa F) (fs F) = true) (k : ∀ h', LI x m (n + 1) h' → WA G F (mL_law nm) h' (cells + 7) (slots + 543) Q 1068 (lvL b x m (nI i)) []) : WA G F (mL_law nm) h cells slots Q 254 (lvL b x m (nI i)) [] := by
  obtain ⟨t, e, u, M0, E, H, V, c, hu, hn⟩ := I
  have B := V.1.1
  refine r_aload_n (pc := 254) C dL_law_254 rfl rfl ?_
  refine r_aload_n (pc := 255) C dL_law_255 rfl rfl ?_
  refine r_iload_n (pc := 256) C dL_law_256 rfl rfl ?_
  refine r_iconst (pc := 257) (v := (nI 1)) C dL_law_257 (by decide) ?_
  refine n_iadd (pc := 258) C dL_law_258 ?_
  refine n_sld (pc := 259) C hX hbl (by omega) (by omega) dL_law_259 ?_
  refine r_aload_n (pc := 260) C dL_law_260 rfl rfl ?_
  refine r_iload_n (pc := 261) C dL_law_261 rfl rfl ?_
  refine r_iconst (pc := 262) (v := (nI 2)) C dL_law_262 (by decide) ?_
  refine n_iadd (pc := 263) C dL_law_263 ?_
  refine n_sld (pc := 264) C hX hbl (by omega) (by omega) dL_law_264 ?_
  refine r_i2l (pc := 265) C dL_law_265 ?_
  refine r_bipush (pc := 266) (v := (nI 32)) C dL_law_266 (by decide) ?_
  refine r_lshl (pc := 268) C dL_law_268 ?_
  refine r_aload_n (pc := 269) C dL_law_269 rfl rfl ?_
  refine r_iload_n (pc := 270) C dL_law_270 rfl rfl ?_
  refine r_iconst (pc := 271) (v := (nI 3)) C dL_law_271 (by decide) ?_
  refine n_iadd (pc := 272) C dL_law_272 ?_
  refine n_sld (pc := 273) C hX hbl (by omega) (by omega) dL_law_273 ?_
  refine r_i2l (pc := 274) C dL_law_274 ?_
  refine r_ldc2 (pc := 275) C hcl dL_law_275 ?_
  refine r_land (pc := 278) C dL_law_278 ?_
  refine r_lor (pc := 279) C dL_law_279 ?_
  refine r_calli (cr_V (pc := 280) C (c_X5_feed E B H V.1.2.1.2.2.1 _ _) dL_law_280 cm_X5_feed ml_L_41 im_X5_feed se_X5_feed E.L.o rfl ⟨⟨Nat.le_of_ble_eq_true rfl, Nat.le_of_ble_eq_true rfl⟩, (by show cells + 0 ≤ 600000; omega), (by show slots + 0 ≤ 7302250; omega)⟩ rfl rfl (Nat.le_of_ble_eq_true rfl)) (fun v280 h280 hq280 => ?_)
  obtain ⟨rfl, ⟨e1, E1, H1⟩, K1, n1⟩ := (XP.xm E hn hq280)
  have M1 := M0.kp K1
  refine r_aload_n (pc := 283) C dL_law_283 rfl rfl ?_
  refine r_aload_n (pc := 284) C dL_law_284 rfl rfl ?_
  refine r_iload_n (pc := 285) C dL_law_285 rfl rfl ?_
  refine r_iconst (pc := 286) (v := (nI 1)) C dL_law_286 (by decide) ?_
  refine n_iadd (pc := 287) C dL_law_287 ?_
  refine n_sld (pc := 288) C hX hbl (by omega) (by omega) dL_law_288 ?_
  refine r_aload_n (pc := 289) C dL_law_289 rfl rfl ?_
  refine r_iload_n (pc := 290) C dL_law_290 rfl rfl ?_
  refine r_iconst (pc := 291) (v := (nI 2)) C dL_law_291 (by decide) ?_
  refine n_iadd (pc := 292) C dL_law_292 ?_
  refine n_sld (pc := 293) C hX hbl (by omega) (by omega) dL_law_293 ?_
  refine r_i2l (pc := 294) C dL_law_294 ?_
  refine r_bipush (pc := 295) (v := (nI 32)) C dL_law_295 (by decide) ?_
  refine r_lshl (pc := 297) C dL_law_297 ?_
  refine r_aload_n (pc := 298) C dL_law_298 rfl rfl ?_
  refine r_iload_n (pc := 299) C dL_law_299 rfl rfl ?_
  refine r_iconst (pc := 300) (v := (nI 3)) C dL_law_300 (by decide) ?_
  refine n_iadd (pc := 301) C dL_law_301 ?_
  refine n_sld (pc := 302) C hX hbl (by omega) (by omega) dL_law_302 ?_
  refine r_i2l (pc := 303) C dL_law_303 ?_
  refine r_ldc2 (pc := 304) C hcl dL_law_304 ?_
  refine r_land (pc := 307) C dL_law_307 ?_
  refine r_lor (pc := 308) C dL_law_308 ?_
  refine r_calli (cr_V (pc := 309) C (c_X6_feed M1 B _ _) dL_law_309 cm_X6_feed ml_L_45 im_X6_feed se_X6_feed M1.L.o rfl ⟨⟨Nat.le_of_ble_eq_true rfl, Nat.le_of_ble_eq_true rfl⟩, (by show cells + 0 + 0 ≤ 600000; omega), (by show slots + 0 + 0 ≤ 7302250; omega)⟩ rfl rfl (Nat.le_of_ble_eq_true rfl)) (fun v309 h309 hq309 => ?_)
  obtain ⟨rfl, M2, f2⟩ := hq309
  refine r_icmp_eq (pc := 312) (tgt := 1068) C dL_law_312 (by decide) (fun c312 => ?_) (fun c312 => absurd c312 (fun z => z rfl))
  obtain ⟨V', c'⟩ := IV.spFeed V c _ _
  exact WA.widen (by omega) (by omega) (k _ ⟨_, e1, u, M2, E1.fr f2, H1, V', c', by omega, by rw [f2.1]; exact n1⟩)
theorem lc_turn (C : CX G F (mL_law nm) room_1) (hX : va_X b L xs (fs F) (gH G)) (hbl : b < gb G) (hL : L ≤ 385) (hi : i + 6 ≤ L) (hn64 : n ≤ 100) (I : LI x m n h) (hc : cells + 7 ≤ 600000) (hsl : slots + 543 ≤ 7302250) (k : ∀ h', LI x m (n + 1) h' → WA G F (mL_law nm) h' (cells + 7) (slots + 543) Q 1068 (lvL b x m (nI i)) []) : WA G F (mL_law nm) h cells slots Q 317 (lvL b x m (nI i)) [] := by
  obtain ⟨t, e, u, M0, E, H, V, c, hu, hn⟩ := I
  have B := V.1.1
  refine r_aload_n (pc := 317) C dL_law_317 rfl rfl ?_
  refine r_aload_n (pc := 318) C dL_law_318 rfl rfl ?_
  refine r_iload_n (pc := 319) C dL_law_319 rfl rfl ?_
  refine r_iconst (pc := 320) (v := (nI 1)) C dL_law_320 (by decide) ?_
  refine n_iadd (pc := 321) C dL_law_321 ?_
  refine n_sld (pc := 322) C hX hbl (by omega) (by omega) dL_law_322 ?_
  refine r_aload_n (pc := 323) C dL_law_323 rfl rfl ?_
  refine r_iload_n (pc := 324) C dL_law_324 rfl rfl ?_
  refine r_iconst (pc := 325) (v := (nI 2)) C dL_law_325 (by decide) ?_
  refine n_iadd (pc := 326) C dL_law_326 ?_
  refine n_sld (pc := 327) C hX hbl (by omega) (by omega) dL_law_327 ?_
  refine r_calli (cr_V (pc := 328) C (c_X5_turn E V.cg H _ _) dL_law_328 cm_X5_turn ml_L_46 im_X5_turn se_X5_turn E.L.o rfl ⟨⟨Nat.le_of_ble_eq_true rfl, Nat.le_of_ble_eq_true rfl⟩, (by show cells + 0 ≤ 600000; omega), (by show slots + 0 ≤ 7302250; omega)⟩ rfl rfl (Nat.le_of_ble_eq_true rfl)) (fun v328 h328 hq328 => ?_)
  obtain ⟨rfl, ⟨e1, E1, H1⟩, K1, n1⟩ := (XP.xm E hn hq328)
  have M1 := M0.kp K1
  refine r_aload_n (pc := 331) C dL_law_331 rfl rfl ?_
  refine r_aload_n (pc := 332) C dL_law_332 rfl rfl ?_
  refine r_iload_n (pc := 333) C dL_law_333 rfl rfl ?_
  refine r_iconst (pc := 334) (v := (nI 1)) C dL_law_334 (by decide) ?_
  refine n_iadd (pc := 335) C dL_law_335 ?_
  refine n_sld (pc := 336) C hX hbl (by omega) (by omega) dL_law_336 ?_
  refine r_aload_n (pc := 337) C dL_law_337 rfl rfl ?_
  refine r_iload_n (pc := 338) C dL_law_338 rfl rfl ?_
  refine r_iconst (pc := 339) (v := (nI 2)) C dL_law_339 (by decide) ?_
  refine n_iadd (pc := 340) C dL_law_340 ?_
  refine n_sld (pc := 341) C hX hbl (by omega) (by omega) dL_law_341 ?_
  refine r_calli (cr_V (pc := 342) C (c_X6_turn M1 V.tg _ _) dL_law_342 cm_X6_turn ml_L_49 im_X6_turn se_X6_turn M1.L.o rfl ⟨⟨Nat.le_of_ble_eq_true rfl, Nat.le_of_ble_eq_true rfl⟩, (by show cells + 0 + 0 ≤ 600000; omega), (by show slots + 0 + 0 ≤ 7302250; omega)⟩ rfl rfl (Nat.le_of_ble_eq_true rfl)) (fun v342 h342 hq342 => ?_)
  obtain ⟨rfl, M2, f2⟩ := hq342
  refine r_icmp_eq (pc := 345) (tgt := 1068) C dL_law_345 (by decide) (fun c345 => ?_) (fun c345 => absurd c345 (fun z => z rfl))
  obtain ⟨V', u', hu', c'⟩ := IV.spTurnP V c _ _
  exact WA.widen (by omega) (by omega) (k _ ⟨_, e1, u', M2, E1.fr f2, H1, V', c', by omega, by rw [f2.1]; exact n1⟩)
theorem lc_run (C : CX G F (mL_law nm) room_1) (hX : va_X b L xs (fs F) (gH G)) (hbl : b < gb G) (hL : L ≤ 385) (hi : i + 6 ≤ L) (hn64 : n ≤ 100) (I : LI x m n h) (hc : cells + 7 ≤ 600000) (hsl : slots + 543 ≤ 7302250) (k : ∀ h', LI x m (n + 1) h' → WA G F (mL_law nm) h' (cells + 7) (slots + 543) Q 1068 (lvL b x m (nI i)) []) : WA G F (mL_law nm) h cells slots Q 350 (lvL b x m (nI i)) [] := by
  obtain ⟨t, e, u, M0, E, H, V, c, hu, hn⟩ := I
  have B := V.1.1
  refine r_aload_n (pc := 350) C dL_law_350 rfl rfl ?_
  refine r_aload_n (pc := 351) C dL_law_351 rfl rfl ?_
  refine r_iload_n (pc := 352) C dL_law_352 rfl rfl ?_
  refine r_iconst (pc := 353) (v := (nI 1)) C dL_law_353 (by decide) ?_
  refine n_iadd (pc := 354) C dL_law_354 ?_
  refine n_sld (pc := 355) C hX hbl (by omega) (by omega) dL_law_355 ?_
  refine r_calli (cr_V (pc := 356) C (c_X5_run E H IV.jd V _) dL_law_356 cm_X5_run ml_L_50 im_X5_run se_X5_run E.L.o rfl ⟨⟨Nat.le_of_ble_eq_true rfl, Nat.le_of_ble_eq_true rfl⟩, (by show cells + 0 ≤ 600000; omega), (by show slots + 0 ≤ 7302250; omega)⟩ rfl rfl (Nat.le_of_ble_eq_true rfl)) (fun v356 h356 hq356 => ?_)
  obtain ⟨rfl, ⟨e1, E1, H1⟩, K1, n1⟩ := (XP.xm E hn hq356)
  have M1 := M0.kp K1
  refine r_aload_n (pc := 359) C dL_law_359 rfl rfl ?_
  refine r_aload_n (pc := 360) C dL_law_360 rfl rfl ?_
  refine r_iload_n (pc := 361) C dL_law_361 rfl rfl ?_
  refine r_iconst (pc := 362) (v := (nI 1)) C dL_law_362 (by decide) ?_
  refine n_iadd (pc := 363) C dL_law_363 ?_
  refine n_sld (pc := 364) C hX hbl (by omega) (by omega) dL_law_364 ?_
  refine r_calli (cr_V (pc := 365) C (c_X6_run M1 IV.jc V _) dL_law_365 cm_X6_run ml_L_53 im_X6_run se_X6_run M1.L.o rfl ⟨⟨Nat.le_of_ble_eq_true rfl, Nat.le_of_ble_eq_true rfl⟩, (by show cells + 0 + 0 ≤ 600000; omega), (by show slots + 0 + 0 ≤ 7302250; omega)⟩ rfl rfl (Nat.le_of_ble_eq_true rfl)) (fun v365 h365 hq365 => ?_)
  obtain ⟨rfl, M2, f2⟩ := hq365
  refine r_icmp_eq (pc := 368) (tgt := 1068) C dL_law_368 (by decide) (fun c368 => ?_) (fun c368 => absurd c368 (fun z => z rfl))
  obtain ⟨V', u', hu', c'⟩ := IV.spRun V c _
  exact WA.widen (by omega) (by omega) (k _ ⟨_, e1, u', M2, E1.fr f2, H1, V', c', by omega, by rw [f2.1]; exact n1⟩)
theorem lc_mark (C : CX G F (mL_law nm) room_1) (hX : va_X b L xs (fs F) (gH G)) (hbl : b < gb G) (hL : L ≤ 385) (hi : i + 6 ≤ L) (hn64 : n ≤ 100) (I : LI x m n h) (hc : cells + 7 ≤ 600000) (hsl : slots + 543 ≤ 7302250) (k : ∀ h', LI x m (n + 1) h' → WA G F (mL_law nm) h' (cells + 7) (slots + 543) Q 1068 (lvL b x m (nI i)) []) : WA G F (mL_law nm) h cells slots Q 373 (lvL b x m (nI i)) [] := by
  obtain ⟨t, e, u, M0, E, H, V, c, hu, hn⟩ := I
  have B := V.1.1
  refine r_aload_n (pc := 373) C dL_law_373 rfl rfl ?_
  refine r_calli (cr_V (pc := 374) C (c_X5_mark E B H (fun _ => V.1.2.2.1.2.2.2.2 _ (Nat.le_refl _)) hn) dL_law_374 cm_X5_mark ml_L_54 im_X5_mark se_X5_mark E.L.o rfl ⟨⟨Nat.le_of_ble_eq_true rfl, Nat.le_of_ble_eq_true rfl⟩, (by show cells + 7 ≤ 600000; omega), (by show slots + 543 ≤ 7302250; omega)⟩ rfl rfl (Nat.le_of_ble_eq_true rfl)) (fun v374 h374 hq374 => ?_)
  obtain ⟨rfl, ⟨e1, E1, H1⟩, K1, n1⟩ := hq374
  have M1 := M0.kp K1
  refine r_aload_n (pc := 377) C dL_law_377 rfl rfl ?_
  refine r_calli (cr_V (pc := 378) C (c_X6_mark M1 B) dL_law_378 cm_X6_mark ml_L_58 im_X6_mark se_X6_mark M1.L.o rfl ⟨⟨Nat.le_of_ble_eq_true rfl, Nat.le_of_ble_eq_true rfl⟩, (by show cells + 7 + 0 ≤ 600000; omega), (by show slots + 543 + 0 ≤ 7302250; omega)⟩ rfl rfl (Nat.le_of_ble_eq_true rfl)) (fun v378 h378 hq378 => ?_)
  obtain ⟨rfl, M2, f2⟩ := hq378
  refine r_icmp_eq (pc := 381) (tgt := 1068) C dL_law_381 (by decide) (fun c381 => ?_) (fun c381 => absurd c381 (fun z => z rfl))
  obtain ⟨V', c'⟩ := IV.spMark V c
  exact WA.widen (by omega) (by omega) (k _ ⟨_, e1, u, M2, E1.fr f2, H1, V', c', by omega, by rw [f2.1]; exact n1⟩)
theorem lc_giveUp (C : CX G F (mL_law nm) room_1) (hX : va_X b L xs (fs F) (gH G)) (hbl : b < gb G) (hL : L ≤ 385) (hi : i + 6 ≤ L) (hn64 : n ≤ 100) (I : LI x m n h) (hc : cells + 7 ≤ 600000) (hsl : slots + 543 ≤ 7302250) (k : ∀ h', LI x m (n + 1) h' → WA G F (mL_law nm) h' (cells + 7) (slots + 543) Q 1068 (lvL b x m (nI i)) []) : WA G F (mL_law nm) h cells slots Q 386 (lvL b x m (nI i)) [] := by
  obtain ⟨t, e, u, M0, E, H, V, c, hu, hn⟩ := I
  have B := V.1.1
  refine r_aload_n (pc := 386) C dL_law_386 rfl rfl ?_
  refine r_calli (cr_V (pc := 387) C (c_X5_giveUp E B H) dL_law_387 cm_X5_giveUp ml_L_59 im_X5_giveUp se_X5_giveUp E.L.o rfl ⟨⟨Nat.le_of_ble_eq_true rfl, Nat.le_of_ble_eq_true rfl⟩, (by show cells + 0 ≤ 600000; omega), (by show slots + 0 ≤ 7302250; omega)⟩ rfl rfl (Nat.le_of_ble_eq_true rfl)) (fun v387 h387 hq387 => ?_)
  obtain ⟨rfl, ⟨e1, E1, H1⟩, K1, n1⟩ := (XP.xm E hn hq387)
  have M1 := M0.kp K1
  refine r_aload_n (pc := 390) C dL_law_390 rfl rfl ?_
  refine r_calli (cr_V (pc := 391) C (c_X6_giveUp M1 B) dL_law_391 cm_X6_giveUp ml_L_62 im_X6_giveUp se_X6_giveUp M1.L.o rfl ⟨⟨Nat.le_of_ble_eq_true rfl, Nat.le_of_ble_eq_true rfl⟩, (by show cells + 0 + 0 ≤ 600000; omega), (by show slots + 0 + 0 ≤ 7302250; omega)⟩ rfl rfl (Nat.le_of_ble_eq_true rfl)) (fun v391 h391 hq391 => ?_)
  obtain ⟨rfl, M2, f2⟩ := hq391
  refine r_icmp_eq (pc := 394) (tgt := 1068) C dL_law_394 (by decide) (fun c394 => ?_) (fun c394 => absurd c394 (fun z => z rfl))
  obtain ⟨V', c'⟩ := IV.spGive V c
  exact WA.widen (by omega) (by omega) (k _ ⟨_, e1, u, M2, E1.fr f2, H1, V', c', by omega, by rw [f2.1]; exact n1⟩)
theorem lc_restore (C : CX G F (mL_law nm) room_1) (hX : va_X b L xs (fs F) (gH G)) (hbl : b < gb G) (hL : L ≤ 385) (hi : i + 6 ≤ L) (hn64 : n ≤ 100) (I : LI x m n h) (hc : cells + 7 ≤ 600000) (hsl : slots + 543 ≤ 7302250) (k : ∀ h', LI x m (n + 1) h' → WA G F (mL_law nm) h' (cells + 7) (slots + 543) Q 1068 (lvL b x m (nI i)) []) : WA G F (mL_law nm) h cells slots Q 399 (lvL b x m (nI i)) [] := by
  obtain ⟨t, e, u, M0, E, H, V, c, hu, hn⟩ := I
  have B := V.1.1
  refine r_aload_n (pc := 399) C dL_law_399 rfl rfl ?_
  refine r_aload_n (pc := 400) C dL_law_400 rfl rfl ?_
  refine r_iload_n (pc := 401) C dL_law_401 rfl rfl ?_
  refine r_iconst (pc := 402) (v := (nI 1)) C dL_law_402 (by decide) ?_
  refine n_iadd (pc := 403) C dL_law_403 ?_
  refine n_sld (pc := 404) C hX hbl (by omega) (by omega) dL_law_404 ?_
  refine r_aload_n (pc := 405) C dL_law_405 rfl rfl ?_
  refine r_iload_n (pc := 406) C dL_law_406 rfl rfl ?_
  refine r_iconst (pc := 407) (v := (nI 2)) C dL_law_407 (by decide) ?_
  refine n_iadd (pc := 408) C dL_law_408 ?_
  refine n_sld (pc := 409) C hX hbl (by omega) (by omega) dL_law_409 ?_
  refine r_aload_n (pc := 410) C dL_law_410 rfl rfl ?_
  refine r_iload_n (pc := 411) C dL_law_411 rfl rfl ?_
  refine r_iconst (pc := 412) (v := (nI 3)) C dL_law_412 (by decide) ?_
  refine n_iadd (pc := 413) C dL_law_413 ?_
  refine n_sld (pc := 414) C hX hbl (by omega) (by omega) dL_law_414 ?_
  refine r_aload_n (pc := 415) C dL_law_415 rfl rfl ?_
  refine r_iload_n (pc := 416) C dL_law_416 rfl rfl ?_
  refine r_iconst (pc := 417) (v := (nI 4)) C dL_law_417 (by decide) ?_
  refine n_iadd (pc := 418) C dL_law_418 ?_
  refine n_sld (pc := 419) C hX hbl (by omega) (by omega) dL_law_419 ?_
  refine r_aload_n (pc := 420) C dL_law_420 rfl rfl ?_
  refine r_iload_n (pc := 421) C dL_law_421 rfl rfl ?_
  refine r_iconst (pc := 422) (v := (nI 5)) C dL_law_422 (by decide) ?_
  refine n_iadd (pc := 423) C dL_law_423 ?_
  refine n_sld (pc := 424) C hX hbl (by omega) (by omega) dL_law_424 ?_
  refine r_calli (cr_V (pc := 425) C (c_X5_restore E B H V.1.2.2.1.2.2.1 (fun j hj h9 => V.kd hj h9) _ _ _ _ _) dL_law_425 cm_X5_restore ml_L_63 im_X5_restore se_X5_restore E.L.o rfl ⟨⟨Nat.le_of_ble_eq_true rfl, Nat.le_of_ble_eq_true rfl⟩, (by show cells + 0 ≤ 600000; omega), (by show slots + 0 ≤ 7302250; omega)⟩ rfl rfl (Nat.le_of_ble_eq_true rfl)) (fun v425 h425 hq425 => ?_)
  obtain ⟨rfl, ⟨e1, E1, H1⟩, K1, n1⟩ := (XP.xm E hn hq425)
  have M1 := M0.kp K1
  refine r_aload_n (pc := 428) C dL_law_428 rfl rfl ?_
  refine r_aload_n (pc := 429) C dL_law_429 rfl rfl ?_
  refine r_iload_n (pc := 430) C dL_law_430 rfl rfl ?_
  refine r_iconst (pc := 431) (v := (nI 1)) C dL_law_431 (by decide) ?_
  refine n_iadd (pc := 432) C dL_law_432 ?_
  refine n_sld (pc := 433) C hX hbl (by omega) (by omega) dL_law_433 ?_
  refine r_aload_n (pc := 434) C dL_law_434 rfl rfl ?_
  refine r_iload_n (pc := 435) C dL_law_435 rfl rfl ?_
  refine r_iconst (pc := 436) (v := (nI 2)) C dL_law_436 (by decide) ?_
  refine n_iadd (pc := 437) C dL_law_437 ?_
  refine n_sld (pc := 438) C hX hbl (by omega) (by omega) dL_law_438 ?_
  refine r_aload_n (pc := 439) C dL_law_439 rfl rfl ?_
  refine r_iload_n (pc := 440) C dL_law_440 rfl rfl ?_
  refine r_iconst (pc := 441) (v := (nI 3)) C dL_law_441 (by decide) ?_
  refine n_iadd (pc := 442) C dL_law_442 ?_
  refine n_sld (pc := 443) C hX hbl (by omega) (by omega) dL_law_443 ?_
  refine r_aload_n (pc := 444) C dL_law_444 rfl rfl ?_
  refine r_iload_n (pc := 445) C dL_law_445 rfl rfl ?_
  refine r_iconst (pc := 446) (v := (nI 4)) C dL_law_446 (by decide) ?_
  refine n_iadd (pc := 447) C dL_law_447 ?_
  refine n_sld (pc := 448) C hX hbl (by omega) (by omega) dL_law_448 ?_
  refine r_aload_n (pc := 449) C dL_law_449 rfl rfl ?_
  refine r_iload_n (pc := 450) C dL_law_450 rfl rfl ?_
  refine r_iconst (pc := 451) (v := (nI 5)) C dL_law_451 (by decide) ?_
  refine n_iadd (pc := 452) C dL_law_452 ?_
  refine n_sld (pc := 453) C hX hbl (by omega) (by omega) dL_law_453 ?_
  refine r_calli (cr_V (pc := 454) C (c_X6_restore M1 B (fun z c => (V.1.2.2.1.2.2.1 z c).1) _ _ _ _ _) dL_law_454 cm_X6_restore ml_L_67 im_X6_restore se_X6_restore M1.L.o rfl ⟨⟨Nat.le_of_ble_eq_true rfl, Nat.le_of_ble_eq_true rfl⟩, (by show cells + 0 + 0 ≤ 600000; omega), (by show slots + 0 + 0 ≤ 7302250; omega)⟩ rfl rfl (Nat.le_of_ble_eq_true rfl)) (fun v454 h454 hq454 => ?_)
  obtain ⟨rfl, M2, f2⟩ := hq454
  refine r_icmp_eq (pc := 457) (tgt := 1068) C dL_law_457 (by decide) (fun c457 => ?_) (fun c457 => absurd c457 (fun z => z rfl))
  obtain ⟨V', c'⟩ := IV.spRest V c _ _ _ _ _
  exact WA.widen (by omega) (by omega) (k _ ⟨_, e1, u, M2, E1.fr f2, H1, V', c', by omega, by rw [f2.1]; exact n1⟩)
theorem lc_about (C : CX G F (mL_law nm) room_1) (hX : va_X b L xs (fs F) (gH G)) (hbl : b < gb G) (hL : L ≤ 385) (hi : i + 6 ≤ L) (hn64 : n ≤ 100) (I : LI x m n h) (hc : cells + 7 ≤ 600000) (hsl : slots + 543 ≤ 7302250) (k : ∀ h', LI x m (n + 1) h' → WA G F (mL_law nm) h' (cells + 7) (slots + 543) Q 1068 (lvL b x m (nI i)) []) : WA G F (mL_law nm) h cells slots Q 462 (lvL b x m (nI i)) [] := by
  obtain ⟨t, e, u, M0, E, H, V, c, hu, hn⟩ := I
  have B := V.1.1
  refine r_aload_n (pc := 462) C dL_law_462 rfl rfl ?_
  refine r_aload_n (pc := 463) C dL_law_463 rfl rfl ?_
  refine r_iload_n (pc := 464) C dL_law_464 rfl rfl ?_
  refine r_iconst (pc := 465) (v := (nI 1)) C dL_law_465 (by decide) ?_
  refine n_iadd (pc := 466) C dL_law_466 ?_
  refine n_sld (pc := 467) C hX hbl (by omega) (by omega) dL_law_467 ?_
  refine r_calli (cr_V (pc := 468) C (c_X5_about E B V.rd V.hs _) dL_law_468 cm_X5_about ml_L_68 im_X5_about se_X5_about E.L.o rfl ⟨⟨Nat.le_of_ble_eq_true rfl, Nat.le_of_ble_eq_true rfl⟩, (by show cells + 0 ≤ 600000; omega), (by show slots + 0 ≤ 7302250; omega)⟩ rfl rfl (Nat.le_of_ble_eq_true rfl)) (fun v468 h468 hq468 => ?_)
  obtain ⟨rfl, rfl⟩ := hq468
  refine r_aload_n (pc := 471) C dL_law_471 rfl rfl ?_
  refine r_aload_n (pc := 472) C dL_law_472 rfl rfl ?_
  refine r_iload_n (pc := 473) C dL_law_473 rfl rfl ?_
  refine r_iconst (pc := 474) (v := (nI 1)) C dL_law_474 (by decide) ?_
  refine n_iadd (pc := 475) C dL_law_475 ?_
  refine n_sld (pc := 476) C hX hbl (by omega) (by omega) dL_law_476 ?_
  refine r_calli (cr_V (pc := 477) C (c_X6_about M0 B _) dL_law_477 cm_X6_about ml_L_71 im_X6_about se_X6_about M0.L.o rfl ⟨⟨Nat.le_of_ble_eq_true rfl, Nat.le_of_ble_eq_true rfl⟩, (by show cells + 0 + 0 ≤ 600000; omega), (by show slots + 0 + 0 ≤ 7302250; omega)⟩ rfl rfl (Nat.le_of_ble_eq_true rfl)) (fun v477 h477 hq477 => ?_)
  obtain ⟨rfl, rfl⟩ := hq477
  refine r_icmp_eq (pc := 480) (tgt := 1068) C dL_law_480 (by decide) (fun c480 => ?_) (fun c480 => absurd c480 (fun z => z rfl))
  exact WA.widen (by omega) (by omega) (k _ ⟨t, e, u, M0, E, H, V, c, by omega, hn⟩)
theorem lc_many (C : CX G F (mL_law nm) room_1) (hX : va_X b L xs (fs F) (gH G)) (hbl : b < gb G) (hL : L ≤ 385) (hi : i + 6 ≤ L) (hn64 : n ≤ 100) (I : LI x m n h) (hc : cells + 7 ≤ 600000) (hsl : slots + 543 ≤ 7302250) (k : ∀ h', LI x m (n + 1) h' → WA G F (mL_law nm) h' (cells + 7) (slots + 543) Q 1068 (lvL b x m (nI i)) []) : WA G F (mL_law nm) h cells slots Q 485 (lvL b x m (nI i)) [] := by
  obtain ⟨t, e, u, M0, E, H, V, c, hu, hn⟩ := I
  have B := V.1.1
  refine r_aload_n (pc := 485) C dL_law_485 rfl rfl ?_
  refine r_aload_n (pc := 486) C dL_law_486 rfl rfl ?_
  refine r_iload_n (pc := 487) C dL_law_487 rfl rfl ?_
  refine r_iconst (pc := 488) (v := (nI 1)) C dL_law_488 (by decide) ?_
  refine n_iadd (pc := 489) C dL_law_489 ?_
  refine n_sld (pc := 490) C hX hbl (by omega) (by omega) dL_law_490 ?_
  refine r_aload_n (pc := 491) C dL_law_491 rfl rfl ?_
  refine r_iload_n (pc := 492) C dL_law_492 rfl rfl ?_
  refine r_iconst (pc := 493) (v := (nI 2)) C dL_law_493 (by decide) ?_
  refine n_iadd (pc := 494) C dL_law_494 ?_
  refine n_sld (pc := 495) C hX hbl (by omega) (by omega) dL_law_495 ?_
  refine r_calli (cr_V (pc := 496) C (c_X5_many E B _ _) dL_law_496 cm_X5_many ml_L_72 im_X5_many se_X5_many E.L.o rfl ⟨⟨Nat.le_of_ble_eq_true rfl, Nat.le_of_ble_eq_true rfl⟩, (by show cells + 0 ≤ 600000; omega), (by show slots + 0 ≤ 7302250; omega)⟩ rfl rfl (Nat.le_of_ble_eq_true rfl)) (fun v496 h496 hq496 => ?_)
  obtain ⟨rfl, rfl⟩ := hq496
  refine r_aload_n (pc := 499) C dL_law_499 rfl rfl ?_
  refine r_aload_n (pc := 500) C dL_law_500 rfl rfl ?_
  refine r_iload_n (pc := 501) C dL_law_501 rfl rfl ?_
  refine r_iconst (pc := 502) (v := (nI 1)) C dL_law_502 (by decide) ?_
  refine n_iadd (pc := 503) C dL_law_503 ?_
  refine n_sld (pc := 504) C hX hbl (by omega) (by omega) dL_law_504 ?_
  refine r_aload_n (pc := 505) C dL_law_505 rfl rfl ?_
  refine r_iload_n (pc := 506) C dL_law_506 rfl rfl ?_
  refine r_iconst (pc := 507) (v := (nI 2)) C dL_law_507 (by decide) ?_
  refine n_iadd (pc := 508) C dL_law_508 ?_
  refine n_sld (pc := 509) C hX hbl (by omega) (by omega) dL_law_509 ?_
  refine r_calli (cr_V (pc := 510) C (c_X6_many M0 B _ _) dL_law_510 cm_X6_many ml_L_75 im_X6_many se_X6_many M0.L.o rfl ⟨⟨Nat.le_of_ble_eq_true rfl, Nat.le_of_ble_eq_true rfl⟩, (by show cells + 0 + 0 ≤ 600000; omega), (by show slots + 0 + 0 ≤ 7302250; omega)⟩ rfl rfl (Nat.le_of_ble_eq_true rfl)) (fun v510 h510 hq510 => ?_)
  obtain ⟨rfl, rfl⟩ := hq510
  refine r_icmp_eq (pc := 513) (tgt := 1068) C dL_law_513 (by decide) (fun c513 => ?_) (fun c513 => absurd c513 (fun z => z rfl))
  exact WA.widen (by omega) (by omega) (k _ ⟨t, e, u, M0, E, H, V, c, by omega, hn⟩)
theorem lc_sum (C : CX G F (mL_law nm) room_1) (hX : va_X b L xs (fs F) (gH G)) (hbl : b < gb G) (hL : L ≤ 385) (hi : i + 6 ≤ L) (hn64 : n ≤ 100) (I : LI x m n h) (hc : cells + 7 ≤ 600000) (hsl : slots + 543 ≤ 7302250) (k : ∀ h', LI x m (n + 1) h' → WA G F (mL_law nm) h' (cells + 7) (slots + 543) Q 1068 (lvL b x m (nI i)) []) : WA G F (mL_law nm) h cells slots Q 518 (lvL b x m (nI i)) [] := by
  obtain ⟨t, e, u, M0, E, H, V, c, hu, hn⟩ := I
  have B := V.1.1
  refine r_aload_n (pc := 518) C dL_law_518 rfl rfl ?_
  refine r_aload_n (pc := 519) C dL_law_519 rfl rfl ?_
  refine r_iload_n (pc := 520) C dL_law_520 rfl rfl ?_
  refine r_iconst (pc := 521) (v := (nI 1)) C dL_law_521 (by decide) ?_
  refine n_iadd (pc := 522) C dL_law_522 ?_
  refine n_sld (pc := 523) C hX hbl (by omega) (by omega) dL_law_523 ?_
  refine r_aload_n (pc := 524) C dL_law_524 rfl rfl ?_
  refine r_iload_n (pc := 525) C dL_law_525 rfl rfl ?_
  refine r_iconst (pc := 526) (v := (nI 2)) C dL_law_526 (by decide) ?_
  refine n_iadd (pc := 527) C dL_law_527 ?_
  refine n_sld (pc := 528) C hX hbl (by omega) (by omega) dL_law_528 ?_
  refine r_calll (cr_V (pc := 529) C (c_X5_sum E B _ _) dL_law_529 cm_X5_sum ml_L_76 im_X5_sum se_X5_sum E.L.o rfl ⟨⟨Nat.le_of_ble_eq_true rfl, Nat.le_of_ble_eq_true rfl⟩, (by show cells + 0 ≤ 600000; omega), (by show slots + 0 ≤ 7302250; omega)⟩ rfl rfl (Nat.le_of_ble_eq_true rfl)) (fun v529 h529 hq529 => ?_)
  obtain ⟨rfl, rfl⟩ := hq529
  refine r_aload_n (pc := 532) C dL_law_532 rfl rfl ?_
  refine r_aload_n (pc := 533) C dL_law_533 rfl rfl ?_
  refine r_iload_n (pc := 534) C dL_law_534 rfl rfl ?_
  refine r_iconst (pc := 535) (v := (nI 1)) C dL_law_535 (by decide) ?_
  refine n_iadd (pc := 536) C dL_law_536 ?_
  refine n_sld (pc := 537) C hX hbl (by omega) (by omega) dL_law_537 ?_
  refine r_aload_n (pc := 538) C dL_law_538 rfl rfl ?_
  refine r_iload_n (pc := 539) C dL_law_539 rfl rfl ?_
  refine r_iconst (pc := 540) (v := (nI 2)) C dL_law_540 (by decide) ?_
  refine n_iadd (pc := 541) C dL_law_541 ?_
  refine n_sld (pc := 542) C hX hbl (by omega) (by omega) dL_law_542 ?_
  refine r_calll (cr_V (pc := 543) C (c_X6_sum M0 B _ _) dL_law_543 cm_X6_sum ml_L_80 im_X6_sum se_X6_sum M0.L.o rfl ⟨⟨Nat.le_of_ble_eq_true rfl, Nat.le_of_ble_eq_true rfl⟩, (by show cells + 0 + 0 ≤ 600000; omega), (by show slots + 0 + 0 ≤ 7302250; omega)⟩ rfl rfl (Nat.le_of_ble_eq_true rfl)) (fun v543 h543 hq543 => ?_)
  obtain ⟨rfl, rfl⟩ := hq543
  refine r_lcmp (pc := 546) C dL_law_546 ?_
  refine r_if_eq (pc := 547) (tgt := 1068) C dL_law_547 (by decide) (fun c547 => ?_) (fun c547 => absurd c547 (fun z => z (lg_cmp0 rfl)))
  exact WA.widen (by omega) (by omega) (k _ ⟨t, e, u, M0, E, H, V, c, by omega, hn⟩)
theorem lc_task (C : CX G F (mL_law nm) room_1) (hX : va_X b L xs (fs F) (gH G)) (hbl : b < gb G) (hL : L ≤ 385) (hi : i + 6 ≤ L) (hn64 : n ≤ 100) (I : LI x m n h) (hc : cells + 7 ≤ 600000) (hsl : slots + 543 ≤ 7302250) (k : ∀ h', LI x m (n + 1) h' → WA G F (mL_law nm) h' (cells + 7) (slots + 543) Q 1068 (lvL b x m (nI i)) []) : WA G F (mL_law nm) h cells slots Q 552 (lvL b x m (nI i)) [] := by
  obtain ⟨t, e, u, M0, E, H, V, c, hu, hn⟩ := I
  have B := V.1.1
  refine r_aload_n (pc := 552) C dL_law_552 rfl rfl ?_
  refine r_aload_n (pc := 553) C dL_law_553 rfl rfl ?_
  refine r_iload_n (pc := 554) C dL_law_554 rfl rfl ?_
  refine r_iconst (pc := 555) (v := (nI 1)) C dL_law_555 (by decide) ?_
  refine n_iadd (pc := 556) C dL_law_556 ?_
  refine n_sld (pc := 557) C hX hbl (by omega) (by omega) dL_law_557 ?_
  refine r_aload_n (pc := 558) C dL_law_558 rfl rfl ?_
  refine r_iload_n (pc := 559) C dL_law_559 rfl rfl ?_
  refine r_iconst (pc := 560) (v := (nI 2)) C dL_law_560 (by decide) ?_
  refine n_iadd (pc := 561) C dL_law_561 ?_
  refine n_sld (pc := 562) C hX hbl (by omega) (by omega) dL_law_562 ?_
  refine r_aload_n (pc := 563) C dL_law_563 rfl rfl ?_
  refine r_iload_n (pc := 564) C dL_law_564 rfl rfl ?_
  refine r_iconst (pc := 565) (v := (nI 3)) C dL_law_565 (by decide) ?_
  refine n_iadd (pc := 566) C dL_law_566 ?_
  refine n_sld (pc := 567) C hX hbl (by omega) (by omega) dL_law_567 ?_
  refine r_calli (cr_V (pc := 568) C (c_X5_task E B H _ _ _) dL_law_568 cm_X5_task ml_L_81 im_X5_task se_X5_task E.L.o rfl ⟨⟨Nat.le_of_ble_eq_true rfl, Nat.le_of_ble_eq_true rfl⟩, (by show cells + 0 ≤ 600000; omega), (by show slots + 0 ≤ 7302250; omega)⟩ rfl rfl (Nat.le_of_ble_eq_true rfl)) (fun v568 h568 hq568 => ?_)
  obtain ⟨rfl, rfl⟩ := hq568
  refine r_aload_n (pc := 571) C dL_law_571 rfl rfl ?_
  refine r_aload_n (pc := 572) C dL_law_572 rfl rfl ?_
  refine r_iload_n (pc := 573) C dL_law_573 rfl rfl ?_
  refine r_iconst (pc := 574) (v := (nI 1)) C dL_law_574 (by decide) ?_
  refine n_iadd (pc := 575) C dL_law_575 ?_
  refine n_sld (pc := 576) C hX hbl (by omega) (by omega) dL_law_576 ?_
  refine r_aload_n (pc := 577) C dL_law_577 rfl rfl ?_
  refine r_iload_n (pc := 578) C dL_law_578 rfl rfl ?_
  refine r_iconst (pc := 579) (v := (nI 2)) C dL_law_579 (by decide) ?_
  refine n_iadd (pc := 580) C dL_law_580 ?_
  refine n_sld (pc := 581) C hX hbl (by omega) (by omega) dL_law_581 ?_
  refine r_aload_n (pc := 582) C dL_law_582 rfl rfl ?_
  refine r_iload_n (pc := 583) C dL_law_583 rfl rfl ?_
  refine r_iconst (pc := 584) (v := (nI 3)) C dL_law_584 (by decide) ?_
  refine n_iadd (pc := 585) C dL_law_585 ?_
  refine n_sld (pc := 586) C hX hbl (by omega) (by omega) dL_law_586 ?_
  refine r_calli (cr_V (pc := 587) C (c_X6_task M0 B _ _ _) dL_law_587 cm_X6_task ml_L_85 im_X6_task se_X6_task M0.L.o rfl ⟨⟨Nat.le_of_ble_eq_true rfl, Nat.le_of_ble_eq_true rfl⟩, (by show cells + 0 + 0 ≤ 600000; omega), (by show slots + 0 + 0 ≤ 7302250; omega)⟩ rfl rfl (Nat.le_of_ble_eq_true rfl)) (fun v587 h587 hq587 => ?_)
  obtain ⟨rfl, rfl⟩ := hq587
  refine r_icmp_eq (pc := 590) (tgt := 1068) C dL_law_590 (by decide) (fun c590 => ?_) (fun c590 => absurd c590 (fun z => z rfl))
  exact WA.widen (by omega) (by omega) (k _ ⟨t, e, u, M0, E, H, V, c, by omega, hn⟩)
theorem lc_channel (C : CX G F (mL_law nm) room_1) (hX : va_X b L xs (fs F) (gH G)) (hbl : b < gb G) (hL : L ≤ 385) (hi : i + 6 ≤ L) (hn64 : n ≤ 100) (I : LI x m n h) (hc : cells + 7 ≤ 600000) (hsl : slots + 543 ≤ 7302250) (k : ∀ h', LI x m (n + 1) h' → WA G F (mL_law nm) h' (cells + 7) (slots + 543) Q 1068 (lvL b x m (nI i)) []) : WA G F (mL_law nm) h cells slots Q 595 (lvL b x m (nI i)) [] := by
  obtain ⟨t, e, u, M0, E, H, V, c, hu, hn⟩ := I
  have B := V.1.1
  refine r_aload_n (pc := 595) C dL_law_595 rfl rfl ?_
  refine r_aload_n (pc := 596) C dL_law_596 rfl rfl ?_
  refine r_iload_n (pc := 597) C dL_law_597 rfl rfl ?_
  refine r_iconst (pc := 598) (v := (nI 1)) C dL_law_598 (by decide) ?_
  refine n_iadd (pc := 599) C dL_law_599 ?_
  refine n_sld (pc := 600) C hX hbl (by omega) (by omega) dL_law_600 ?_
  refine r_aload_n (pc := 601) C dL_law_601 rfl rfl ?_
  refine r_iload_n (pc := 602) C dL_law_602 rfl rfl ?_
  refine r_iconst (pc := 603) (v := (nI 2)) C dL_law_603 (by decide) ?_
  refine n_iadd (pc := 604) C dL_law_604 ?_
  refine n_sld (pc := 605) C hX hbl (by omega) (by omega) dL_law_605 ?_
  refine r_aload_n (pc := 606) C dL_law_606 rfl rfl ?_
  refine r_iload_n (pc := 607) C dL_law_607 rfl rfl ?_
  refine r_iconst (pc := 608) (v := (nI 3)) C dL_law_608 (by decide) ?_
  refine n_iadd (pc := 609) C dL_law_609 ?_
  refine n_sld (pc := 610) C hX hbl (by omega) (by omega) dL_law_610 ?_
  refine r_aload_n (pc := 611) C dL_law_611 rfl rfl ?_
  refine r_iload_n (pc := 612) C dL_law_612 rfl rfl ?_
  refine r_iconst (pc := 613) (v := (nI 4)) C dL_law_613 (by decide) ?_
  refine n_iadd (pc := 614) C dL_law_614 ?_
  refine n_sld (pc := 615) C hX hbl (by omega) (by omega) dL_law_615 ?_
  refine r_calli (cr_V (pc := 616) C (c_X5_channel E B H (fun q hq => (V.1.2.2.1.2.1 q hq).2) _ _ _ _) dL_law_616 cm_X5_channel ml_L_86 im_X5_channel se_X5_channel E.L.o rfl ⟨⟨Nat.le_of_ble_eq_true rfl, Nat.le_of_ble_eq_true rfl⟩, (by show cells + 0 ≤ 600000; omega), (by show slots + 0 ≤ 7302250; omega)⟩ rfl rfl (Nat.le_of_ble_eq_true rfl)) (fun v616 h616 hq616 => ?_)
  obtain ⟨rfl, rfl⟩ := hq616
  refine r_aload_n (pc := 619) C dL_law_619 rfl rfl ?_
  refine r_aload_n (pc := 620) C dL_law_620 rfl rfl ?_
  refine r_iload_n (pc := 621) C dL_law_621 rfl rfl ?_
  refine r_iconst (pc := 622) (v := (nI 1)) C dL_law_622 (by decide) ?_
  refine n_iadd (pc := 623) C dL_law_623 ?_
  refine n_sld (pc := 624) C hX hbl (by omega) (by omega) dL_law_624 ?_
  refine r_aload_n (pc := 625) C dL_law_625 rfl rfl ?_
  refine r_iload_n (pc := 626) C dL_law_626 rfl rfl ?_
  refine r_iconst (pc := 627) (v := (nI 2)) C dL_law_627 (by decide) ?_
  refine n_iadd (pc := 628) C dL_law_628 ?_
  refine n_sld (pc := 629) C hX hbl (by omega) (by omega) dL_law_629 ?_
  refine r_aload_n (pc := 630) C dL_law_630 rfl rfl ?_
  refine r_iload_n (pc := 631) C dL_law_631 rfl rfl ?_
  refine r_iconst (pc := 632) (v := (nI 3)) C dL_law_632 (by decide) ?_
  refine n_iadd (pc := 633) C dL_law_633 ?_
  refine n_sld (pc := 634) C hX hbl (by omega) (by omega) dL_law_634 ?_
  refine r_aload_n (pc := 635) C dL_law_635 rfl rfl ?_
  refine r_iload_n (pc := 636) C dL_law_636 rfl rfl ?_
  refine r_iconst (pc := 637) (v := (nI 4)) C dL_law_637 (by decide) ?_
  refine n_iadd (pc := 638) C dL_law_638 ?_
  refine n_sld (pc := 639) C hX hbl (by omega) (by omega) dL_law_639 ?_
  refine r_calli (cr_V (pc := 640) C (c_X6_channel M0 B _ _ _ _) dL_law_640 cm_X6_channel ml_L_90 im_X6_channel se_X6_channel M0.L.o rfl ⟨⟨Nat.le_of_ble_eq_true rfl, Nat.le_of_ble_eq_true rfl⟩, (by show cells + 0 + 0 ≤ 600000; omega), (by show slots + 0 + 0 ≤ 7302250; omega)⟩ rfl rfl (Nat.le_of_ble_eq_true rfl)) (fun v640 h640 hq640 => ?_)
  obtain ⟨rfl, rfl⟩ := hq640
  refine r_icmp_eq (pc := 643) (tgt := 1068) C dL_law_643 (by decide) (fun c643 => ?_) (fun c643 => absurd c643 (fun z => z rfl))
  exact WA.widen (by omega) (by omega) (k _ ⟨t, e, u, M0, E, H, V, c, by omega, hn⟩)
theorem lc_key (C : CX G F (mL_law nm) room_1) (hX : va_X b L xs (fs F) (gH G)) (hbl : b < gb G) (hL : L ≤ 385) (hi : i + 6 ≤ L) (hn64 : n ≤ 100) (I : LI x m n h) (hc : cells + 7 ≤ 600000) (hsl : slots + 543 ≤ 7302250) (k : ∀ h', LI x m (n + 1) h' → WA G F (mL_law nm) h' (cells + 7) (slots + 543) Q 1068 (lvL b x m (nI i)) []) : WA G F (mL_law nm) h cells slots Q 648 (lvL b x m (nI i)) [] := by
  obtain ⟨t, e, u, M0, E, H, V, c, hu, hn⟩ := I
  have B := V.1.1
  refine r_aload_n (pc := 648) C dL_law_648 rfl rfl ?_
  refine r_aload_n (pc := 649) C dL_law_649 rfl rfl ?_
  refine r_iload_n (pc := 650) C dL_law_650 rfl rfl ?_
  refine r_iconst (pc := 651) (v := (nI 1)) C dL_law_651 (by decide) ?_
  refine n_iadd (pc := 652) C dL_law_652 ?_
  refine n_sld (pc := 653) C hX hbl (by omega) (by omega) dL_law_653 ?_
  refine r_aload_n (pc := 654) C dL_law_654 rfl rfl ?_
  refine r_iload_n (pc := 655) C dL_law_655 rfl rfl ?_
  refine r_iconst (pc := 656) (v := (nI 2)) C dL_law_656 (by decide) ?_
  refine n_iadd (pc := 657) C dL_law_657 ?_
  refine n_sld (pc := 658) C hX hbl (by omega) (by omega) dL_law_658 ?_
  refine r_aload_n (pc := 659) C dL_law_659 rfl rfl ?_
  refine r_iload_n (pc := 660) C dL_law_660 rfl rfl ?_
  refine r_iconst (pc := 661) (v := (nI 3)) C dL_law_661 (by decide) ?_
  refine n_iadd (pc := 662) C dL_law_662 ?_
  refine n_sld (pc := 663) C hX hbl (by omega) (by omega) dL_law_663 ?_
  refine r_aload_n (pc := 664) C dL_law_664 rfl rfl ?_
  refine r_iload_n (pc := 665) C dL_law_665 rfl rfl ?_
  refine r_iconst (pc := 666) (v := (nI 4)) C dL_law_666 (by decide) ?_
  refine n_iadd (pc := 667) C dL_law_667 ?_
  refine n_sld (pc := 668) C hX hbl (by omega) (by omega) dL_law_668 ?_
  refine r_calli (cr_V (pc := 669) C (c_X5_key E B _ _ _ _) dL_law_669 cm_X5_key ml_L_91 im_X5_key se_X5_key E.L.o rfl ⟨⟨Nat.le_of_ble_eq_true rfl, Nat.le_of_ble_eq_true rfl⟩, (by show cells + 0 ≤ 600000; omega), (by show slots + 0 ≤ 7302250; omega)⟩ rfl rfl (Nat.le_of_ble_eq_true rfl)) (fun v669 h669 hq669 => ?_)
  obtain ⟨rfl, rfl⟩ := hq669
  refine r_aload_n (pc := 672) C dL_law_672 rfl rfl ?_
  refine r_aload_n (pc := 673) C dL_law_673 rfl rfl ?_
  refine r_iload_n (pc := 674) C dL_law_674 rfl rfl ?_
  refine r_iconst (pc := 675) (v := (nI 1)) C dL_law_675 (by decide) ?_
  refine n_iadd (pc := 676) C dL_law_676 ?_
  refine n_sld (pc := 677) C hX hbl (by omega) (by omega) dL_law_677 ?_
  refine r_aload_n (pc := 678) C dL_law_678 rfl rfl ?_
  refine r_iload_n (pc := 679) C dL_law_679 rfl rfl ?_
  refine r_iconst (pc := 680) (v := (nI 2)) C dL_law_680 (by decide) ?_
  refine n_iadd (pc := 681) C dL_law_681 ?_
  refine n_sld (pc := 682) C hX hbl (by omega) (by omega) dL_law_682 ?_
  refine r_aload_n (pc := 683) C dL_law_683 rfl rfl ?_
  refine r_iload_n (pc := 684) C dL_law_684 rfl rfl ?_
  refine r_iconst (pc := 685) (v := (nI 3)) C dL_law_685 (by decide) ?_
  refine n_iadd (pc := 686) C dL_law_686 ?_
  refine n_sld (pc := 687) C hX hbl (by omega) (by omega) dL_law_687 ?_
  refine r_aload_n (pc := 688) C dL_law_688 rfl rfl ?_
  refine r_iload_n (pc := 689) C dL_law_689 rfl rfl ?_
  refine r_iconst (pc := 690) (v := (nI 4)) C dL_law_690 (by decide) ?_
  refine n_iadd (pc := 691) C dL_law_691 ?_
  refine n_sld (pc := 692) C hX hbl (by omega) (by omega) dL_law_692 ?_
  refine r_calli (cr_V (pc := 693) C (c_X6_key M0 B _ _ _ _) dL_law_693 cm_X6_key ml_L_94 im_X6_key se_X6_key M0.L.o rfl ⟨⟨Nat.le_of_ble_eq_true rfl, Nat.le_of_ble_eq_true rfl⟩, (by show cells + 0 + 0 ≤ 600000; omega), (by show slots + 0 + 0 ≤ 7302250; omega)⟩ rfl rfl (Nat.le_of_ble_eq_true rfl)) (fun v693 h693 hq693 => ?_)
  obtain ⟨rfl, rfl⟩ := hq693
  refine r_icmp_eq (pc := 696) (tgt := 1068) C dL_law_696 (by decide) (fun c696 => ?_) (fun c696 => absurd c696 (fun z => z rfl))
  exact WA.widen (by omega) (by omega) (k _ ⟨t, e, u, M0, E, H, V, c, by omega, hn⟩)
theorem lc_value (C : CX G F (mL_law nm) room_1) (hX : va_X b L xs (fs F) (gH G)) (hbl : b < gb G) (hL : L ≤ 385) (hi : i + 6 ≤ L) (hn64 : n ≤ 100) (I : LI x m n h) (hc : cells + 7 ≤ 600000) (hsl : slots + 543 ≤ 7302250) (k : ∀ h', LI x m (n + 1) h' → WA G F (mL_law nm) h' (cells + 7) (slots + 543) Q 1068 (lvL b x m (nI i)) []) : WA G F (mL_law nm) h cells slots Q 701 (lvL b x m (nI i)) [] := by
  obtain ⟨t, e, u, M0, E, H, V, c, hu, hn⟩ := I
  have B := V.1.1
  refine r_aload_n (pc := 701) C dL_law_701 rfl rfl ?_
  refine r_aload_n (pc := 702) C dL_law_702 rfl rfl ?_
  refine r_iload_n (pc := 703) C dL_law_703 rfl rfl ?_
  refine r_iconst (pc := 704) (v := (nI 1)) C dL_law_704 (by decide) ?_
  refine n_iadd (pc := 705) C dL_law_705 ?_
  refine n_sld (pc := 706) C hX hbl (by omega) (by omega) dL_law_706 ?_
  refine r_aload_n (pc := 707) C dL_law_707 rfl rfl ?_
  refine r_iload_n (pc := 708) C dL_law_708 rfl rfl ?_
  refine r_iconst (pc := 709) (v := (nI 2)) C dL_law_709 (by decide) ?_
  refine n_iadd (pc := 710) C dL_law_710 ?_
  refine n_sld (pc := 711) C hX hbl (by omega) (by omega) dL_law_711 ?_
  refine r_aload_n (pc := 712) C dL_law_712 rfl rfl ?_
  refine r_iload_n (pc := 713) C dL_law_713 rfl rfl ?_
  refine r_iconst (pc := 714) (v := (nI 3)) C dL_law_714 (by decide) ?_
  refine n_iadd (pc := 715) C dL_law_715 ?_
  refine n_sld (pc := 716) C hX hbl (by omega) (by omega) dL_law_716 ?_
  refine r_aload_n (pc := 717) C dL_law_717 rfl rfl ?_
  refine r_iload_n (pc := 718) C dL_law_718 rfl rfl ?_
  refine r_iconst (pc := 719) (v := (nI 4)) C dL_law_719 (by decide) ?_
  refine n_iadd (pc := 720) C dL_law_720 ?_
  refine n_sld (pc := 721) C hX hbl (by omega) (by omega) dL_law_721 ?_
  refine r_calll (cr_V (pc := 722) C (c_X5_value E B _ _ _ _) dL_law_722 cm_X5_value ml_L_95 im_X5_value se_X5_value E.L.o rfl ⟨⟨Nat.le_of_ble_eq_true rfl, Nat.le_of_ble_eq_true rfl⟩, (by show cells + 0 ≤ 600000; omega), (by show slots + 0 ≤ 7302250; omega)⟩ rfl rfl (Nat.le_of_ble_eq_true rfl)) (fun v722 h722 hq722 => ?_)
  obtain ⟨rfl, rfl⟩ := hq722
  refine r_aload_n (pc := 725) C dL_law_725 rfl rfl ?_
  refine r_aload_n (pc := 726) C dL_law_726 rfl rfl ?_
  refine r_iload_n (pc := 727) C dL_law_727 rfl rfl ?_
  refine r_iconst (pc := 728) (v := (nI 1)) C dL_law_728 (by decide) ?_
  refine n_iadd (pc := 729) C dL_law_729 ?_
  refine n_sld (pc := 730) C hX hbl (by omega) (by omega) dL_law_730 ?_
  refine r_aload_n (pc := 731) C dL_law_731 rfl rfl ?_
  refine r_iload_n (pc := 732) C dL_law_732 rfl rfl ?_
  refine r_iconst (pc := 733) (v := (nI 2)) C dL_law_733 (by decide) ?_
  refine n_iadd (pc := 734) C dL_law_734 ?_
  refine n_sld (pc := 735) C hX hbl (by omega) (by omega) dL_law_735 ?_
  refine r_aload_n (pc := 736) C dL_law_736 rfl rfl ?_
  refine r_iload_n (pc := 737) C dL_law_737 rfl rfl ?_
  refine r_iconst (pc := 738) (v := (nI 3)) C dL_law_738 (by decide) ?_
  refine n_iadd (pc := 739) C dL_law_739 ?_
  refine n_sld (pc := 740) C hX hbl (by omega) (by omega) dL_law_740 ?_
  refine r_aload_n (pc := 741) C dL_law_741 rfl rfl ?_
  refine r_iload_n (pc := 742) C dL_law_742 rfl rfl ?_
  refine r_iconst (pc := 743) (v := (nI 4)) C dL_law_743 (by decide) ?_
  refine n_iadd (pc := 744) C dL_law_744 ?_
  refine n_sld (pc := 745) C hX hbl (by omega) (by omega) dL_law_745 ?_
  refine r_calll (cr_V (pc := 746) C (c_X6_value M0 B _ _ _ _) dL_law_746 cm_X6_value ml_L_99 im_X6_value se_X6_value M0.L.o rfl ⟨⟨Nat.le_of_ble_eq_true rfl, Nat.le_of_ble_eq_true rfl⟩, (by show cells + 0 + 0 ≤ 600000; omega), (by show slots + 0 + 0 ≤ 7302250; omega)⟩ rfl rfl (Nat.le_of_ble_eq_true rfl)) (fun v746 h746 hq746 => ?_)
  obtain ⟨rfl, rfl⟩ := hq746
  refine r_lcmp (pc := 749) C dL_law_749 ?_
  refine r_if_eq (pc := 750) (tgt := 1068) C dL_law_750 (by decide) (fun c750 => ?_) (fun c750 => absurd c750 (fun z => z (lg_cmp0 rfl)))
  exact WA.widen (by omega) (by omega) (k _ ⟨t, e, u, M0, E, H, V, c, by omega, hn⟩)
theorem lc_marked (C : CX G F (mL_law nm) room_1) (hX : va_X b L xs (fs F) (gH G)) (hbl : b < gb G) (hL : L ≤ 385) (hi : i + 6 ≤ L) (hn64 : n ≤ 100) (I : LI x m n h) (hc : cells + 7 ≤ 600000) (hsl : slots + 543 ≤ 7302250) (k : ∀ h', LI x m (n + 1) h' → WA G F (mL_law nm) h' (cells + 7) (slots + 543) Q 1068 (lvL b x m (nI i)) []) : WA G F (mL_law nm) h cells slots Q 755 (lvL b x m (nI i)) [] := by
  obtain ⟨t, e, u, M0, E, H, V, c, hu, hn⟩ := I
  have B := V.1.1
  refine r_aload_n (pc := 755) C dL_law_755 rfl rfl ?_
  refine r_aload_n (pc := 756) C dL_law_756 rfl rfl ?_
  refine r_iload_n (pc := 757) C dL_law_757 rfl rfl ?_
  refine r_iconst (pc := 758) (v := (nI 1)) C dL_law_758 (by decide) ?_
  refine n_iadd (pc := 759) C dL_law_759 ?_
  refine n_sld (pc := 760) C hX hbl (by omega) (by omega) dL_law_760 ?_
  refine r_aload_n (pc := 761) C dL_law_761 rfl rfl ?_
  refine r_iload_n (pc := 762) C dL_law_762 rfl rfl ?_
  refine r_iconst (pc := 763) (v := (nI 2)) C dL_law_763 (by decide) ?_
  refine n_iadd (pc := 764) C dL_law_764 ?_
  refine n_sld (pc := 765) C hX hbl (by omega) (by omega) dL_law_765 ?_
  refine r_calli (cr_V (pc := 766) C (c_X5_marked E B H V.1.2.2.1.2.2.2.1 _ _) dL_law_766 cm_X5_marked ml_L_100 im_X5_marked se_X5_marked E.L.o rfl ⟨⟨Nat.le_of_ble_eq_true rfl, Nat.le_of_ble_eq_true rfl⟩, (by show cells + 0 ≤ 600000; omega), (by show slots + 0 ≤ 7302250; omega)⟩ rfl rfl (Nat.le_of_ble_eq_true rfl)) (fun v766 h766 hq766 => ?_)
  obtain ⟨rfl, rfl⟩ := hq766
  refine r_aload_n (pc := 769) C dL_law_769 rfl rfl ?_
  refine r_aload_n (pc := 770) C dL_law_770 rfl rfl ?_
  refine r_iload_n (pc := 771) C dL_law_771 rfl rfl ?_
  refine r_iconst (pc := 772) (v := (nI 1)) C dL_law_772 (by decide) ?_
  refine n_iadd (pc := 773) C dL_law_773 ?_
  refine n_sld (pc := 774) C hX hbl (by omega) (by omega) dL_law_774 ?_
  refine r_aload_n (pc := 775) C dL_law_775 rfl rfl ?_
  refine r_iload_n (pc := 776) C dL_law_776 rfl rfl ?_
  refine r_iconst (pc := 777) (v := (nI 2)) C dL_law_777 (by decide) ?_
  refine n_iadd (pc := 778) C dL_law_778 ?_
  refine n_sld (pc := 779) C hX hbl (by omega) (by omega) dL_law_779 ?_
  refine r_calli (cr_V (pc := 780) C (c_X6_marked M0 B _ _) dL_law_780 cm_X6_marked ml_L_103 im_X6_marked se_X6_marked M0.L.o rfl ⟨⟨Nat.le_of_ble_eq_true rfl, Nat.le_of_ble_eq_true rfl⟩, (by show cells + 0 + 0 ≤ 600000; omega), (by show slots + 0 + 0 ≤ 7302250; omega)⟩ rfl rfl (Nat.le_of_ble_eq_true rfl)) (fun v780 h780 hq780 => ?_)
  obtain ⟨rfl, rfl⟩ := hq780
  refine r_icmp_eq (pc := 783) (tgt := 1068) C dL_law_783 (by decide) (fun c783 => ?_) (fun c783 => absurd c783 (fun z => z rfl))
  exact WA.widen (by omega) (by omega) (k _ ⟨t, e, u, M0, E, H, V, c, by omega, hn⟩)
theorem lc_keptMany (C : CX G F (mL_law nm) room_1) (hX : va_X b L xs (fs F) (gH G)) (hbl : b < gb G) (hL : L ≤ 385) (hi : i + 6 ≤ L) (hn64 : n ≤ 100) (I : LI x m n h) (hc : cells + 7 ≤ 600000) (hsl : slots + 543 ≤ 7302250) (k : ∀ h', LI x m (n + 1) h' → WA G F (mL_law nm) h' (cells + 7) (slots + 543) Q 1068 (lvL b x m (nI i)) []) : WA G F (mL_law nm) h cells slots Q 788 (lvL b x m (nI i)) [] := by
  obtain ⟨t, e, u, M0, E, H, V, c, hu, hn⟩ := I
  have B := V.1.1
  refine r_aload_n (pc := 788) C dL_law_788 rfl rfl ?_
  refine r_aload_n (pc := 789) C dL_law_789 rfl rfl ?_
  refine r_iload_n (pc := 790) C dL_law_790 rfl rfl ?_
  refine r_iconst (pc := 791) (v := (nI 1)) C dL_law_791 (by decide) ?_
  refine n_iadd (pc := 792) C dL_law_792 ?_
  refine n_sld (pc := 793) C hX hbl (by omega) (by omega) dL_law_793 ?_
  refine r_aload_n (pc := 794) C dL_law_794 rfl rfl ?_
  refine r_iload_n (pc := 795) C dL_law_795 rfl rfl ?_
  refine r_iconst (pc := 796) (v := (nI 2)) C dL_law_796 (by decide) ?_
  refine n_iadd (pc := 797) C dL_law_797 ?_
  refine n_sld (pc := 798) C hX hbl (by omega) (by omega) dL_law_798 ?_
  refine r_aload_n (pc := 799) C dL_law_799 rfl rfl ?_
  refine r_iload_n (pc := 800) C dL_law_800 rfl rfl ?_
  refine r_iconst (pc := 801) (v := (nI 3)) C dL_law_801 (by decide) ?_
  refine n_iadd (pc := 802) C dL_law_802 ?_
  refine n_sld (pc := 803) C hX hbl (by omega) (by omega) dL_law_803 ?_
  refine r_calli (cr_V (pc := 804) C (c_X5_keptMany E B _ _ _) dL_law_804 cm_X5_keptMany ml_L_104 im_X5_keptMany se_X5_keptMany E.L.o rfl ⟨⟨Nat.le_of_ble_eq_true rfl, Nat.le_of_ble_eq_true rfl⟩, (by show cells + 0 ≤ 600000; omega), (by show slots + 0 ≤ 7302250; omega)⟩ rfl rfl (Nat.le_of_ble_eq_true rfl)) (fun v804 h804 hq804 => ?_)
  obtain ⟨rfl, rfl⟩ := hq804
  refine r_aload_n (pc := 807) C dL_law_807 rfl rfl ?_
  refine r_aload_n (pc := 808) C dL_law_808 rfl rfl ?_
  refine r_iload_n (pc := 809) C dL_law_809 rfl rfl ?_
  refine r_iconst (pc := 810) (v := (nI 1)) C dL_law_810 (by decide) ?_
  refine n_iadd (pc := 811) C dL_law_811 ?_
  refine n_sld (pc := 812) C hX hbl (by omega) (by omega) dL_law_812 ?_
  refine r_aload_n (pc := 813) C dL_law_813 rfl rfl ?_
  refine r_iload_n (pc := 814) C dL_law_814 rfl rfl ?_
  refine r_iconst (pc := 815) (v := (nI 2)) C dL_law_815 (by decide) ?_
  refine n_iadd (pc := 816) C dL_law_816 ?_
  refine n_sld (pc := 817) C hX hbl (by omega) (by omega) dL_law_817 ?_
  refine r_aload_n (pc := 818) C dL_law_818 rfl rfl ?_
  refine r_iload_n (pc := 819) C dL_law_819 rfl rfl ?_
  refine r_iconst (pc := 820) (v := (nI 3)) C dL_law_820 (by decide) ?_
  refine n_iadd (pc := 821) C dL_law_821 ?_
  refine n_sld (pc := 822) C hX hbl (by omega) (by omega) dL_law_822 ?_
  refine r_calli (cr_V (pc := 823) C (c_X6_keptMany M0 B _ _ _) dL_law_823 cm_X6_keptMany ml_L_107 im_X6_keptMany se_X6_keptMany M0.L.o rfl ⟨⟨Nat.le_of_ble_eq_true rfl, Nat.le_of_ble_eq_true rfl⟩, (by show cells + 0 + 0 ≤ 600000; omega), (by show slots + 0 + 0 ≤ 7302250; omega)⟩ rfl rfl (Nat.le_of_ble_eq_true rfl)) (fun v823 h823 hq823 => ?_)
  obtain ⟨rfl, rfl⟩ := hq823
  refine r_icmp_eq (pc := 826) (tgt := 1068) C dL_law_826 (by decide) (fun c826 => ?_) (fun c826 => absurd c826 (fun z => z rfl))
  exact WA.widen (by omega) (by omega) (k _ ⟨t, e, u, M0, E, H, V, c, by omega, hn⟩)
theorem lc_keptSum (C : CX G F (mL_law nm) room_1) (hX : va_X b L xs (fs F) (gH G)) (hbl : b < gb G) (hL : L ≤ 385) (hi : i + 6 ≤ L) (hn64 : n ≤ 100) (I : LI x m n h) (hc : cells + 7 ≤ 600000) (hsl : slots + 543 ≤ 7302250) (k : ∀ h', LI x m (n + 1) h' → WA G F (mL_law nm) h' (cells + 7) (slots + 543) Q 1068 (lvL b x m (nI i)) []) : WA G F (mL_law nm) h cells slots Q 831 (lvL b x m (nI i)) [] := by
  obtain ⟨t, e, u, M0, E, H, V, c, hu, hn⟩ := I
  have B := V.1.1
  refine r_aload_n (pc := 831) C dL_law_831 rfl rfl ?_
  refine r_aload_n (pc := 832) C dL_law_832 rfl rfl ?_
  refine r_iload_n (pc := 833) C dL_law_833 rfl rfl ?_
  refine r_iconst (pc := 834) (v := (nI 1)) C dL_law_834 (by decide) ?_
  refine n_iadd (pc := 835) C dL_law_835 ?_
  refine n_sld (pc := 836) C hX hbl (by omega) (by omega) dL_law_836 ?_
  refine r_aload_n (pc := 837) C dL_law_837 rfl rfl ?_
  refine r_iload_n (pc := 838) C dL_law_838 rfl rfl ?_
  refine r_iconst (pc := 839) (v := (nI 2)) C dL_law_839 (by decide) ?_
  refine n_iadd (pc := 840) C dL_law_840 ?_
  refine n_sld (pc := 841) C hX hbl (by omega) (by omega) dL_law_841 ?_
  refine r_aload_n (pc := 842) C dL_law_842 rfl rfl ?_
  refine r_iload_n (pc := 843) C dL_law_843 rfl rfl ?_
  refine r_iconst (pc := 844) (v := (nI 3)) C dL_law_844 (by decide) ?_
  refine n_iadd (pc := 845) C dL_law_845 ?_
  refine n_sld (pc := 846) C hX hbl (by omega) (by omega) dL_law_846 ?_
  refine r_calll (cr_V (pc := 847) C (c_X5_keptSum E B _ _ _) dL_law_847 cm_X5_keptSum ml_L_108 im_X5_keptSum se_X5_keptSum E.L.o rfl ⟨⟨Nat.le_of_ble_eq_true rfl, Nat.le_of_ble_eq_true rfl⟩, (by show cells + 0 ≤ 600000; omega), (by show slots + 0 ≤ 7302250; omega)⟩ rfl rfl (Nat.le_of_ble_eq_true rfl)) (fun v847 h847 hq847 => ?_)
  obtain ⟨rfl, rfl⟩ := hq847
  refine r_aload_n (pc := 850) C dL_law_850 rfl rfl ?_
  refine r_aload_n (pc := 851) C dL_law_851 rfl rfl ?_
  refine r_iload_n (pc := 852) C dL_law_852 rfl rfl ?_
  refine r_iconst (pc := 853) (v := (nI 1)) C dL_law_853 (by decide) ?_
  refine n_iadd (pc := 854) C dL_law_854 ?_
  refine n_sld (pc := 855) C hX hbl (by omega) (by omega) dL_law_855 ?_
  refine r_aload_n (pc := 856) C dL_law_856 rfl rfl ?_
  refine r_iload_n (pc := 857) C dL_law_857 rfl rfl ?_
  refine r_iconst (pc := 858) (v := (nI 2)) C dL_law_858 (by decide) ?_
  refine n_iadd (pc := 859) C dL_law_859 ?_
  refine n_sld (pc := 860) C hX hbl (by omega) (by omega) dL_law_860 ?_
  refine r_aload_n (pc := 861) C dL_law_861 rfl rfl ?_
  refine r_iload_n (pc := 862) C dL_law_862 rfl rfl ?_
  refine r_iconst (pc := 863) (v := (nI 3)) C dL_law_863 (by decide) ?_
  refine n_iadd (pc := 864) C dL_law_864 ?_
  refine n_sld (pc := 865) C hX hbl (by omega) (by omega) dL_law_865 ?_
  refine r_calll (cr_V (pc := 866) C (c_X6_keptSum M0 B _ _ _) dL_law_866 cm_X6_keptSum ml_L_112 im_X6_keptSum se_X6_keptSum M0.L.o rfl ⟨⟨Nat.le_of_ble_eq_true rfl, Nat.le_of_ble_eq_true rfl⟩, (by show cells + 0 + 0 ≤ 600000; omega), (by show slots + 0 + 0 ≤ 7302250; omega)⟩ rfl rfl (Nat.le_of_ble_eq_true rfl)) (fun v866 h866 hq866 => ?_)
  obtain ⟨rfl, rfl⟩ := hq866
  refine r_lcmp (pc := 869) C dL_law_869 ?_
  refine r_if_eq (pc := 870) (tgt := 1068) C dL_law_870 (by decide) (fun c870 => ?_) (fun c870 => absurd c870 (fun z => z (lg_cmp0 rfl)))
  exact WA.widen (by omega) (by omega) (k _ ⟨t, e, u, M0, E, H, V, c, by omega, hn⟩)
theorem lc_kept (C : CX G F (mL_law nm) room_1) (hX : va_X b L xs (fs F) (gH G)) (hbl : b < gb G) (hL : L ≤ 385) (hi : i + 6 ≤ L) (hn64 : n ≤ 100) (I : LI x m n h) (hc : cells + 7 ≤ 600000) (hsl : slots + 543 ≤ 7302250) (k : ∀ h', LI x m (n + 1) h' → WA G F (mL_law nm) h' (cells + 7) (slots + 543) Q 1068 (lvL b x m (nI i)) []) : WA G F (mL_law nm) h cells slots Q 875 (lvL b x m (nI i)) [] := by
  obtain ⟨t, e, u, M0, E, H, V, c, hu, hn⟩ := I
  have B := V.1.1
  refine r_aload_n (pc := 875) C dL_law_875 rfl rfl ?_
  refine r_aload_n (pc := 876) C dL_law_876 rfl rfl ?_
  refine r_iload_n (pc := 877) C dL_law_877 rfl rfl ?_
  refine r_iconst (pc := 878) (v := (nI 1)) C dL_law_878 (by decide) ?_
  refine n_iadd (pc := 879) C dL_law_879 ?_
  refine n_sld (pc := 880) C hX hbl (by omega) (by omega) dL_law_880 ?_
  refine r_aload_n (pc := 881) C dL_law_881 rfl rfl ?_
  refine r_iload_n (pc := 882) C dL_law_882 rfl rfl ?_
  refine r_iconst (pc := 883) (v := (nI 2)) C dL_law_883 (by decide) ?_
  refine n_iadd (pc := 884) C dL_law_884 ?_
  refine n_sld (pc := 885) C hX hbl (by omega) (by omega) dL_law_885 ?_
  refine r_aload_n (pc := 886) C dL_law_886 rfl rfl ?_
  refine r_iload_n (pc := 887) C dL_law_887 rfl rfl ?_
  refine r_iconst (pc := 888) (v := (nI 3)) C dL_law_888 (by decide) ?_
  refine n_iadd (pc := 889) C dL_law_889 ?_
  refine n_sld (pc := 890) C hX hbl (by omega) (by omega) dL_law_890 ?_
  refine r_aload_n (pc := 891) C dL_law_891 rfl rfl ?_
  refine r_iload_n (pc := 892) C dL_law_892 rfl rfl ?_
  refine r_iconst (pc := 893) (v := (nI 4)) C dL_law_893 (by decide) ?_
  refine n_iadd (pc := 894) C dL_law_894 ?_
  refine n_sld (pc := 895) C hX hbl (by omega) (by omega) dL_law_895 ?_
  refine r_calli (cr_V (pc := 896) C (c_X5_kept E B H _ _ _ _) dL_law_896 cm_X5_kept ml_L_113 im_X5_kept se_X5_kept E.L.o rfl ⟨⟨Nat.le_of_ble_eq_true rfl, Nat.le_of_ble_eq_true rfl⟩, (by show cells + 0 ≤ 600000; omega), (by show slots + 0 ≤ 7302250; omega)⟩ rfl rfl (Nat.le_of_ble_eq_true rfl)) (fun v896 h896 hq896 => ?_)
  obtain ⟨rfl, rfl⟩ := hq896
  refine r_aload_n (pc := 899) C dL_law_899 rfl rfl ?_
  refine r_aload_n (pc := 900) C dL_law_900 rfl rfl ?_
  refine r_iload_n (pc := 901) C dL_law_901 rfl rfl ?_
  refine r_iconst (pc := 902) (v := (nI 1)) C dL_law_902 (by decide) ?_
  refine n_iadd (pc := 903) C dL_law_903 ?_
  refine n_sld (pc := 904) C hX hbl (by omega) (by omega) dL_law_904 ?_
  refine r_aload_n (pc := 905) C dL_law_905 rfl rfl ?_
  refine r_iload_n (pc := 906) C dL_law_906 rfl rfl ?_
  refine r_iconst (pc := 907) (v := (nI 2)) C dL_law_907 (by decide) ?_
  refine n_iadd (pc := 908) C dL_law_908 ?_
  refine n_sld (pc := 909) C hX hbl (by omega) (by omega) dL_law_909 ?_
  refine r_aload_n (pc := 910) C dL_law_910 rfl rfl ?_
  refine r_iload_n (pc := 911) C dL_law_911 rfl rfl ?_
  refine r_iconst (pc := 912) (v := (nI 3)) C dL_law_912 (by decide) ?_
  refine n_iadd (pc := 913) C dL_law_913 ?_
  refine n_sld (pc := 914) C hX hbl (by omega) (by omega) dL_law_914 ?_
  refine r_aload_n (pc := 915) C dL_law_915 rfl rfl ?_
  refine r_iload_n (pc := 916) C dL_law_916 rfl rfl ?_
  refine r_iconst (pc := 917) (v := (nI 4)) C dL_law_917 (by decide) ?_
  refine n_iadd (pc := 918) C dL_law_918 ?_
  refine n_sld (pc := 919) C hX hbl (by omega) (by omega) dL_law_919 ?_
  refine r_calli (cr_V (pc := 920) C (c_X6_kept M0 B _ _ _ _) dL_law_920 cm_X6_kept ml_L_116 im_X6_kept se_X6_kept M0.L.o rfl ⟨⟨Nat.le_of_ble_eq_true rfl, Nat.le_of_ble_eq_true rfl⟩, (by show cells + 0 + 0 ≤ 600000; omega), (by show slots + 0 + 0 ≤ 7302250; omega)⟩ rfl rfl (Nat.le_of_ble_eq_true rfl)) (fun v920 h920 hq920 => ?_)
  obtain ⟨rfl, rfl⟩ := hq920
  refine r_icmp_eq (pc := 923) (tgt := 1068) C dL_law_923 (by decide) (fun c923 => ?_) (fun c923 => absurd c923 (fun z => z rfl))
  exact WA.widen (by omega) (by omega) (k _ ⟨t, e, u, M0, E, H, V, c, by omega, hn⟩)
theorem lc_keptKey (C : CX G F (mL_law nm) room_1) (hX : va_X b L xs (fs F) (gH G)) (hbl : b < gb G) (hL : L ≤ 385) (hi : i + 6 ≤ L) (hn64 : n ≤ 100) (I : LI x m n h) (hc : cells + 7 ≤ 600000) (hsl : slots + 543 ≤ 7302250) (k : ∀ h', LI x m (n + 1) h' → WA G F (mL_law nm) h' (cells + 7) (slots + 543) Q 1068 (lvL b x m (nI i)) []) : WA G F (mL_law nm) h cells slots Q 928 (lvL b x m (nI i)) [] := by
  obtain ⟨t, e, u, M0, E, H, V, c, hu, hn⟩ := I
  have B := V.1.1
  refine r_aload_n (pc := 928) C dL_law_928 rfl rfl ?_
  refine r_aload_n (pc := 929) C dL_law_929 rfl rfl ?_
  refine r_iload_n (pc := 930) C dL_law_930 rfl rfl ?_
  refine r_iconst (pc := 931) (v := (nI 1)) C dL_law_931 (by decide) ?_
  refine n_iadd (pc := 932) C dL_law_932 ?_
  refine n_sld (pc := 933) C hX hbl (by omega) (by omega) dL_law_933 ?_
  refine r_aload_n (pc := 934) C dL_law_934 rfl rfl ?_
  refine r_iload_n (pc := 935) C dL_law_935 rfl rfl ?_
  refine r_iconst (pc := 936) (v := (nI 2)) C dL_law_936 (by decide) ?_
  refine n_iadd (pc := 937) C dL_law_937 ?_
  refine n_sld (pc := 938) C hX hbl (by omega) (by omega) dL_law_938 ?_
  refine r_aload_n (pc := 939) C dL_law_939 rfl rfl ?_
  refine r_iload_n (pc := 940) C dL_law_940 rfl rfl ?_
  refine r_iconst (pc := 941) (v := (nI 3)) C dL_law_941 (by decide) ?_
  refine n_iadd (pc := 942) C dL_law_942 ?_
  refine n_sld (pc := 943) C hX hbl (by omega) (by omega) dL_law_943 ?_
  refine r_aload_n (pc := 944) C dL_law_944 rfl rfl ?_
  refine r_iload_n (pc := 945) C dL_law_945 rfl rfl ?_
  refine r_iconst (pc := 946) (v := (nI 4)) C dL_law_946 (by decide) ?_
  refine n_iadd (pc := 947) C dL_law_947 ?_
  refine n_sld (pc := 948) C hX hbl (by omega) (by omega) dL_law_948 ?_
  refine r_aload_n (pc := 949) C dL_law_949 rfl rfl ?_
  refine r_iload_n (pc := 950) C dL_law_950 rfl rfl ?_
  refine r_iconst (pc := 951) (v := (nI 5)) C dL_law_951 (by decide) ?_
  refine n_iadd (pc := 952) C dL_law_952 ?_
  refine n_sld (pc := 953) C hX hbl (by omega) (by omega) dL_law_953 ?_
  refine r_calli (cr_V (pc := 954) C (c_X5_keptKey E B H _ _ _ _ _) dL_law_954 cm_X5_keptKey ml_L_117 im_X5_keptKey se_X5_keptKey E.L.o rfl ⟨⟨Nat.le_of_ble_eq_true rfl, Nat.le_of_ble_eq_true rfl⟩, (by show cells + 0 ≤ 600000; omega), (by show slots + 0 ≤ 7302250; omega)⟩ rfl rfl (Nat.le_of_ble_eq_true rfl)) (fun v954 h954 hq954 => ?_)
  obtain ⟨rfl, rfl⟩ := hq954
  refine r_aload_n (pc := 957) C dL_law_957 rfl rfl ?_
  refine r_aload_n (pc := 958) C dL_law_958 rfl rfl ?_
  refine r_iload_n (pc := 959) C dL_law_959 rfl rfl ?_
  refine r_iconst (pc := 960) (v := (nI 1)) C dL_law_960 (by decide) ?_
  refine n_iadd (pc := 961) C dL_law_961 ?_
  refine n_sld (pc := 962) C hX hbl (by omega) (by omega) dL_law_962 ?_
  refine r_aload_n (pc := 963) C dL_law_963 rfl rfl ?_
  refine r_iload_n (pc := 964) C dL_law_964 rfl rfl ?_
  refine r_iconst (pc := 965) (v := (nI 2)) C dL_law_965 (by decide) ?_
  refine n_iadd (pc := 966) C dL_law_966 ?_
  refine n_sld (pc := 967) C hX hbl (by omega) (by omega) dL_law_967 ?_
  refine r_aload_n (pc := 968) C dL_law_968 rfl rfl ?_
  refine r_iload_n (pc := 969) C dL_law_969 rfl rfl ?_
  refine r_iconst (pc := 970) (v := (nI 3)) C dL_law_970 (by decide) ?_
  refine n_iadd (pc := 971) C dL_law_971 ?_
  refine n_sld (pc := 972) C hX hbl (by omega) (by omega) dL_law_972 ?_
  refine r_aload_n (pc := 973) C dL_law_973 rfl rfl ?_
  refine r_iload_n (pc := 974) C dL_law_974 rfl rfl ?_
  refine r_iconst (pc := 975) (v := (nI 4)) C dL_law_975 (by decide) ?_
  refine n_iadd (pc := 976) C dL_law_976 ?_
  refine n_sld (pc := 977) C hX hbl (by omega) (by omega) dL_law_977 ?_
  refine r_aload_n (pc := 978) C dL_law_978 rfl rfl ?_
  refine r_iload_n (pc := 979) C dL_law_979 rfl rfl ?_
  refine r_iconst (pc := 980) (v := (nI 5)) C dL_law_980 (by decide) ?_
  refine n_iadd (pc := 981) C dL_law_981 ?_
  refine n_sld (pc := 982) C hX hbl (by omega) (by omega) dL_law_982 ?_
  refine r_calli (cr_V (pc := 983) C (c_X6_keptKey M0 B _ _ _ _ _) dL_law_983 cm_X6_keptKey ml_L_120 im_X6_keptKey se_X6_keptKey M0.L.o rfl ⟨⟨Nat.le_of_ble_eq_true rfl, Nat.le_of_ble_eq_true rfl⟩, (by show cells + 0 + 0 ≤ 600000; omega), (by show slots + 0 + 0 ≤ 7302250; omega)⟩ rfl rfl (Nat.le_of_ble_eq_true rfl)) (fun v983 h983 hq983 => ?_)
  obtain ⟨rfl, rfl⟩ := hq983
  refine r_icmp_eq (pc := 986) (tgt := 1068) C dL_law_986 (by decide) (fun c986 => ?_) (fun c986 => absurd c986 (fun z => z rfl))
  exact WA.widen (by omega) (by omega) (k _ ⟨t, e, u, M0, E, H, V, c, by omega, hn⟩)
theorem lc_keptValue (C : CX G F (mL_law nm) room_1) (hX : va_X b L xs (fs F) (gH G)) (hbl : b < gb G) (hL : L ≤ 385) (hi : i + 6 ≤ L) (hn64 : n ≤ 100) (I : LI x m n h) (hc : cells + 7 ≤ 600000) (hsl : slots + 543 ≤ 7302250) (k : ∀ h', LI x m (n + 1) h' → WA G F (mL_law nm) h' (cells + 7) (slots + 543) Q 1068 (lvL b x m (nI i)) []) : WA G F (mL_law nm) h cells slots Q 991 (lvL b x m (nI i)) [] := by
  obtain ⟨t, e, u, M0, E, H, V, c, hu, hn⟩ := I
  have B := V.1.1
  refine r_aload_n (pc := 991) C dL_law_991 rfl rfl ?_
  refine r_aload_n (pc := 992) C dL_law_992 rfl rfl ?_
  refine r_iload_n (pc := 993) C dL_law_993 rfl rfl ?_
  refine r_iconst (pc := 994) (v := (nI 1)) C dL_law_994 (by decide) ?_
  refine n_iadd (pc := 995) C dL_law_995 ?_
  refine n_sld (pc := 996) C hX hbl (by omega) (by omega) dL_law_996 ?_
  refine r_aload_n (pc := 997) C dL_law_997 rfl rfl ?_
  refine r_iload_n (pc := 998) C dL_law_998 rfl rfl ?_
  refine r_iconst (pc := 999) (v := (nI 2)) C dL_law_999 (by decide) ?_
  refine n_iadd (pc := 1000) C dL_law_1000 ?_
  refine n_sld (pc := 1001) C hX hbl (by omega) (by omega) dL_law_1001 ?_
  refine r_aload_n (pc := 1002) C dL_law_1002 rfl rfl ?_
  refine r_iload_n (pc := 1003) C dL_law_1003 rfl rfl ?_
  refine r_iconst (pc := 1004) (v := (nI 3)) C dL_law_1004 (by decide) ?_
  refine n_iadd (pc := 1005) C dL_law_1005 ?_
  refine n_sld (pc := 1006) C hX hbl (by omega) (by omega) dL_law_1006 ?_
  refine r_aload_n (pc := 1007) C dL_law_1007 rfl rfl ?_
  refine r_iload_n (pc := 1008) C dL_law_1008 rfl rfl ?_
  refine r_iconst (pc := 1009) (v := (nI 4)) C dL_law_1009 (by decide) ?_
  refine n_iadd (pc := 1010) C dL_law_1010 ?_
  refine n_sld (pc := 1011) C hX hbl (by omega) (by omega) dL_law_1011 ?_
  refine r_aload_n (pc := 1012) C dL_law_1012 rfl rfl ?_
  refine r_iload_n (pc := 1013) C dL_law_1013 rfl rfl ?_
  refine r_iconst (pc := 1014) (v := (nI 5)) C dL_law_1014 (by decide) ?_
  refine n_iadd (pc := 1015) C dL_law_1015 ?_
  refine n_sld (pc := 1016) C hX hbl (by omega) (by omega) dL_law_1016 ?_
  refine r_calll (cr_V (pc := 1017) C (c_X5_keptValue E B H _ _ _ _ _) dL_law_1017 cm_X5_keptValue ml_L_121 im_X5_keptValue se_X5_keptValue E.L.o rfl ⟨⟨Nat.le_of_ble_eq_true rfl, Nat.le_of_ble_eq_true rfl⟩, (by show cells + 0 ≤ 600000; omega), (by show slots + 0 ≤ 7302250; omega)⟩ rfl rfl (Nat.le_of_ble_eq_true rfl)) (fun v1017 h1017 hq1017 => ?_)
  obtain ⟨rfl, rfl⟩ := hq1017
  refine r_aload_n (pc := 1020) C dL_law_1020 rfl rfl ?_
  refine r_aload_n (pc := 1021) C dL_law_1021 rfl rfl ?_
  refine r_iload_n (pc := 1022) C dL_law_1022 rfl rfl ?_
  refine r_iconst (pc := 1023) (v := (nI 1)) C dL_law_1023 (by decide) ?_
  refine n_iadd (pc := 1024) C dL_law_1024 ?_
  refine n_sld (pc := 1025) C hX hbl (by omega) (by omega) dL_law_1025 ?_
  refine r_aload_n (pc := 1026) C dL_law_1026 rfl rfl ?_
  refine r_iload_n (pc := 1027) C dL_law_1027 rfl rfl ?_
  refine r_iconst (pc := 1028) (v := (nI 2)) C dL_law_1028 (by decide) ?_
  refine n_iadd (pc := 1029) C dL_law_1029 ?_
  refine n_sld (pc := 1030) C hX hbl (by omega) (by omega) dL_law_1030 ?_
  refine r_aload_n (pc := 1031) C dL_law_1031 rfl rfl ?_
  refine r_iload_n (pc := 1032) C dL_law_1032 rfl rfl ?_
  refine r_iconst (pc := 1033) (v := (nI 3)) C dL_law_1033 (by decide) ?_
  refine n_iadd (pc := 1034) C dL_law_1034 ?_
  refine n_sld (pc := 1035) C hX hbl (by omega) (by omega) dL_law_1035 ?_
  refine r_aload_n (pc := 1036) C dL_law_1036 rfl rfl ?_
  refine r_iload_n (pc := 1037) C dL_law_1037 rfl rfl ?_
  refine r_iconst (pc := 1038) (v := (nI 4)) C dL_law_1038 (by decide) ?_
  refine n_iadd (pc := 1039) C dL_law_1039 ?_
  refine n_sld (pc := 1040) C hX hbl (by omega) (by omega) dL_law_1040 ?_
  refine r_aload_n (pc := 1041) C dL_law_1041 rfl rfl ?_
  refine r_iload_n (pc := 1042) C dL_law_1042 rfl rfl ?_
  refine r_iconst (pc := 1043) (v := (nI 5)) C dL_law_1043 (by decide) ?_
  refine n_iadd (pc := 1044) C dL_law_1044 ?_
  refine n_sld (pc := 1045) C hX hbl (by omega) (by omega) dL_law_1045 ?_
  refine r_calll (cr_V (pc := 1046) C (c_X6_keptValue M0 B _ _ _ _ _) dL_law_1046 cm_X6_keptValue ml_L_125 im_X6_keptValue se_X6_keptValue M0.L.o rfl ⟨⟨Nat.le_of_ble_eq_true rfl, Nat.le_of_ble_eq_true rfl⟩, (by show cells + 0 + 0 ≤ 600000; omega), (by show slots + 0 + 0 ≤ 7302250; omega)⟩ rfl rfl (Nat.le_of_ble_eq_true rfl)) (fun v1046 h1046 hq1046 => ?_)
  obtain ⟨rfl, rfl⟩ := hq1046
  refine r_lcmp (pc := 1049) C dL_law_1049 ?_
  refine r_if_eq (pc := 1050) (tgt := 1068) C dL_law_1050 (by decide) (fun c1050 => ?_) (fun c1050 => absurd c1050 (fun z => z (lg_cmp0 rfl)))
  exact WA.widen (by omega) (by omega) (k _ ⟨t, e, u, M0, E, H, V, c, by omega, hn⟩)
theorem lc_audit (C : CX G F (mL_law nm) room_1) (hX : va_X b L xs (fs F) (gH G)) (hbl : b < gb G) (hL : L ≤ 385) (hi : i + 6 ≤ L) (hn64 : n ≤ 100) (I : LI x m n h) (hc : cells + 7 ≤ 600000) (hsl : slots + 543 ≤ 7302250) (k : ∀ h', LI x m (n + 1) h' → WA G F (mL_law nm) h' (cells + 7) (slots + 543) Q 1068 (lvL b x m (nI i)) []) : WA G F (mL_law nm) h cells slots Q 1055 (lvL b x m (nI i)) [] := by
  obtain ⟨t, e, u, M0, E, H, V, c, hu, hn⟩ := I
  have B := V.1.1
  refine r_aload_n (pc := 1055) C dL_law_1055 rfl rfl ?_
  refine r_calli (cr_V (pc := 1056) C (c_X5_audit E B V.1.2.1.2.1 V.ao (fun j hj h9 k hk => V.aw hj h9 hk)) dL_law_1056 cm_X5_audit ml_L_126 im_X5_audit se_X5_audit E.L.o rfl ⟨⟨Nat.le_of_ble_eq_true rfl, Nat.le_of_ble_eq_true rfl⟩, (by show cells + 0 ≤ 600000; omega), (by show slots + 0 ≤ 7302250; omega)⟩ rfl rfl (Nat.le_of_ble_eq_true rfl)) (fun v1056 h1056 hq1056 => ?_)
  obtain ⟨rfl, E1, f1⟩ := hq1056
  have bl := E.L.b
  have M1 := M0.kp (f1.wd (P' := Px m) (fun a ha => by unfold Pf at ha; unfold Px; omega)).kp
  refine r_aload_n (pc := 1059) C dL_law_1059 rfl rfl ?_
  refine r_calli (cr_V (pc := 1060) C (c_X6_audit M1 B V.ao) dL_law_1060 cm_X6_audit ml_L_129 im_X6_audit se_X6_audit M1.L.o rfl ⟨⟨Nat.le_of_ble_eq_true rfl, Nat.le_of_ble_eq_true rfl⟩, (by show cells + 0 + 0 ≤ 600000; omega), (by show slots + 0 + 0 ≤ 7302250; omega)⟩ rfl rfl (Nat.le_of_ble_eq_true rfl)) (fun v1060 h1060 hq1060 => ?_)
  obtain ⟨rfl, rfl⟩ := hq1060
  refine r_icmp_eq (pc := 1063) (tgt := 1068) C dL_law_1063 (by decide) (fun c1063 => ?_) (fun c1063 => absurd c1063 (fun z => z rfl))
  exact WA.widen (by omega) (by omega) (k _ ⟨t, e, u, M1, E1, H, V, c, by omega, by rw [f1.1]; exact hn⟩)
end LC97
