/-! ===== the reference: takeFrom ===== -/
theorem bar_down {b : Nat} (h : 1 < b) : nI b - 1 - nI 1 = nI (b - 1) - 1 := by
  obtain ⟨c, rfl⟩ : ∃ c, b = c + 1 := ⟨b - 1, by omega⟩
  rw [nI_pred, Nat.add_sub_cancel]
  rfl
theorem bar_le {b : Nat} (hb : b < 2147483648) : nI b - 1 ≤ 0 ↔ b ≤ 1 := by
  cases b with
  | zero => exact ⟨fun _ => by omega, fun _ => by decide⟩
  | succ c =>
    rw [nI_pred, ← nI_0, nI_leI (by omega) (by decide)]
    omega
theorem uC_uC {t : TS} {c : Nat} {l l' : List Nat} : uC (uC t c l) c l' = uC t c l' := by
  have e : va_up (va_up (tC t) c l) c l' = va_up (tC t) c l' := by
    funext i
    unfold va_up
    by_cases h1 : i = c <;> simp [h1]
  show (tN t, tI t, tL t, va_up (va_up (tC t) c l) c l', tK t) = (tN t, tI t, tL t, va_up (tC t) c l', tK t)
  rw [e]
theorem TB.off {t : TS} (B : TB t) {c : Nat} (hne : tC t c ≠ []) : TB (spOff t c) := by
  have b1 := B.bar c
  have b2 := B.len c
  have hl1 : 1 ≤ (tC t c).length := by
    rcases Nat.eq_zero_or_pos (tC t c).length with z | z
    · exact absurd (List.length_eq_zero_iff.mp z) hne
    · exact z
  have e : ∀ v, v ≤ (tC t c).tail.length + 1 → TB (uN (uC t c (tC t c).tail) 4 c v) := fun v hv => by
    obtain ⟨h1, h2, h3, h4, h5, h6, h7, h8, h9, h10, h11, h12, h13, h14, h15, h16, h17, h18, h19⟩ := B
    refine ⟨h1, h2, h3, h4, h5, h6, h7, h8, h9, fun d => ?_, h11, h12, h13, h14, h15, fun d => ?_, h17, fun d x hx => ?_, h19⟩
    · rw [tN_uN]
      show _ ≤ (tC (uC t c (tC t c).tail) d).length + 1
      rw [tC_uC]
      by_cases e : d = c
      · subst e; rw [if_pos ⟨rfl, rfl⟩, if_pos rfl]; exact hv
      · rw [if_neg (fun z => e z.2), if_neg e]; exact h10 d
    · show (tC (uC t c (tC t c).tail) d).length ≤ 200
      rw [tC_uC]; split
      · rw [List.length_tail]; omega
      · exact h16 d
    · have hx' : x ∈ tC (uC t c (tC t c).tail) d := hx
      rw [tC_uC] at hx'
      split at hx'
      · exact h18 c x (List.mem_of_mem_tail hx')
      · exact h18 d x hx'
  refine e _ ?_
  rw [List.length_tail]
  split <;> omega
theorem TB.kept {t : TS} (B : TB t) {s q c r : Nat} (hc : c < 48) (hr : r < tN t 0 3) : TB (spKept t s q c r) := by
  unfold spKept
  by_cases h : tN t 0 5 ≠ 0 ∧ tN t 6 (4 * s + q) ≠ 0 ∧ tN t 5 c = 0
  · rw [cif_t h]; exact TB.keep (B.p12 (by decide)) hc hr
  · rw [cif_f h]; exact B
theorem Same.kept {t : TS} {s q c r : Nat} : Same t (spKept t s q c r) := by
  unfold spKept
  by_cases h : tN t 0 5 ≠ 0 ∧ tN t 6 (4 * s + q) ≠ 0 ∧ tN t 5 c = 0
  · rw [cif_t h]; exact Same.tr (Same.rf) Same.keep
  · rw [cif_f h]; exact Same.rf
section MT30
variable {G : GP} {F : FX} {m : Nat} {Q : State → Prop}
/-- the rows of a channel go one place to the front -/
theorem shift_l (C : CX G F mX6_takeFrom (Rm 2 0 0)) {h0 : AH} {t : TS} (B : TB t) {s q f c r : Nat} {x6 : Int32} (hc : c < 48) {l : List Nat} (hl : l.length ≤ 200) (hl1 : 1 ≤ l.length) (k : ∀ h x7, RM m (uC t c l.tail) h → Fr m (m + 24) h0 h → WA G F mX6_takeFrom h 0 0 Q 167 [some (.ref m), some (.int (nI s)), some (.int (nI q)), some (.int (nI f)), some (.int (nI c)), some (.int (nI r)), some (.int x6), some (.int x7)] []) :
    ∀ (n i : Nat) (w : List Nat) (h : AH), i + n + 1 = l.length → w.length + 1 = l.length → (∀ x, x < i → w[x]? = l[x + 1]?) → (∀ x, i ≤ x → x + 1 < l.length → w[x]? = l[x]?) → hI h (m + 6) (200 * c + (l.length - 1)) = nI (l.getD (l.length - 1) 0) → RM m (uC t c w) h → Fr m (m + 24) h0 h → WA G F mX6_takeFrom h 0 0 Q 119 [some (.ref m), some (.int (nI s)), some (.int (nI q)), some (.int (nI f)), some (.int (nI c)), some (.int (nI r)), some (.int x6), some (.int (nI i))] [] := by
  intro n
  induction n with
  | zero =>
    intro i w h hi hw h1 h2 h3 E fr
    have ec : tC (uC t c w) c = w := by rw [tC_uC, if_pos rfl]
    refine r_iload (pc := 119) C dX6_takeFrom_119 rfl ?_
    refine r_aload_n (pc := 121) C dX6_takeFrom_121 rfl rfl ?_
    refine r_getR (pc := 122) C fl_X6_36 E.L.o rfl E.L.r11 dX6_takeFrom_122 ?_
    refine r_iload (pc := 125) C dX6_takeFrom_125 rfl ?_
    refine n_iald (pc := 127) C E.L.s11 (by omega) ((E.k_held _ (by omega)).trans (by rw [ec])) dX6_takeFrom_127 ?_
    refine n_icmp_ge (pc := 128) (tgt := 167) C (by omega) (by omega) dX6_takeFrom_128 (by decide) (fun c128 => ?_) (fun c128 => absurd c128 (by omega))
    refine k h _ ?_ fr
    have e : w = l.tail := by
      apply List.ext_getElem?
      intro x
      rw [List.getElem?_tail]
      by_cases hx : x < i
      · exact h1 x hx
      · rw [List.getElem?_eq_none (by omega), List.getElem?_eq_none (by omega)]
    rw [← e]; exact E
  | succ n ih =>
    intro i w h hi hw h1 h2 h3 E fr
    have ec : tC (uC t c w) c = w := by rw [tC_uC, if_pos rfl]
    have hgd : ∀ x, x < l.length → l[x]? = some (l.getD x 0) := fun x hx => by rw [List.getD_eq_getElem?_getD, List.getElem?_eq_getElem hx]; rfl
    have hrd : hI h (m + 6) (200 * c + i + 1) = nI (l.getD (i + 1) 0) := by
      by_cases hlast : i + 1 = l.length - 1
      · rw [show 200 * c + i + 1 = 200 * c + (l.length - 1) by omega, hlast]; exact h3
      · have e1 := E.k_rows c hc (i + 1) (by rw [ec]; omega)
        rw [ec] at e1
        rw [show 200 * c + i + 1 = 200 * c + (i + 1) by omega, e1, List.getD_eq_getElem?_getD, h2 (i + 1) (by omega) (by omega), List.getD_eq_getElem?_getD]
    have hlen : ∀ d, (tC (uC t c w) d).length ≤ 200 := fun d => by
      rw [tC_uC]; split
      · omega
      · exact B.len d
    refine r_iload (pc := 119) C dX6_takeFrom_119 rfl ?_
    refine r_aload_n (pc := 121) C dX6_takeFrom_121 rfl rfl ?_
    refine r_getR (pc := 122) C fl_X6_36 E.L.o rfl E.L.r11 dX6_takeFrom_122 ?_
    refine r_iload (pc := 125) C dX6_takeFrom_125 rfl ?_
    refine n_iald (pc := 127) C E.L.s11 (by omega) ((E.k_held _ (by omega)).trans (by rw [ec])) dX6_takeFrom_127 ?_
    refine n_icmp_ge (pc := 128) (tgt := 167) C (by omega) (by omega) dX6_takeFrom_128 (by decide) (fun c128 => absurd c128 (by omega)) (fun c128 => ?_)
    refine r_aload_n (pc := 131) C dX6_takeFrom_131 rfl rfl ?_
    refine r_getR (pc := 132) C fl_X6_33 E.L.o rfl E.L.r10 dX6_takeFrom_132 ?_
    refine r_sipush (pc := 135) (v := (nI 200)) C dX6_takeFrom_135 (by decide) ?_
    refine r_iload (pc := 138) C dX6_takeFrom_138 rfl ?_
    refine n_imul (pc := 140) C dX6_takeFrom_140 ?_
    refine r_iload (pc := 141) C dX6_takeFrom_141 rfl ?_
    refine n_iadd (pc := 143) C dX6_takeFrom_143 ?_
    refine r_aload_n (pc := 144) C dX6_takeFrom_144 rfl rfl ?_
    refine r_getR (pc := 145) C fl_X6_33 E.L.o rfl E.L.r10 dX6_takeFrom_145 ?_
    refine r_sipush (pc := 148) (v := (nI 200)) C dX6_takeFrom_148 (by decide) ?_
    refine r_iload (pc := 151) C dX6_takeFrom_151 rfl ?_
    refine n_imul (pc := 153) C dX6_takeFrom_153 ?_
    refine r_iload (pc := 154) C dX6_takeFrom_154 rfl ?_
    refine n_iadd (pc := 156) C dX6_takeFrom_156 ?_
    refine r_iconst (pc := 157) (v := (nI 1)) C dX6_takeFrom_157 (by decide) ?_
    refine n_iadd (pc := 158) C dX6_takeFrom_158 ?_
    refine n_iald (pc := 159) C E.L.s10 (by omega) hrd dX6_takeFrom_159 ?_
    refine n_iast (pc := 160) C E.L.s10 (by omega) dX6_takeFrom_160 ?_
    have E := E.p_rset (b := c) (x := i) (v := l.getD (i + 1) 0) hlen (by rw [ec]; omega)
    rw [ec, uC_uC] at E
    refine n_iinc (pc := 161) (lv' := [_, _, _, _, _, _, _, _]) C dX6_takeFrom_161 rfl (by decide) rfl rfl ?_
    refine r_goto (pc := 164) (tgt := 119) C dX6_takeFrom_164 (by decide) ?_
    refine ih (i + 1) _ _ (by omega) (by rw [List.length_set]; exact hw) (fun x hx => ?_) (fun x hx hx2 => ?_) ?_ E (fr.pI (by omega) (by omega))
    · rw [List.getElem?_set]
      by_cases e : i = x
      · subst e; rw [if_pos rfl, if_pos (by omega), hgd (i + 1) (by omega)]
      · rw [if_neg e]; exact h1 x (by omega)
    · rw [List.getElem?_set, if_neg (by omega)]; exact h2 x (by omega) hx2
    · rw [hI_pI, if_neg (by omega)]; exact h3
/-- behind the shift: the barrier, MANY and SUM, the next channel, keeping -/
theorem tf_tail (C : CX G F mX6_takeFrom (Rm 2 0 0)) {h0 h : AH} {t : TS} (B : TB t) {s q f c r : Nat} {x6 x7 : Int32} (hs : 1 ≤ s) (hS : s < 4) (hq : q < 4) (hc : c < 48) (hr : r < tN t 0 3) (hm : tN t 3 (16 * s + tN t 2 r) < 200) (hne : tC t c ≠ []) (k : ∀ h', RM m (spKept (uN (spTake (spOff t c) s r) 8 (4 * s + q) ((f + 1) % tN t 1 (s - 1))) s q c r) h' → Fr m (m + 24) h0 h' → WA G F mX6_takeFrom h' 0 0 Q 287 [some (.ref m), some (.int (nI s)), some (.int (nI q)), some (.int (nI f)), some (.int (nI c)), some (.int (nI r)), some (.int x6), some (.int x7)] []) (hf : f < 4) (E : RM m (uC t c (tC t c).tail) h) (fr : Fr m (m + 24) h0 h) : WA G F mX6_takeFrom h 0 0 Q 167 [some (.ref m), some (.int (nI s)), some (.int (nI q)), some (.int (nI f)), some (.int (nI c)), some (.int (nI r)), some (.int x6), some (.int x7)] [] := by
  have b0 := B.fed
  have b1 := B.bar c
  have b2 := B.len c
  have b3 := B.P (s := s - 1) (by omega)
  have b4 := B.uw
  have b5 := B.marks
  have b6 := (B.bool (4 * s + q)).2.1
  have b7 := (B.bool c).1
  have hl1 : 1 ≤ (tC t c).length := by
    rcases Nat.eq_zero_or_pos (tC t c).length with z | z
    · exact absurd (List.length_eq_zero_iff.mp z) hne
    · exact z
  have BO : TB (spOff t c) := B.off hne
  have BT : TB (spTake (spOff t c) s r) := BO.take hm
  have t203 : ∀ h1, RM m (spOff t c) h1 → Fr m (m + 24) h0 h1 → WA G F mX6_takeFrom h1 0 0 Q 203 [some (.ref m), some (.int (nI s)), some (.int (nI q)), some (.int (nI f)), some (.int (nI c)), some (.int (nI r)), some (.int x6), some (.int x7)] [] := by
    intro h1 E f1
    have hmod : (f + 1) % tN t 1 (s - 1) < tN t 1 (s - 1) := Nat.mod_lt _ (by omega)
    have BN : TB (uN (spTake (spOff t c) s r) 8 (4 * s + q) ((f + 1) % tN t 1 (s - 1))) := BT.p8 (by omega)
    have u0 : spKept (uN (spTake (spOff t c) s r) 8 (4 * s + q) ((f + 1) % tN t 1 (s - 1))) s q c r = cif (tN t 0 5 ≠ 0 ∧ tN t 6 (4 * s + q) ≠ 0 ∧ tN t 5 c = 0) (spKeep (uN (uN (spTake (spOff t c) s r) 8 (4 * s + q) ((f + 1) % tN t 1 (s - 1))) 12 (48 * (tN t 0 5 - 1) + c) 1) c r) (uN (spTake (spOff t c) s r) 8 (4 * s + q) ((f + 1) % tN t 1 (s - 1))) := rfl
    rw [u0] at k
    refine r_aload_n (pc := 203) C dX6_takeFrom_203 rfl rfl ?_
    refine r_iload_n (pc := 204) C dX6_takeFrom_204 rfl rfl ?_
    refine r_iload (pc := 205) C dX6_takeFrom_205 rfl ?_
    refine r_callv (cr_V (pc := 207) C (c_X6_take E BO (s := s) (r := r) hS (by omega)) dX6_takeFrom_207 cm_X6_take ml_X6_140 im_X6_take se_X6_take E.L.o rfl ⟨⟨Nat.le_of_ble_eq_true rfl, Nat.le_of_ble_eq_true rfl⟩, Nat.le_of_ble_eq_true rfl, Nat.le_of_ble_eq_true rfl⟩ rfl rfl (Nat.le_of_ble_eq_true rfl)) (fun h207 hq207 => ?_)
    obtain ⟨E, f2⟩ := hq207
    refine r_aload_n (pc := 210) C dX6_takeFrom_210 rfl rfl ?_
    refine r_getR (pc := 211) C fl_X6_55 E.L.o rfl E.L.r17 dX6_takeFrom_211 ?_
    refine r_iconst (pc := 214) (v := (nI 4)) C dX6_takeFrom_214 (by decide) ?_
    refine r_iload_n (pc := 215) C dX6_takeFrom_215 rfl rfl ?_
    refine n_imul (pc := 216) C dX6_takeFrom_216 ?_
    refine r_iload_n (pc := 217) C dX6_takeFrom_217 rfl rfl ?_
    refine n_iadd (pc := 218) C dX6_takeFrom_218 ?_
    refine r_iload_n (pc := 219) C dX6_takeFrom_219 rfl rfl ?_
    refine r_iconst (pc := 220) (v := (nI 1)) C dX6_takeFrom_220 (by decide) ?_
    refine n_iadd (pc := 221) C dX6_takeFrom_221 ?_
    refine r_aload_n (pc := 222) C dX6_takeFrom_222 rfl rfl ?_
    refine r_getR (pc := 223) C fl_X6_7 E.L.o rfl E.L.r1 dX6_takeFrom_223 ?_
    refine r_iload_n (pc := 226) C dX6_takeFrom_226 rfl rfl ?_
    refine r_iconst (pc := 227) (v := (nI 1)) C dX6_takeFrom_227 (by decide) ?_
    refine n_isub (pc := 228) C (by omega) dX6_takeFrom_228 ?_
    refine n_iald (pc := 229) C E.L.s1 (by omega) (show _ = nI (tN t 1 (s - 1)) from E.k_P _ (by omega)) dX6_takeFrom_229 ?_
    refine n_irem (pc := 230) C (by omega) (by omega) (by omega) dX6_takeFrom_230 ?_
    refine n_iast (pc := 231) C E.L.s17 (by omega) dX6_takeFrom_231 ?_
    have E := E.p_next (4 * s + q) ((f + 1) % tN t 1 (s - 1))
    refine r_aload_n (pc := 232) C dX6_takeFrom_232 rfl rfl ?_
    refine r_getIe (pc := 233) C fl_X6_58 E.L.o rfl (show _ = nI (tN t 0 5) - 1 from E.uw) dX6_takeFrom_233 ?_
    refine r_iconst (pc := 236) (v := (-1)) C dX6_takeFrom_236 (by decide) ?_
    refine r_icmp_eq (pc := 237) (tgt := 287) C dX6_takeFrom_237 (by decide) (fun c237 => ?_) (fun c237 => ?_)
    · exact k _ (by rw [cif_f (fun z => z.1 ((uwm1 (by omega)).mp c237))]; exact E) ((f1.tr f2).pI (by omega) (by omega))
    · refine r_aload_n (pc := 240) C dX6_takeFrom_240 rfl rfl ?_
      refine r_getR (pc := 241) C fl_X6_46 E.L.o rfl E.L.r14 dX6_takeFrom_241 ?_
      refine r_iconst (pc := 244) (v := (nI 4)) C dX6_takeFrom_244 (by decide) ?_
      refine r_iload_n (pc := 245) C dX6_takeFrom_245 rfl rfl ?_
      refine n_imul (pc := 246) C dX6_takeFrom_246 ?_
      refine r_iload_n (pc := 247) C dX6_takeFrom_247 rfl rfl ?_
      refine n_iadd (pc := 248) C dX6_takeFrom_248 ?_
      refine n_zald (pc := 249) C E.L.s14 (by omega) (show _ = nI (tN t 6 (4 * s + q)) from E.k_took _ (by omega)) dX6_takeFrom_249 ?_
      refine n_if_eq (pc := 250) (tgt := 287) C (by omega) dX6_takeFrom_250 (by decide) (fun c250 => ?_) (fun c250 => ?_)
      · exact k _ (by rw [cif_f (fun z => z.2.1 c250)]; exact E) ((f1.tr f2).pI (by omega) (by omega))
      · refine r_aload_n (pc := 253) C dX6_takeFrom_253 rfl rfl ?_
        refine r_getR (pc := 254) C fl_X6_42 E.L.o rfl E.L.r13 dX6_takeFrom_254 ?_
        refine r_iload (pc := 257) C dX6_takeFrom_257 rfl ?_
        refine n_zald (pc := 259) C E.L.s13 (by omega) (show _ = nI (tN t 5 c) from E.k_came _ (by omega)) dX6_takeFrom_259 ?_
        refine n_if_ne (pc := 260) (tgt := 287) C (by omega) dX6_takeFrom_260 (by decide) (fun c260 => ?_) (fun c260 => ?_)
        · exact k _ (by rw [cif_f (fun z => c260 z.2.2)]; exact E) ((f1.tr f2).pI (by omega) (by omega))
        · have hu0 : tN t 0 5 ≠ 0 := fun z => c237 ((uwm1 (by omega)).mpr z)
          refine r_aload_n (pc := 263) C dX6_takeFrom_263 rfl rfl ?_
          refine r_getR (pc := 264) C fl_X6_88 E.L.o rfl E.L.r30 dX6_takeFrom_264 ?_
          refine r_bipush (pc := 267) (v := (nI 48)) C dX6_takeFrom_267 (by decide) ?_
          refine r_aload_n (pc := 269) C dX6_takeFrom_269 rfl rfl ?_
          refine r_getIe (pc := 270) C fl_X6_58 E.L.o rfl (show _ = nI (tN t 0 5 - 1) from E.uw.trans (uwS (show tN t 0 5 = tN t 0 5 - 1 + 1 by omega))) dX6_takeFrom_270 ?_
          refine n_imul (pc := 273) C dX6_takeFrom_273 ?_
          refine r_iload (pc := 274) C dX6_takeFrom_274 rfl ?_
          refine n_iadd (pc := 276) C dX6_takeFrom_276 ?_
          refine r_iconst (pc := 277) (v := (nI 1)) C dX6_takeFrom_277 (by decide) ?_
          refine n_zast (pc := 278) C E.L.s30 (by omega) (by first | exact Or.inl rfl | exact Or.inr rfl | exact bI_01) dX6_takeFrom_278 ?_
          have E := E.p_loose (48 * (tN t 0 5 - 1) + c) 1
          refine r_aload_n (pc := 279) C dX6_takeFrom_279 rfl rfl ?_
          refine r_iload (pc := 280) C dX6_takeFrom_280 rfl ?_
          refine r_iload (pc := 282) C dX6_takeFrom_282 rfl ?_
          refine r_callv (cr_V (pc := 284) C (c_X6_keep E (BN.p12 (by decide)) (j := tN t 0 5 - 1) (show tN t 0 5 = tN t 0 5 - 1 + 1 by omega) c r) dX6_takeFrom_284 cm_X6_keep ml_X6_122 im_X6_keep se_X6_keep E.L.o rfl ⟨⟨Nat.le_of_ble_eq_true rfl, Nat.le_of_ble_eq_true rfl⟩, Nat.le_of_ble_eq_true rfl, Nat.le_of_ble_eq_true rfl⟩ rfl rfl (Nat.le_of_ble_eq_true rfl)) (fun h284 hq284 => ?_)
          obtain ⟨E5, f5⟩ := hq284
          exact k _ (by rw [cif_t ⟨hu0, c250, c260⟩]; exact E5) ((((f1.tr f2).pI (by omega) (by omega)).pI (by omega) (by omega)).tr f5)
  refine r_aload_n (pc := 167) C dX6_takeFrom_167 rfl rfl ?_
  refine r_getR (pc := 168) C fl_X6_39 E.L.o rfl E.L.r12 dX6_takeFrom_168 ?_
  refine r_iload (pc := 171) C dX6_takeFrom_171 rfl ?_
  refine r_aload_n (pc := 173) C dX6_takeFrom_173 rfl rfl ?_
  refine r_getR (pc := 174) C fl_X6_39 E.L.o rfl E.L.r12 dX6_takeFrom_174 ?_
  refine r_iload (pc := 177) C dX6_takeFrom_177 rfl ?_
  refine n_iald (pc := 179) C E.L.s12 (by omega) (show _ = nI (tN t 4 c) - 1 from E.k_bar _ (by omega)) dX6_takeFrom_179 ?_
  refine r_if_le (pc := 180) (tgt := 195) C dX6_takeFrom_180 (by decide) (fun c180 => ?_) (fun c180 => ?_)
  · refine r_aload_n (pc := 195) C dX6_takeFrom_195 rfl rfl ?_
    refine r_getR (pc := 196) C fl_X6_39 E.L.o rfl E.L.r12 dX6_takeFrom_196 ?_
    refine r_iload (pc := 199) C dX6_takeFrom_199 rfl ?_
    refine n_iald (pc := 201) C E.L.s12 (by omega) (show _ = nI (tN t 4 c) - 1 from E.k_bar _ (by omega)) dX6_takeFrom_201 ?_
    refine n_iast (pc := 202) C E.L.s12 (by omega) dX6_takeFrom_202 ?_
    skip
    first | exact t203 _ (by unfold spOff; rw [if_pos (show 1 < tN t 4 c by rw [bar_le (by omega)] at c180; omega)]; exact E.p_bar c (tN t 4 c - 1) (bar_down (by rw [bar_le (by omega)] at c180; omega))) (fr.pI (by omega) (by omega)) | exact t203 _ (by unfold spOff; rw [if_neg (show ¬ 1 < tN t 4 c by rw [bar_le (by omega)] at c180; omega)]; exact E.p_bar c (tN t 4 c) rfl) (fr.pI (by omega) (by omega))
  · refine r_aload_n (pc := 183) C dX6_takeFrom_183 rfl rfl ?_
    refine r_getR (pc := 184) C fl_X6_39 E.L.o rfl E.L.r12 dX6_takeFrom_184 ?_
    refine r_iload (pc := 187) C dX6_takeFrom_187 rfl ?_
    refine n_iald (pc := 189) C E.L.s12 (by omega) (show _ = nI (tN t 4 c) - 1 from E.k_bar _ (by omega)) dX6_takeFrom_189 ?_
    refine r_iconst (pc := 190) (v := (nI 1)) C dX6_takeFrom_190 (by decide) ?_
    refine r_isub (pc := 191) C dX6_takeFrom_191 ?_
    refine r_goto (pc := 192) (tgt := 202) C dX6_takeFrom_192 (by decide) ?_
    refine n_iast (pc := 202) C E.L.s12 (by omega) dX6_takeFrom_202 ?_
    skip
    first | exact t203 _ (by unfold spOff; rw [if_pos (show 1 < tN t 4 c by rw [bar_le (by omega)] at c180; omega)]; exact E.p_bar c (tN t 4 c - 1) (bar_down (by rw [bar_le (by omega)] at c180; omega))) (fr.pI (by omega) (by omega)) | exact t203 _ (by unfold spOff; rw [if_neg (show ¬ 1 < tN t 4 c by rw [bar_le (by omega)] at c180; omega)]; exact E.p_bar c (tN t 4 c) rfl) (fr.pI (by omega) (by omega))
end MT30
/-- what takeFrom answers and leaves -/
def TF (m : Nat) (t : TS) (h : AH) (o : Option TS) : Int32 → AH → Prop := fun v h' => v = bI (o ≠ none) ∧ RM m (o.getD t) h' ∧ Fr m (m + 24) h h'
theorem TF.no {m : Nat} {t : TS} {h h' : AH} {o : Option TS} (e : o = none) (E : RM m t h') (f : Fr m (m + 24) h h') : TF m t h o (nI 0) h' := by
  subst e; exact ⟨ff0 (fun z => z rfl), E, f⟩
theorem TF.yes {m : Nat} {t t' : TS} {h h' : AH} {o : Option TS} (e : o = some t') (E : RM m t' h') (f : Fr m (m + 24) h h') : TF m t h o (nI 1) h' := by
  subst e; exact ⟨tt1 (fun z => by cases z), E, f⟩
theorem c_X6_takeFrom {G : GP} {m : Nat} {t : TS} {h : AH} (E : RM m t h) (B : TB t) {s q f : Nat} (hs : 1 ≤ s) (hS : s < tN t 0 0) (hq : q < tN t 1 s) (hf : f < tN t 1 (s - 1)) (hm : ∀ r, r ∈ tC t (16 * (s - 1) + 4 * f + q) → tN t 3 (16 * s + tN t 2 r) < 200) : MA G mX6_takeFrom 2 0 0 [.ref m, .int (nI s), .int (nI q), .int (nI f)] h (Oi (TF m t h (spTakeFrom t s q f))) := by
  have b0 := B.S
  have b1 := B.P (s := s) (by omega)
  have b2 := B.P (s := s - 1) (by omega)
  have b3 := B.fed
  have b4 := B.cap
  unfold spTakeFrom
  generalize hcc : 16 * (s - 1) + 4 * f + q = c at hm
  have hc : c < 48 := by omega
  have b5 := B.len c
  generalize hrr : (tC t c).headD 0 = r
  refine MA.intro (lv := [some (.ref m), some (.int (nI s)), some (.int (nI q)), some (.int (nI f)), none, none, none, none]) (by decide) (Nat.le_of_ble_eq_true rfl) rfl (fun F C => ?_)
  have r0 : tC t c ≠ [] → (tC t c).getD 0 0 = r ∧ r ∈ tC t c := fun hne => by
    cases hl : tC t c with
    | nil => exact absurd hl hne
    | cons x xs => rw [hl] at hrr; rw [← hrr]; exact ⟨rfl, List.mem_cons_self⟩
  have hmr : tC t c ≠ [] → tN t 3 (16 * s + tN t 2 r) < 200 := fun hne => hm r (r0 hne).2
  have hrf : tC t c ≠ [] → r < tN t 0 3 := fun hne => B.row (r0 hne).2
  have l1 : tC t c ≠ [] → 1 ≤ (tC t c).length := fun hne => by
    rcases Nat.eq_zero_or_pos (tC t c).length with z | z
    · exact absurd (List.length_eq_zero_iff.mp z) hne
    · exact z
  by_cases hS1 : s + 1 < tN t 0 0
  · have b6 := B.P (s := s + 1) (by omega)
    have b7 := B.key r
    have b8 : tN t 2 r % tN t 1 (s + 1) < tN t 1 (s + 1) := Nat.mod_lt _ (by omega)
    have hoo : outC t s q r = 16 * s + 4 * q + tN t 2 r % tN t 1 (s + 1) := rfl
    have b9 := B.len (outC t s q r)
    generalize outC t s q r = oc at hoo b9
    rw [cif_t hS1]
    have tl : tC t c ≠ [] → ¬ (tC t c = [] ∨ shut t s q c) → (tC t oc).length < tN t 0 1 → ∀ h0 h', RM m (spKept (uN (spTake (spOff t c) s r) 8 (4 * s + q) ((f + 1) % tN t 1 (s - 1))) s q c r) h' → Fr m (m + 24) h0 h' → ∀ x7, WA G F mX6_takeFrom h' 0 0 (MQA G F 0 0 (Oi (TF m t h0 (cif (tC t c = [] ∨ shut t s q c) none (cif (s + 1 < tN t 0 0 ∧ tN t 0 1 ≤ (tC t oc).length) none (some (spPut (spKept (uN (spTake (spOff t c) s r) 8 (4 * s + q) ((f + 1) % tN t 1 (s - 1))) s q c r) oc r))))))) 287 [some (.ref m), some (.int (nI s)), some (.int (nI q)), some (.int (nI f)), some (.int (nI c)), some (.int (nI r)), some (.int (nI oc)), some (.int x7)] [] := by
      intro hne c33 c100 h0 h' E f' x7
      have hmod : (f + 1) % tN t 1 (s - 1) < tN t 1 (s - 1) := Nat.mod_lt _ (by omega)
      have Bk : TB (spKept (uN (spTake (spOff t c) s r) 8 (4 * s + q) ((f + 1) % tN t 1 (s - 1))) s q c r) := TB.kept (TB.p8 (TB.take (B.off hne) (hmr hne)) (by omega)) hc (hrf hne)
      have lk : (tC (spKept (uN (spTake (spOff t c) s r) 8 (4 * s + q) ((f + 1) % tN t 1 (s - 1))) s q c r) oc).length < 200 := by
        have sm : Same (uN (spTake (spOff t c) s r) 8 (4 * s + q) ((f + 1) % tN t 1 (s - 1))) (spKept (uN (spTake (spOff t c) s r) 8 (4 * s + q) ((f + 1) % tN t 1 (s - 1))) s q c r) := Same.kept
        rw [sm.2.2.2.2.2.2.2.2.2.2.1]
        show (tC (uC t c (tC t c).tail) oc).length < 200
        rw [tC_uC]
        split
        · have := l1 hne
          rw [List.length_tail]; omega
        · omega
      refine r_iload (pc := 287) C dX6_takeFrom_287 rfl ?_
      refine r_iconst (pc := 289) (v := (-1)) C dX6_takeFrom_289 (by decide) ?_
      refine r_icmp_eq (pc := 290) (tgt := 301) C dX6_takeFrom_290 (by decide) (fun c290 => absurd c290 (nI_m1 (by omega))) (fun c290 => ?_)
      refine r_aload_n (pc := 293) C dX6_takeFrom_293 rfl rfl ?_
      refine r_iload (pc := 294) C dX6_takeFrom_294 rfl ?_
      refine r_iload (pc := 296) C dX6_takeFrom_296 rfl ?_
      refine r_callv (cr_V (pc := 298) C (c_X6_put E Bk (c := oc) (r := r) (by omega) lk) dX6_takeFrom_298 cm_X6_put ml_X6_143 im_X6_put se_X6_put E.L.o rfl ⟨⟨Nat.le_of_ble_eq_true rfl, Nat.le_of_ble_eq_true rfl⟩, Nat.le_of_ble_eq_true rfl, Nat.le_of_ble_eq_true rfl⟩ rfl rfl (Nat.le_of_ble_eq_true rfl)) (fun h298 hq298 => ?_)
      obtain ⟨E2, f2⟩ := hq298
      refine r_iconst (pc := 301) (v := (nI 1)) C dX6_takeFrom_301 (by decide) ?_
      exact r_zret (pc := 302) C rfl (by first | exact bI_01 | exact Or.inl rfl | exact Or.inr rfl) (Nat.le_of_ble_eq_true rfl) (Nat.le_of_ble_eq_true rfl) ⟨_, rfl, (TF.yes ((cif_f c33).trans (cif_f (fun z => by omega))) E2 (f'.tr f2))⟩ dX6_takeFrom_302
    refine r_iload_n (pc := 0) C dX6_takeFrom_0 rfl rfl ?_
    refine r_iconst (pc := 1) (v := (nI 1)) C dX6_takeFrom_1 (by decide) ?_
    refine n_isub (pc := 2) C (by omega) dX6_takeFrom_2 ?_
    refine r_iload_n (pc := 3) C dX6_takeFrom_3 rfl rfl ?_
    refine r_iload_n (pc := 4) C dX6_takeFrom_4 rfl rfl ?_
    refine r_calli (cr_S (pc := 5) C (c_X6_at _ (s - 1) f q) dX6_takeFrom_5 cm_X6_at ml_X6_118 st_X6_at ⟨⟨Nat.le_of_ble_eq_true rfl, Nat.le_of_ble_eq_true rfl⟩, Nat.le_of_ble_eq_true rfl, Nat.le_of_ble_eq_true rfl⟩ rfl rfl (Nat.le_of_ble_eq_true rfl)) (fun v5 h5 hq5 => ?_)
    obtain ⟨rfl, rfl⟩ := hq5
    rw [hcc]
    refine r_istore (pc := 8) (lv' := [_, _, _, _, _, _, _, _]) C dX6_takeFrom_8 (by decide) rfl rfl ?_
    refine r_aload_n (pc := 10) C dX6_takeFrom_10 rfl rfl ?_
    refine r_getR (pc := 11) C fl_X6_36 E.L.o rfl E.L.r11 dX6_takeFrom_11 ?_
    refine r_iload (pc := 14) C dX6_takeFrom_14 rfl ?_
    refine n_iald (pc := 16) C E.L.s11 (by omega) (E.k_held _ (by omega)) dX6_takeFrom_16 ?_
    refine n_if_eq (pc := 17) (tgt := 31) C (by omega) dX6_takeFrom_17 (by decide) (fun c17 => ?_) (fun c17 => ?_)
    · have hz : tC t c = [] := List.length_eq_zero_iff.mp c17
      refine r_iconst (pc := 31) (v := (nI 0)) C dX6_takeFrom_31 (by decide) ?_
      exact r_zret (pc := 32) C rfl (by first | exact bI_01 | exact Or.inl rfl | exact Or.inr rfl) (Nat.le_of_ble_eq_true rfl) (Nat.le_of_ble_eq_true rfl) ⟨_, rfl, (TF.no (cif_t (by first | exact Or.inl hz | exact Or.inr c28)) E Fr.rf)⟩ dX6_takeFrom_32
    · have hne : tC t c ≠ [] := fun z => c17 (by rw [z]; rfl)
      refine r_aload_n (pc := 20) C dX6_takeFrom_20 rfl rfl ?_
      refine r_iload_n (pc := 21) C dX6_takeFrom_21 rfl rfl ?_
      refine r_iload_n (pc := 22) C dX6_takeFrom_22 rfl rfl ?_
      refine r_iload (pc := 23) C dX6_takeFrom_23 rfl ?_
      refine r_calli (cr_V (pc := 25) C (c_X6_isShut E B (s := s) (q := q) (c := c) (by omega) (by omega) hc) dX6_takeFrom_25 cm_X6_isShut ml_X6_146 im_X6_isShut se_X6_isShut E.L.o rfl ⟨⟨Nat.le_of_ble_eq_true rfl, Nat.le_of_ble_eq_true rfl⟩, Nat.le_of_ble_eq_true rfl, Nat.le_of_ble_eq_true rfl⟩ rfl rfl (Nat.le_of_ble_eq_true rfl)) (fun v25 h25 hq25 => ?_)
      obtain ⟨rfl, rfl⟩ := hq25
      refine b_if_eq (pc := 28) (tgt := 33) C dX6_takeFrom_28 (by decide) (fun c28 => ?_) (fun c28 => ?_)
      · have c33 : ¬ (tC t c = [] ∨ shut t s q c) := fun z => z.elim hne c28
        refine r_aload_n (pc := 33) C dX6_takeFrom_33 rfl rfl ?_
        refine r_getR (pc := 34) C fl_X6_33 E.L.o rfl E.L.r10 dX6_takeFrom_34 ?_
        refine r_sipush (pc := 37) (v := (nI 200)) C dX6_takeFrom_37 (by decide) ?_
        refine r_iload (pc := 40) C dX6_takeFrom_40 rfl ?_
        refine n_imul (pc := 42) C dX6_takeFrom_42 ?_
        refine n_iald (pc := 43) C E.L.s10 (by omega) (show hI _ _ (200 * c + 0) = nI r from (E.k_rows c hc 0 (by have := l1 hne; omega)).trans (by rw [(r0 hne).1])) dX6_takeFrom_43 ?_
        refine r_istore (pc := 44) (lv' := [_, _, _, _, _, _, _, _]) C dX6_takeFrom_44 (by decide) rfl rfl ?_
        refine r_iload_n (pc := 46) C dX6_takeFrom_46 rfl rfl ?_
        refine r_iconst (pc := 47) (v := (nI 1)) C dX6_takeFrom_47 (by decide) ?_
        refine n_iadd (pc := 48) C dX6_takeFrom_48 ?_
        refine r_aload_n (pc := 49) C dX6_takeFrom_49 rfl rfl ?_
        refine r_getIe (pc := 50) C fl_X6_91 E.L.o rfl E.S dX6_takeFrom_50 ?_
        refine n_icmp_ge (pc := 53) (tgt := 80) C (by omega) (by omega) dX6_takeFrom_53 (by decide) (fun c53 => absurd c53 (by omega)) (fun c53 => ?_)
        refine r_iload_n (pc := 56) C dX6_takeFrom_56 rfl rfl ?_
        refine r_iload_n (pc := 57) C dX6_takeFrom_57 rfl rfl ?_
        refine r_aload_n (pc := 58) C dX6_takeFrom_58 rfl rfl ?_
        refine r_getR (pc := 59) C fl_X6_20 E.L.o rfl E.L.r6 dX6_takeFrom_59 ?_
        refine r_iload (pc := 62) C dX6_takeFrom_62 rfl ?_
        refine n_iald (pc := 64) C E.L.s6 (by have := hrf hne; omega) (E.k_key r (by have := hrf hne; omega)) dX6_takeFrom_64 ?_
        refine r_aload_n (pc := 65) C dX6_takeFrom_65 rfl rfl ?_
        refine r_getR (pc := 66) C fl_X6_7 E.L.o rfl E.L.r1 dX6_takeFrom_66 ?_
        refine r_iload_n (pc := 69) C dX6_takeFrom_69 rfl rfl ?_
        refine r_iconst (pc := 70) (v := (nI 1)) C dX6_takeFrom_70 (by decide) ?_
        refine n_iadd (pc := 71) C dX6_takeFrom_71 ?_
        refine n_iald (pc := 72) C E.L.s1 (by omega) (E.k_P _ (by omega)) dX6_takeFrom_72 ?_
        refine n_irem (pc := 73) C (by omega) (by omega) (by omega) dX6_takeFrom_73 ?_
        refine r_calli (cr_S (pc := 74) C (c_X6_at _ s q _) dX6_takeFrom_74 cm_X6_at ml_X6_118 st_X6_at ⟨⟨Nat.le_of_ble_eq_true rfl, Nat.le_of_ble_eq_true rfl⟩, Nat.le_of_ble_eq_true rfl, Nat.le_of_ble_eq_true rfl⟩ rfl rfl (Nat.le_of_ble_eq_true rfl)) (fun v74 h74 hq74 => ?_)
        obtain ⟨rfl, rfl⟩ := hq74
        rw [← hoo]
        refine r_goto (pc := 77) (tgt := 81) C dX6_takeFrom_77 (by decide) ?_
        refine r_istore (pc := 81) (lv' := [_, _, _, _, _, _, _, _]) C dX6_takeFrom_81 (by decide) rfl rfl ?_
        refine r_iload (pc := 83) C dX6_takeFrom_83 rfl ?_
        refine r_iconst (pc := 85) (v := (-1)) C dX6_takeFrom_85 (by decide) ?_
        refine r_icmp_eq (pc := 86) (tgt := 105) C dX6_takeFrom_86 (by decide) (fun c86 => absurd c86 (nI_m1 (by omega))) (fun c86 => ?_)
        refine r_aload_n (pc := 89) C dX6_takeFrom_89 rfl rfl ?_
        refine r_getR (pc := 90) C fl_X6_36 E.L.o rfl E.L.r11 dX6_takeFrom_90 ?_
        refine r_iload (pc := 93) C dX6_takeFrom_93 rfl ?_
        refine n_iald (pc := 95) C E.L.s11 (by omega) (E.k_held _ (by omega)) dX6_takeFrom_95 ?_
        refine r_aload_n (pc := 96) C dX6_takeFrom_96 rfl rfl ?_
        refine r_getIe (pc := 97) C fl_X6_13 E.L.o rfl E.cap dX6_takeFrom_97 ?_
        refine n_icmp_lt (pc := 100) (tgt := 105) C (by omega) (by omega) dX6_takeFrom_100 (by decide) (fun c100 => ?_) (fun c100 => ?_)
        · have hl1 := l1 hne
          have E0 := E
          refine r_aload_n (pc := 105) C dX6_takeFrom_105 rfl rfl ?_
          refine r_getR (pc := 106) C fl_X6_36 E.L.o rfl E.L.r11 dX6_takeFrom_106 ?_
          refine r_iload (pc := 109) C dX6_takeFrom_109 rfl ?_
          refine r_dup2 (pc := 111) C dX6_takeFrom_111 rfl rfl ?_
          refine n_iald (pc := 112) C E.L.s11 (by omega) (E.k_held _ (by omega)) dX6_takeFrom_112 ?_
          refine r_iconst (pc := 113) (v := (nI 1)) C dX6_takeFrom_113 (by decide) ?_
          refine n_isub (pc := 114) C (by omega) dX6_takeFrom_114 ?_
          refine n_iast (pc := 115) C E.L.s11 (by omega) dX6_takeFrom_115 ?_
          have E := E.p_drop (b := c)
          refine r_iconst (pc := 116) (v := (nI 0)) C dX6_takeFrom_116 (by decide) ?_
          refine r_istore (pc := 117) (lv' := [_, _, _, _, _, _, _, _]) C dX6_takeFrom_117 (by decide) rfl rfl ?_
          refine shift_l C B hc (l := tC t c) b5 hl1 (fun h1 x7 E1 f1 => ?_) ((tC t c).length - 1) 0 _ _ (by omega) (by rw [List.length_dropLast]; omega) (fun x hx => absurd hx (by omega)) (fun x _ hx => by rw [List.getElem?_dropLast, if_pos (by omega)]) (by rw [hI_ne (by omega)]; exact E0.k_rows c hc _ (by omega)) E (Fr.rf.pI (by omega) (by omega))
          refine tf_tail C B hs (by omega) (by omega) hc (hrf hne) (hmr hne) hne (fun h2 E2 f2 => ?_) (by omega) E1 f1
          exact tl hne c33 c100 _ h2 E2 f2 x7
        · refine r_iconst (pc := 103) (v := (nI 0)) C dX6_takeFrom_103 (by decide) ?_
          exact r_zret (pc := 104) C rfl (by first | exact bI_01 | exact Or.inl rfl | exact Or.inr rfl) (Nat.le_of_ble_eq_true rfl) (Nat.le_of_ble_eq_true rfl) ⟨_, rfl, (TF.no ((cif_f c33).trans (cif_t ⟨hS1, c100⟩)) E Fr.rf)⟩ dX6_takeFrom_104
      · refine r_iconst (pc := 31) (v := (nI 0)) C dX6_takeFrom_31 (by decide) ?_
        exact r_zret (pc := 32) C rfl (by first | exact bI_01 | exact Or.inl rfl | exact Or.inr rfl) (Nat.le_of_ble_eq_true rfl) (Nat.le_of_ble_eq_true rfl) ⟨_, rfl, (TF.no (cif_t (by first | exact Or.inl hz | exact Or.inr c28)) E Fr.rf)⟩ dX6_takeFrom_32
  · rw [cif_f hS1]
    have n2 : ¬ (s + 1 < tN t 0 0 ∧ tN t 0 1 ≤ (tC t (outC t s q r)).length) := fun z => hS1 z.1
    have tl2 : tC t c ≠ [] → ¬ (tC t c = [] ∨ shut t s q c) → ∀ h0 h', RM m (spKept (uN (spTake (spOff t c) s r) 8 (4 * s + q) ((f + 1) % tN t 1 (s - 1))) s q c r) h' → Fr m (m + 24) h0 h' → ∀ x7, WA G F mX6_takeFrom h' 0 0 (MQA G F 0 0 (Oi (TF m t h0 (cif (tC t c = [] ∨ shut t s q c) none (cif (s + 1 < tN t 0 0 ∧ tN t 0 1 ≤ (tC t (outC t s q r)).length) none (some (spKept (uN (spTake (spOff t c) s r) 8 (4 * s + q) ((f + 1) % tN t 1 (s - 1))) s q c r))))))) 287 [some (.ref m), some (.int (nI s)), some (.int (nI q)), some (.int (nI f)), some (.int (nI c)), some (.int (nI r)), some (.int (-1)), some (.int x7)] [] := by
      intro hne c33 h0 h' E f' x7
      refine r_iload (pc := 287) C dX6_takeFrom_287 rfl ?_
      refine r_iconst (pc := 289) (v := (-1)) C dX6_takeFrom_289 (by decide) ?_
      refine r_icmp_eq (pc := 290) (tgt := 301) C dX6_takeFrom_290 (by decide) (fun c290 => ?_) (fun c290 => absurd c290 (fun z => z rfl))
      refine r_iconst (pc := 301) (v := (nI 1)) C dX6_takeFrom_301 (by decide) ?_
      exact r_zret (pc := 302) C rfl (by first | exact bI_01 | exact Or.inl rfl | exact Or.inr rfl) (Nat.le_of_ble_eq_true rfl) (Nat.le_of_ble_eq_true rfl) ⟨_, rfl, (TF.yes ((cif_f c33).trans (cif_f n2)) E f')⟩ dX6_takeFrom_302
    refine r_iload_n (pc := 0) C dX6_takeFrom_0 rfl rfl ?_
    refine r_iconst (pc := 1) (v := (nI 1)) C dX6_takeFrom_1 (by decide) ?_
    refine n_isub (pc := 2) C (by omega) dX6_takeFrom_2 ?_
    refine r_iload_n (pc := 3) C dX6_takeFrom_3 rfl rfl ?_
    refine r_iload_n (pc := 4) C dX6_takeFrom_4 rfl rfl ?_
    refine r_calli (cr_S (pc := 5) C (c_X6_at _ (s - 1) f q) dX6_takeFrom_5 cm_X6_at ml_X6_118 st_X6_at ⟨⟨Nat.le_of_ble_eq_true rfl, Nat.le_of_ble_eq_true rfl⟩, Nat.le_of_ble_eq_true rfl, Nat.le_of_ble_eq_true rfl⟩ rfl rfl (Nat.le_of_ble_eq_true rfl)) (fun v5 h5 hq5 => ?_)
    obtain ⟨rfl, rfl⟩ := hq5
    rw [hcc]
    refine r_istore (pc := 8) (lv' := [_, _, _, _, _, _, _, _]) C dX6_takeFrom_8 (by decide) rfl rfl ?_
    refine r_aload_n (pc := 10) C dX6_takeFrom_10 rfl rfl ?_
    refine r_getR (pc := 11) C fl_X6_36 E.L.o rfl E.L.r11 dX6_takeFrom_11 ?_
    refine r_iload (pc := 14) C dX6_takeFrom_14 rfl ?_
    refine n_iald (pc := 16) C E.L.s11 (by omega) (E.k_held _ (by omega)) dX6_takeFrom_16 ?_
    refine n_if_eq (pc := 17) (tgt := 31) C (by omega) dX6_takeFrom_17 (by decide) (fun c17 => ?_) (fun c17 => ?_)
    · have hz : tC t c = [] := List.length_eq_zero_iff.mp c17
      refine r_iconst (pc := 31) (v := (nI 0)) C dX6_takeFrom_31 (by decide) ?_
      exact r_zret (pc := 32) C rfl (by first | exact bI_01 | exact Or.inl rfl | exact Or.inr rfl) (Nat.le_of_ble_eq_true rfl) (Nat.le_of_ble_eq_true rfl) ⟨_, rfl, (TF.no (cif_t (by first | exact Or.inl hz | exact Or.inr c28)) E Fr.rf)⟩ dX6_takeFrom_32
    · have hne : tC t c ≠ [] := fun z => c17 (by rw [z]; rfl)
      refine r_aload_n (pc := 20) C dX6_takeFrom_20 rfl rfl ?_
      refine r_iload_n (pc := 21) C dX6_takeFrom_21 rfl rfl ?_
      refine r_iload_n (pc := 22) C dX6_takeFrom_22 rfl rfl ?_
      refine r_iload (pc := 23) C dX6_takeFrom_23 rfl ?_
      refine r_calli (cr_V (pc := 25) C (c_X6_isShut E B (s := s) (q := q) (c := c) (by omega) (by omega) hc) dX6_takeFrom_25 cm_X6_isShut ml_X6_146 im_X6_isShut se_X6_isShut E.L.o rfl ⟨⟨Nat.le_of_ble_eq_true rfl, Nat.le_of_ble_eq_true rfl⟩, Nat.le_of_ble_eq_true rfl, Nat.le_of_ble_eq_true rfl⟩ rfl rfl (Nat.le_of_ble_eq_true rfl)) (fun v25 h25 hq25 => ?_)
      obtain ⟨rfl, rfl⟩ := hq25
      refine b_if_eq (pc := 28) (tgt := 33) C dX6_takeFrom_28 (by decide) (fun c28 => ?_) (fun c28 => ?_)
      · have c33 : ¬ (tC t c = [] ∨ shut t s q c) := fun z => z.elim hne c28
        refine r_aload_n (pc := 33) C dX6_takeFrom_33 rfl rfl ?_
        refine r_getR (pc := 34) C fl_X6_33 E.L.o rfl E.L.r10 dX6_takeFrom_34 ?_
        refine r_sipush (pc := 37) (v := (nI 200)) C dX6_takeFrom_37 (by decide) ?_
        refine r_iload (pc := 40) C dX6_takeFrom_40 rfl ?_
        refine n_imul (pc := 42) C dX6_takeFrom_42 ?_
        refine n_iald (pc := 43) C E.L.s10 (by omega) (show hI _ _ (200 * c + 0) = nI r from (E.k_rows c hc 0 (by have := l1 hne; omega)).trans (by rw [(r0 hne).1])) dX6_takeFrom_43 ?_
        refine r_istore (pc := 44) (lv' := [_, _, _, _, _, _, _, _]) C dX6_takeFrom_44 (by decide) rfl rfl ?_
        refine r_iload_n (pc := 46) C dX6_takeFrom_46 rfl rfl ?_
        refine r_iconst (pc := 47) (v := (nI 1)) C dX6_takeFrom_47 (by decide) ?_
        refine n_iadd (pc := 48) C dX6_takeFrom_48 ?_
        refine r_aload_n (pc := 49) C dX6_takeFrom_49 rfl rfl ?_
        refine r_getIe (pc := 50) C fl_X6_91 E.L.o rfl E.S dX6_takeFrom_50 ?_
        refine n_icmp_ge (pc := 53) (tgt := 80) C (by omega) (by omega) dX6_takeFrom_53 (by decide) (fun c53 => ?_) (fun c53 => absurd c53 (by omega))
        refine r_iconst (pc := 80) (v := (-1)) C dX6_takeFrom_80 (by decide) ?_
        refine r_istore (pc := 81) (lv' := [_, _, _, _, _, _, _, _]) C dX6_takeFrom_81 (by decide) rfl rfl ?_
        refine r_iload (pc := 83) C dX6_takeFrom_83 rfl ?_
        refine r_iconst (pc := 85) (v := (-1)) C dX6_takeFrom_85 (by decide) ?_
        refine r_icmp_eq (pc := 86) (tgt := 105) C dX6_takeFrom_86 (by decide) (fun c86 => ?_) (fun c86 => absurd c86 (fun z => z rfl))
        have hl1 := l1 hne
        have E0 := E
        refine r_aload_n (pc := 105) C dX6_takeFrom_105 rfl rfl ?_
        refine r_getR (pc := 106) C fl_X6_36 E.L.o rfl E.L.r11 dX6_takeFrom_106 ?_
        refine r_iload (pc := 109) C dX6_takeFrom_109 rfl ?_
        refine r_dup2 (pc := 111) C dX6_takeFrom_111 rfl rfl ?_
        refine n_iald (pc := 112) C E.L.s11 (by omega) (E.k_held _ (by omega)) dX6_takeFrom_112 ?_
        refine r_iconst (pc := 113) (v := (nI 1)) C dX6_takeFrom_113 (by decide) ?_
        refine n_isub (pc := 114) C (by omega) dX6_takeFrom_114 ?_
        refine n_iast (pc := 115) C E.L.s11 (by omega) dX6_takeFrom_115 ?_
        have E := E.p_drop (b := c)
        refine r_iconst (pc := 116) (v := (nI 0)) C dX6_takeFrom_116 (by decide) ?_
        refine r_istore (pc := 117) (lv' := [_, _, _, _, _, _, _, _]) C dX6_takeFrom_117 (by decide) rfl rfl ?_
        refine shift_l C B hc (l := tC t c) b5 hl1 (fun h1 x7 E1 f1 => ?_) ((tC t c).length - 1) 0 _ _ (by omega) (by rw [List.length_dropLast]; omega) (fun x hx => absurd hx (by omega)) (fun x _ hx => by rw [List.getElem?_dropLast, if_pos (by omega)]) (by rw [hI_ne (by omega)]; exact E0.k_rows c hc _ (by omega)) E (Fr.rf.pI (by omega) (by omega))
        refine tf_tail C B hs (by omega) (by omega) hc (hrf hne) (hmr hne) hne (fun h2 E2 f2 => ?_) (by omega) E1 f1
        exact tl2 hne c33 _ h2 E2 f2 x7
      · refine r_iconst (pc := 31) (v := (nI 0)) C dX6_takeFrom_31 (by decide) ?_
        exact r_zret (pc := 32) C rfl (by first | exact bI_01 | exact Or.inl rfl | exact Or.inr rfl) (Nat.le_of_ble_eq_true rfl) (Nat.le_of_ble_eq_true rfl) ⟨_, rfl, (TF.no (cif_t (by first | exact Or.inl hz | exact Or.inr c28)) E Fr.rf)⟩ dX6_takeFrom_32
