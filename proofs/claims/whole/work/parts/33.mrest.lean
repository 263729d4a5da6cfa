/-! ===== the reference: restore ===== -/
def goodW (t : TS) (p0 p1 p2 p3 : Int32) : Prop := (nI 1 ≤ p0 ∧ p0 ≤ nI 4) ∧ (nI 1 ≤ p1 ∧ p1 ≤ nI 4) ∧ (tN t 0 0 < 3 ∨ (nI 1 ≤ p2 ∧ p2 ≤ nI 4)) ∧ (tN t 0 0 < 4 ∨ (nI 1 ≤ p3 ∧ p3 ≤ nI 4))
def pick (p0 p1 p2 p3 : Int32) (i : Nat) : Int32 := if i = 0 then p0 else if i = 1 then p1 else if i = 2 then p2 else p3
/-- the channel of a row's owners, in the gap of channel c -/
def ownC (t : TS) (c r : Nat) : Nat := 16 * (c / 16) + 4 * (tN t 2 r % tN t 1 (c / 16)) + tN t 2 r % tN t 1 (c / 16 + 1)
def spPl1 (c : Nat) : List (Nat × Nat) → TS → TS
  | [], t => t
  | q :: l, t => spPl1 c l (if q.1 = c then spPut t (ownC t c q.2) q.2 else t)
def spPl (l : List (Nat × Nat)) : Nat → Nat → TS → TS
  | 0, _, t => t
  | n + 1, c, t => spPl l n (c + 1) (spPl1 c l t)
def spRes0 (t : TS) (j : Nat) (w : Nat → Nat) : TS :=
  uCs (uNs (uLs (uNs (uNs t 1 (fun i => if i < tN t 0 0 then w i else tN t 1 i)) 3 (fun i => if i < 64 then tN t 11 (64 * j + i) else tN t 3 i)) 1 (fun i => if i < 64 then tL t 2 (64 * j + i) else tL t 1 i)) 8 (fun _ => 0)) (fun _ => [])
def spEndIf (t : TS) : TS := if tN t 0 5 = 0 then t else spEnd t 2
def spRes (t : TS) (j : Nat) (w : Nat → Nat) : TS := spPl (tK t j) 48 0 (spRes0 (spEndIf t) j w)
noncomputable def spRestore (t : TS) (x p0 p1 p2 p3 : Int32) : Int32 × TS :=
  cif (inN x (tN t 0 4)) (cif (goodW t p0 p1 p2 p3) (cif (tN t 9 x.toNatClampNeg = 1) (nI (tK t x.toNatClampNeg).length, spRes t x.toNatClampNeg (fun i => (pick p0 p1 p2 p3 i).toNatClampNeg)) (-103, t)) (-102, t)) (-101, t)
/-- rows of earlier channels, and of this one's first places, with the next one are no more than all -/
theorem placed {c : Nat} : ∀ (l : List (Nat × Nat)) (i : Nat) (q : Nat × Nat), l[i]? = some q → q.1 = c → l.countP (fun z => decide (z.1 < c)) + (l.take i).countP (fun z => decide (z.1 = c)) + 1 ≤ l.length
  | [], i, q, h, _ => by simp at h
  | x :: xs, 0, q, h, hq => by
    simp at h
    subst h
    have h2 := List.countP_le_length (l := xs) (p := fun z => decide (z.1 < c))
    rw [List.countP_cons_of_neg (by simp; omega)]
    simp only [List.take_zero, List.countP_nil, List.length_cons]
    omega
  | x :: xs, i + 1, q, h, hq => by
    have ih := placed xs i q (by simpa using h) hq
    rw [List.take_succ_cons, List.countP_cons, List.countP_cons, List.length_cons]
    by_cases h1 : x.1 < c
    · have h2 : ¬ x.1 = c := by omega
      simp [h1, h2]; omega
    · by_cases h2 : x.1 = c <;> simp [h1, h2] <;> omega
theorem countP_next {c : Nat} : ∀ (l : List (Nat × Nat)), l.countP (fun z => decide (z.1 < c + 1)) = l.countP (fun z => decide (z.1 < c)) + l.countP (fun z => decide (z.1 = c))
  | [] => rfl
  | x :: xs => by
    rw [List.countP_cons, List.countP_cons, List.countP_cons, countP_next xs]
    by_cases h1 : x.1 < c
    · have h2 : ¬ x.1 = c := by omega
      have h3 : x.1 < c + 1 := by omega
      simp [h1, h2, h3]; omega
    · by_cases h2 : x.1 = c
      · have h3 : x.1 < c + 1 := by omega
        simp [h1, h2, h3]; omega
      · have h3 : ¬ x.1 < c + 1 := by omega
        simp [h1, h2, h3]
section RS33
variable {G : GP} {F : FX} {m : Nat} {Q : State → Prop}
theorem rest_l1 (C : CX G F mX6_restore (Rm 1 0 0)) {h0 : AH} {t : TS} (b0 : 2 ≤ tN t 0 0 ∧ tN t 0 0 ≤ 4) {x p0 p1 p2 p3 : Int32} {x6 : Int32} {x8 x9 : Option Value} {w : Nat → Nat} (hw : ∀ i, i < tN t 0 0 → pick p0 p1 p2 p3 i = nI (w i)) (k : ∀ h x7, RM m (uNs t 1 (fun i => if i < tN t 0 0 then w i else tN t 1 i)) h → Fr m (m + 24) h0 h → WA G F mX6_restore h 0 0 Q 169 [some (.ref m), some (.int x), some (.int p0), some (.int p1), some (.int p2), some (.int p3), some (.int x6), some (.int x7), x8, x9] []) :
    ∀ (n s : Nat) (h : AH), s + n = tN t 0 0 → RM m (uNs t 1 (fun i => if i < s then w i else tN t 1 i)) h → Fr m (m + 24) h0 h → WA G F mX6_restore h 0 0 Q 115 [some (.ref m), some (.int x), some (.int p0), some (.int p1), some (.int p2), some (.int p3), some (.int x6), some (.int (nI s)), x8, x9] [] := by
  intro n
  induction n with
  | zero =>
    intro s h hs E f
    refine r_iload (pc := 115) C dX6_restore_115 rfl ?_
    refine r_aload_n (pc := 117) C dX6_restore_117 rfl rfl ?_
    refine r_getIe (pc := 118) C fl_X6_91 E.L.o rfl (show _ = nI (tN t 0 0) from E.S) dX6_restore_118 ?_
    refine n_icmp_ge (pc := 121) (tgt := 169) C (by omega) (by omega) dX6_restore_121 (by decide) (fun c121 => ?_) (fun c121 => absurd c121 (by omega))
    exact k h _ (by rw [show tN t 0 0 = s by omega]; exact E) f
  | succ n ih =>
    intro s h hs E f
    have hws := hw s (by omega)
    have E2 := E.p_P s (w s)
    have fe : va_up (fun i => if i < s then w i else tN t 1 i) s (w s) = fun i => if i < s + 1 then w i else tN t 1 i := by
      funext i
      unfold va_up
      by_cases h1 : i = s
      · subst h1; simp
      · by_cases h2 : i < s
        · have h3 : i < s + 1 := by omega
          simp [h1, h2, h3]
        · have h3 : ¬ i < s + 1 := by omega
          simp [h1, h2, h3]
    rw [uN_uNs, fe, ← hws] at E2
    have nx : WA G F mX6_restore (pI h (m + 1) s (pick p0 p1 p2 p3 s)) 0 0 Q 163 [some (.ref m), some (.int x), some (.int p0), some (.int p1), some (.int p2), some (.int p3), some (.int x6), some (.int (nI s)), x8, x9] [] := by
      refine n_iinc (pc := 163) (lv' := [_, _, _, _, _, _, _, _, _, _]) C dX6_restore_163 rfl (by decide) rfl rfl ?_
      refine r_goto (pc := 166) (tgt := 115) C dX6_restore_166 (by decide) ?_
      exact ih (s + 1) _ (by omega) E2 (f.pI (by omega) (by omega))
    refine r_iload (pc := 115) C dX6_restore_115 rfl ?_
    refine r_aload_n (pc := 117) C dX6_restore_117 rfl rfl ?_
    refine r_getIe (pc := 118) C fl_X6_91 E.L.o rfl (show _ = nI (tN t 0 0) from E.S) dX6_restore_118 ?_
    refine n_icmp_ge (pc := 121) (tgt := 169) C (by omega) (by omega) dX6_restore_121 (by decide) (fun c121 => absurd c121 (by omega)) (fun c121 => ?_)
    refine r_aload_n (pc := 124) C dX6_restore_124 rfl rfl ?_
    refine r_getR (pc := 125) C fl_X6_7 E.L.o rfl E.L.r1 dX6_restore_125 ?_
    refine r_iload (pc := 128) C dX6_restore_128 rfl ?_
    refine r_iload (pc := 130) C dX6_restore_130 rfl ?_
    refine n_if_ne (pc := 132) (tgt := 139) C (by omega) dX6_restore_132 (by decide) (fun c132 => ?_) (fun c132 => ?_)
    · refine r_iload (pc := 139) C dX6_restore_139 rfl ?_
      refine r_iconst (pc := 141) (v := (nI 1)) C dX6_restore_141 (by decide) ?_
      refine n_icmp_ne (pc := 142) (tgt := 149) C (by omega) (by omega) dX6_restore_142 (by decide) (fun c142 => ?_) (fun c142 => ?_)
      · refine r_iload (pc := 149) C dX6_restore_149 rfl ?_
        refine r_iconst (pc := 151) (v := (nI 2)) C dX6_restore_151 (by decide) ?_
        refine n_icmp_ne (pc := 152) (tgt := 160) C (by omega) (by omega) dX6_restore_152 (by decide) (fun c152 => ?_) (fun c152 => ?_)
        · rw [show pick p0 p1 p2 p3 s = p3 by unfold pick; rw [if_neg c132, if_neg c142, if_neg c152]] at nx
          refine r_iload (pc := 160) C dX6_restore_160 rfl ?_
          refine n_iast (pc := 162) C E.L.s1 (by omega) dX6_restore_162 ?_
          exact nx
        · rw [show pick p0 p1 p2 p3 s = p2 by subst c152; rfl] at nx
          refine r_iload (pc := 155) C dX6_restore_155 rfl ?_
          refine r_goto (pc := 157) (tgt := 162) C dX6_restore_157 (by decide) ?_
          refine n_iast (pc := 162) C E.L.s1 (by omega) dX6_restore_162 ?_
          exact nx
      · rw [show pick p0 p1 p2 p3 s = p1 by subst c142; rfl] at nx
        refine r_iload_n (pc := 145) C dX6_restore_145 rfl rfl ?_
        refine r_goto (pc := 146) (tgt := 162) C dX6_restore_146 (by decide) ?_
        refine n_iast (pc := 162) C E.L.s1 (by omega) dX6_restore_162 ?_
        exact nx
    · rw [show pick p0 p1 p2 p3 s = p0 by subst c132; rfl] at nx
      refine r_iload_n (pc := 135) C dX6_restore_135 rfl rfl ?_
      refine r_goto (pc := 136) (tgt := 162) C dX6_restore_136 (by decide) ?_
      refine n_iast (pc := 162) C E.L.s1 (by omega) dX6_restore_162 ?_
      exact nx
theorem rest_l2 (C : CX G F mX6_restore (Rm 1 0 0)) {h0 : AH} {t u : TS} {j : Nat} (hj : j < 8) {p0 p1 p2 p3 : Int32} {x6 : Int32} {x8 x9 : Option Value} (hk : tN t 11 = tN u 11) (hkl : tL t 2 = tL u 2) (k : ∀ h x7, RM m (uLs (uNs t 3 (fun i => if i < 64 then tN u 11 (64 * j + i) else tN t 3 i)) 1 (fun i => if i < 64 then tL u 2 (64 * j + i) else tL t 1 i)) h → Fr m (m + 24) h0 h → WA G F mX6_restore h 0 0 Q 223 [some (.ref m), some (.int (nI j)), some (.int p0), some (.int p1), some (.int p2), some (.int p3), some (.int x6), some (.int x7), x8, x9] []) :
    ∀ (n s : Nat) (h : AH), s + n = 64 → RM m (uLs (uNs t 3 (fun i => if i < s then tN u 11 (64 * j + i) else tN t 3 i)) 1 (fun i => if i < s then tL u 2 (64 * j + i) else tL t 1 i)) h → Fr m (m + 24) h0 h → WA G F mX6_restore h 0 0 Q 172 [some (.ref m), some (.int (nI j)), some (.int p0), some (.int p1), some (.int p2), some (.int p3), some (.int x6), some (.int (nI s)), x8, x9] [] := by
  intro n
  induction n with
  | zero =>
    intro s h hs E f
    obtain rfl : s = 64 := by omega
    refine r_iload (pc := 172) C dX6_restore_172 rfl ?_
    refine r_bipush (pc := 174) (v := (nI 64)) C dX6_restore_174 (by decide) ?_
    refine n_icmp_ge (pc := 176) (tgt := 223) C (by omega) (by omega) dX6_restore_176 (by decide) (fun c176 => ?_) (fun c176 => absurd c176 (by omega))
    exact k h _ E f
  | succ n ih =>
    intro s h hs E f
    have upg : ∀ {α : Type} (g g' : Nat → α), va_up (fun i => if i < s then g i else g' i) s (g s) = fun i => if i < s + 1 then g i else g' i := by
      intro α g g'
      funext i
      unfold va_up
      by_cases h1 : i = s
      · subst h1; simp
      · by_cases h2 : i < s
        · have h3 : i < s + 1 := by omega
          simp [h1, h2, h3]
        · have h3 : ¬ i < s + 1 := by omega
          simp [h1, h2, h3]
    refine r_iload (pc := 172) C dX6_restore_172 rfl ?_
    refine r_bipush (pc := 174) (v := (nI 64)) C dX6_restore_174 (by decide) ?_
    refine n_icmp_ge (pc := 176) (tgt := 223) C (by omega) (by omega) dX6_restore_176 (by decide) (fun c176 => absurd c176 (by omega)) (fun c176 => ?_)
    refine r_aload_n (pc := 179) C dX6_restore_179 rfl rfl ?_
    refine r_getR (pc := 180) C fl_X6_27 E.L.o rfl E.L.r8 dX6_restore_180 ?_
    refine r_iload (pc := 183) C dX6_restore_183 rfl ?_
    refine r_aload_n (pc := 185) C dX6_restore_185 rfl rfl ?_
    refine r_getR (pc := 186) C fl_X6_73 E.L.o rfl E.L.r25 dX6_restore_186 ?_
    refine r_bipush (pc := 189) (v := (nI 64)) C dX6_restore_189 (by decide) ?_
    refine r_iload_n (pc := 191) C dX6_restore_191 rfl rfl ?_
    refine n_imul (pc := 192) C dX6_restore_192 ?_
    refine r_iload (pc := 193) C dX6_restore_193 rfl ?_
    refine n_iadd (pc := 195) C dX6_restore_195 ?_
    refine n_iald (pc := 196) C E.L.s25 (by omega) (show _ = nI (tN u 11 (64 * j + s)) from (E.k_kmany _ (by omega)).trans (by rw [← hk]; rfl)) dX6_restore_196 ?_
    refine n_iast (pc := 197) C E.L.s8 (by omega) dX6_restore_197 ?_
    have E := E.p_many s (tN u 11 (64 * j + s))
    refine r_aload_n (pc := 198) C dX6_restore_198 rfl rfl ?_
    refine r_getR (pc := 199) C fl_X6_30 E.L.o rfl E.L.r9 dX6_restore_199 ?_
    refine r_iload (pc := 202) C dX6_restore_202 rfl ?_
    refine r_aload_n (pc := 204) C dX6_restore_204 rfl rfl ?_
    refine r_getR (pc := 205) C fl_X6_76 E.L.o rfl E.L.r26 dX6_restore_205 ?_
    refine r_bipush (pc := 208) (v := (nI 64)) C dX6_restore_208 (by decide) ?_
    refine r_iload_n (pc := 210) C dX6_restore_210 rfl rfl ?_
    refine n_imul (pc := 211) C dX6_restore_211 ?_
    refine r_iload (pc := 212) C dX6_restore_212 rfl ?_
    refine n_iadd (pc := 214) C dX6_restore_214 ?_
    refine n_lald (pc := 215) C E.L.s26 (by omega) (show _ = tL u 2 (64 * j + s) from (E.k_ksum _ (by omega)).trans (by rw [← hkl]; rfl)) dX6_restore_215 ?_
    refine n_last (pc := 216) C E.L.s9 (by omega) dX6_restore_216 ?_
    have E := E.p_sum s (tL u 2 (64 * j + s))
    refine n_iinc (pc := 217) (lv' := [_, _, _, _, _, _, _, _, _, _]) C dX6_restore_217 rfl (by decide) rfl rfl ?_
    refine r_goto (pc := 220) (tgt := 172) C dX6_restore_220 (by decide) ?_
    have e2 : uL (uN (uLs (uNs t 3 (fun i => if i < s then tN u 11 (64 * j + i) else tN t 3 i)) 1 (fun i => if i < s then tL u 2 (64 * j + i) else tL t 1 i)) 3 s (tN u 11 (64 * j + s))) 1 s (tL u 2 (64 * j + s)) = uLs (uNs t 3 (fun i => if i < s + 1 then tN u 11 (64 * j + i) else tN t 3 i)) 1 (fun i => if i < s + 1 then tL u 2 (64 * j + i) else tL t 1 i) := by
      rw [← upg (fun i => tN u 11 (64 * j + i)), ← upg (fun i => tL u 2 (64 * j + i))]
      show uLs (uLs (uNs (uNs t 3 _) 3 _) 1 _) 1 _ = _
      rw [uLs_same, uNs_same]
      rfl
    rw [e2] at E
    exact ih (s + 1) _ (by omega) E ((f.pI (by omega) (by omega)).pL (by omega) (by omega))
theorem rest_l3 (C : CX G F mX6_restore (Rm 1 0 0)) {h0 : AH} {t : TS} {x p0 p1 p2 p3 : Int32} {x6 : Int32} {x8 x9 : Option Value} (k : ∀ h x7, RM m (uNs t 8 (fun _ => 0)) h → Fr m (m + 24) h0 h → WA G F mX6_restore h 0 0 Q 247 [some (.ref m), some (.int x), some (.int p0), some (.int p1), some (.int p2), some (.int p3), some (.int x6), some (.int x7), x8, x9] []) :
    ∀ (n c : Nat) (a : Nat → Nat) (h : AH), c + n = 16 → (∀ i, i < c → a i = 0) → RM m (uNs t 8 a) h → Fr m (m + 24) h0 h → WA G F mX6_restore h 0 0 Q 226 [some (.ref m), some (.int x), some (.int p0), some (.int p1), some (.int p2), some (.int p3), some (.int x6), some (.int (nI c)), x8, x9] [] := by
  intro n
  induction n with
  | zero =>
    intro c a h hc ha E f
    obtain rfl : c = 16 := by omega
    refine r_iload (pc := 226) C dX6_restore_226 rfl ?_
    refine r_bipush (pc := 228) (v := (nI 16)) C dX6_restore_228 (by decide) ?_
    refine n_icmp_ge (pc := 230) (tgt := 247) C (by omega) (by omega) dX6_restore_230 (by decide) (fun c230 => ?_) (fun c230 => absurd c230 (by omega))
    have E2 := E.c_next (fun _ => 0) (fun i hi => by rw [tN_uNs_s, ha i hi])
    rw [uNs_same] at E2
    exact k h _ E2 f
  | succ n ih =>
    intro c a h hc ha E f
    refine r_iload (pc := 226) C dX6_restore_226 rfl ?_
    refine r_bipush (pc := 228) (v := (nI 16)) C dX6_restore_228 (by decide) ?_
    refine n_icmp_ge (pc := 230) (tgt := 247) C (by omega) (by omega) dX6_restore_230 (by decide) (fun c230 => absurd c230 (by omega)) (fun c230 => ?_)
    refine r_aload_n (pc := 233) C dX6_restore_233 rfl rfl ?_
    refine r_getR (pc := 234) C fl_X6_55 E.L.o rfl E.L.r17 dX6_restore_234 ?_
    refine r_iload (pc := 237) C dX6_restore_237 rfl ?_
    refine r_iconst (pc := 239) (v := (nI 0)) C dX6_restore_239 (by decide) ?_
    refine n_iast (pc := 240) C E.L.s17 (by omega) dX6_restore_240 ?_
    have E := E.p_next c 0
    rw [uN_uNs] at E
    refine n_iinc (pc := 241) (lv' := [_, _, _, _, _, _, _, _, _, _]) C dX6_restore_241 rfl (by decide) rfl rfl ?_
    refine r_goto (pc := 244) (tgt := 226) C dX6_restore_244 (by decide) ?_
    exact ih (c + 1) _ _ (by omega) (up_lt ha) E (f.pI (by omega) (by omega))
theorem uC_uCs {t : TS} {f : Nat → List Nat} {c : Nat} {l : List Nat} : uC (uCs t f) c l = uCs t (va_up f c l) := rfl
theorem uCs_uCs {t : TS} {f g : Nat → List Nat} : uCs (uCs t f) g = uCs t g := rfl
theorem rest_l4 (C : CX G F mX6_restore (Rm 1 0 0)) {h0 : AH} {t : TS} {x p0 p1 p2 p3 : Int32} {x6 : Int32} {x8 x9 : Option Value} (k : ∀ h x7, RM m (uCs t (fun _ => [])) h → Fr m (m + 24) h0 h → WA G F mX6_restore h 0 0 Q 271 [some (.ref m), some (.int x), some (.int p0), some (.int p1), some (.int p2), some (.int p3), some (.int x6), some (.int x7), x8, x9] []) :
    ∀ (n c : Nat) (a : Nat → List Nat) (h : AH), c + n = 48 → (∀ i, i < c → a i = []) → RM m (uCs t a) h → Fr m (m + 24) h0 h → WA G F mX6_restore h 0 0 Q 250 [some (.ref m), some (.int x), some (.int p0), some (.int p1), some (.int p2), some (.int p3), some (.int x6), some (.int (nI c)), x8, x9] [] := by
  intro n
  induction n with
  | zero =>
    intro c a h hc ha E f
    obtain rfl : c = 48 := by omega
    refine r_iload (pc := 250) C dX6_restore_250 rfl ?_
    refine r_bipush (pc := 252) (v := (nI 48)) C dX6_restore_252 (by decide) ?_
    refine n_icmp_ge (pc := 254) (tgt := 271) C (by omega) (by omega) dX6_restore_254 (by decide) (fun c254 => ?_) (fun c254 => absurd c254 (by omega))
    exact k h _ (by rw [← uCs_uCs (f := a)]; exact E.c_ch (fun _ => []) (fun i hi => by rw [tC_uCs, ha i hi])) f
  | succ n ih =>
    intro c a h hc ha E f
    refine r_iload (pc := 250) C dX6_restore_250 rfl ?_
    refine r_bipush (pc := 252) (v := (nI 48)) C dX6_restore_252 (by decide) ?_
    refine n_icmp_ge (pc := 254) (tgt := 271) C (by omega) (by omega) dX6_restore_254 (by decide) (fun c254 => absurd c254 (by omega)) (fun c254 => ?_)
    refine r_aload_n (pc := 257) C dX6_restore_257 rfl rfl ?_
    refine r_getR (pc := 258) C fl_X6_36 E.L.o rfl E.L.r11 dX6_restore_258 ?_
    refine r_iload (pc := 261) C dX6_restore_261 rfl ?_
    refine r_iconst (pc := 263) (v := (nI 0)) C dX6_restore_263 (by decide) ?_
    refine n_iast (pc := 264) C E.L.s11 (by omega) dX6_restore_264 ?_
    have E := E.p_clear (b := c)
    rw [uC_uCs] at E
    refine n_iinc (pc := 265) (lv' := [_, _, _, _, _, _, _, _, _, _]) C dX6_restore_265 rfl (by decide) rfl rfl ?_
    refine r_goto (pc := 268) (tgt := 250) C dX6_restore_268 (by decide) ?_
    refine ih (c + 1) _ _ (by omega) (fun i hi => ?_) E (f.pI (by omega) (by omega))
    unfold va_up
    split
    · rfl
    · exact ha i (by omega)
end RS33
