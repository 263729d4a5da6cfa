/-! ===== the reference: restore, the rows are placed ===== -/
section RS34
variable {G : GP} {F : FX} {m : Nat} {Q : State → Prop}
theorem rest_l6 (C : CX G F mX6_restore (Rm 1 0 0)) {h0 : AH} {j c : Nat} (hj : j < 8) (hc : c < 48) {l : List (Nat × Nat)} (hl : l.length ≤ 200) {p0 p1 p2 p3 : Int32} {x6 : Int32} {tf : TS} (k : ∀ h x8 x9, TB tf → tK tf j = l → (∀ d, (tC tf d).length ≤ l.countP (fun z => decide (z.1 < c)) + l.countP (fun z => decide (z.1 = c))) → RM m tf h → Fr m (m + 24) h0 h → WA G F mX6_restore h 0 0 Q 386 [some (.ref m), some (.int (nI j)), some (.int p0), some (.int p1), some (.int p2), some (.int p3), some (.int x6), some (.int (nI c)), some (.int x8), x9] []) :
    ∀ (rest : List (Nat × Nat)) (i : Nat) (t : TS) (h : AH) (x9 : Option Value), l.drop i = rest → i ≤ l.length → spPl1 c rest t = tf → TB t → tK t j = l → (∀ d, (tC t d).length ≤ l.countP (fun z => decide (z.1 < c)) + (l.take i).countP (fun z => decide (z.1 = c))) → RM m t h → Fr m (m + 24) h0 h → WA G F mX6_restore h 0 0 Q 284 [some (.ref m), some (.int (nI j)), some (.int p0), some (.int p1), some (.int p2), some (.int p3), some (.int x6), some (.int (nI c)), some (.int (nI i)), x9] [] := by
  intro rest
  induction rest with
  | nil =>
    intro i t h x9 hd hi ht B hk hn E f
    have hi2 : l.length ≤ i := List.drop_eq_nil_iff.mp hd
    rw [show spPl1 c [] t = t from rfl] at ht
    subst ht
    refine r_iload (pc := 284) C dX6_restore_284 rfl ?_
    refine r_aload_n (pc := 286) C dX6_restore_286 rfl rfl ?_
    refine r_getR (pc := 287) C fl_X6_79 E.L.o rfl E.L.r27 dX6_restore_287 ?_
    refine r_iload_n (pc := 290) C dX6_restore_290 rfl rfl ?_
    refine n_iald (pc := 291) C E.L.s27 (by omega) ((E.k_klen _ (by omega)).trans (by rw [hk])) dX6_restore_291 ?_
    refine n_icmp_ge (pc := 292) (tgt := 386) C (by omega) (by omega) dX6_restore_292 (by decide) (fun c292 => ?_) (fun c292 => absurd c292 (by omega))
    refine k h _ _ B hk (fun d => ?_) E f
    have := hn d
    rw [List.take_of_length_le hi2] at this
    exact this
  | cons q rs ih =>
    intro i t h x9 hd hi ht B hk hn E f
    have hi2 : i < l.length := by
      rcases Nat.lt_or_ge i l.length with z | z
      · exact z
      · rw [List.drop_eq_nil_iff.mpr z] at hd; cases hd
    have hq? : l[i]? = some q := by
      have e := congrArg List.head? hd
      rw [List.head?_drop] at e
      exact e
    have hgd : l.getD i (0, 0) = q := by rw [List.getD_eq_getElem?_getD, hq?]; rfl
    have hrs : l.drop (i + 1) = rs := by rw [← List.tail_drop, hd]; rfl
    have hqm : q ∈ tK t j := by rw [hk]; exact List.mem_of_getElem? hq?
    have b1 := B.krow hqm
    have b2 := B.fed
    have b3 := B.P (s := c / 16) (by omega)
    have b4 := B.P (s := c / 16 + 1) (by omega)
    have b5 := B.key q.2
    have m1 : tN t 2 q.2 % tN t 1 (c / 16) < tN t 1 (c / 16) := Nat.mod_lt _ (by omega)
    have m2 : tN t 2 q.2 % tN t 1 (c / 16 + 1) < tN t 1 (c / 16 + 1) := Nat.mod_lt _ (by omega)
    have hoc : ownC t c q.2 < 48 := by unfold ownC; omega
    have htk : (l.take (i + 1)).countP (fun z => decide (z.1 = c)) = (l.take i).countP (fun z => decide (z.1 = c)) + (if q.1 = c then 1 else 0) := by
      rw [List.take_succ, hq?, List.countP_append]
      by_cases e : q.1 = c <;> simp [e]
    unfold spPl1 at ht
    refine r_iload (pc := 284) C dX6_restore_284 rfl ?_
    refine r_aload_n (pc := 286) C dX6_restore_286 rfl rfl ?_
    refine r_getR (pc := 287) C fl_X6_79 E.L.o rfl E.L.r27 dX6_restore_287 ?_
    refine r_iload_n (pc := 290) C dX6_restore_290 rfl rfl ?_
    refine n_iald (pc := 291) C E.L.s27 (by omega) ((E.k_klen _ (by omega)).trans (by rw [hk])) dX6_restore_291 ?_
    refine n_icmp_ge (pc := 292) (tgt := 386) C (by omega) (by omega) dX6_restore_292 (by decide) (fun c292 => absurd c292 (by omega)) (fun c292 => ?_)
    refine r_aload_n (pc := 295) C dX6_restore_295 rfl rfl ?_
    refine r_getR (pc := 296) C fl_X6_82 E.L.o rfl E.L.r28 dX6_restore_296 ?_
    refine r_sipush (pc := 299) (v := (nI 200)) C dX6_restore_299 (by decide) ?_
    refine r_iload_n (pc := 302) C dX6_restore_302 rfl rfl ?_
    refine n_imul (pc := 303) C dX6_restore_303 ?_
    refine r_iload (pc := 304) C dX6_restore_304 rfl ?_
    refine n_iadd (pc := 306) C dX6_restore_306 ?_
    refine n_iald (pc := 307) C E.L.s28 (by omega) ((E.k_kch _ (by omega) _ (by rw [hk]; omega)).trans (by rw [hk, hgd])) dX6_restore_307 ?_
    refine r_iload (pc := 308) C dX6_restore_308 rfl ?_
    refine n_icmp_ne (pc := 310) (tgt := 380) C (by omega) (by omega) dX6_restore_310 (by decide) (fun c310 => ?_) (fun c310 => ?_)
    · rw [if_neg c310] at ht
      refine n_iinc (pc := 380) (lv' := [_, _, _, _, _, _, _, _, _, _]) C dX6_restore_380 rfl (by decide) rfl rfl ?_
      refine r_goto (pc := 383) (tgt := 284) C dX6_restore_383 (by decide) ?_
      exact ih (i + 1) _ _ _ hrs (by omega) ht B hk (fun d => by rw [htk, if_neg c310]; exact hn d) E f
    · rw [if_pos c310] at ht
      have hpl : (tC t (ownC t c q.2)).length < 200 := by
        have := placed l i q hq? c310
        have := hn (ownC t c q.2)
        omega
      refine r_aload_n (pc := 313) C dX6_restore_313 rfl rfl ?_
      refine r_getR (pc := 314) C fl_X6_85 E.L.o rfl E.L.r29 dX6_restore_314 ?_
      refine r_sipush (pc := 317) (v := (nI 200)) C dX6_restore_317 (by decide) ?_
      refine r_iload_n (pc := 320) C dX6_restore_320 rfl rfl ?_
      refine n_imul (pc := 321) C dX6_restore_321 ?_
      refine r_iload (pc := 322) C dX6_restore_322 rfl ?_
      refine n_iadd (pc := 324) C dX6_restore_324 ?_
      refine n_iald (pc := 325) C E.L.s29 (by omega) ((E.k_krow _ (by omega) _ (by rw [hk]; omega)).trans (by rw [hk, hgd])) dX6_restore_325 ?_
      refine r_istore (pc := 326) (lv' := [_, _, _, _, _, _, _, _, _, _]) C dX6_restore_326 (by decide) rfl rfl ?_
      refine r_aload_n (pc := 328) C dX6_restore_328 rfl rfl ?_
      refine r_iload (pc := 329) C dX6_restore_329 rfl ?_
      refine r_bipush (pc := 331) (v := (nI 16)) C dX6_restore_331 (by decide) ?_
      refine n_idiv (pc := 333) C (by omega) (by omega) (by omega) dX6_restore_333 ?_
      refine r_aload_n (pc := 334) C dX6_restore_334 rfl rfl ?_
      refine r_getR (pc := 335) C fl_X6_20 E.L.o rfl E.L.r6 dX6_restore_335 ?_
      refine r_iload (pc := 338) C dX6_restore_338 rfl ?_
      refine n_iald (pc := 340) C E.L.s6 (by omega) (E.k_key _ (by omega)) dX6_restore_340 ?_
      refine r_aload_n (pc := 341) C dX6_restore_341 rfl rfl ?_
      refine r_getR (pc := 342) C fl_X6_7 E.L.o rfl E.L.r1 dX6_restore_342 ?_
      refine r_iload (pc := 345) C dX6_restore_345 rfl ?_
      refine r_bipush (pc := 347) (v := (nI 16)) C dX6_restore_347 (by decide) ?_
      refine n_idiv (pc := 349) C (by omega) (by omega) (by omega) dX6_restore_349 ?_
      refine n_iald (pc := 350) C E.L.s1 (by omega) (E.k_P _ (by omega)) dX6_restore_350 ?_
      refine n_irem (pc := 351) C (by omega) (by omega) (by omega) dX6_restore_351 ?_
      refine r_aload_n (pc := 352) C dX6_restore_352 rfl rfl ?_
      refine r_getR (pc := 353) C fl_X6_20 E.L.o rfl E.L.r6 dX6_restore_353 ?_
      refine r_iload (pc := 356) C dX6_restore_356 rfl ?_
      refine n_iald (pc := 358) C E.L.s6 (by omega) (E.k_key _ (by omega)) dX6_restore_358 ?_
      refine r_aload_n (pc := 359) C dX6_restore_359 rfl rfl ?_
      refine r_getR (pc := 360) C fl_X6_7 E.L.o rfl E.L.r1 dX6_restore_360 ?_
      refine r_iload (pc := 363) C dX6_restore_363 rfl ?_
      refine r_bipush (pc := 365) (v := (nI 16)) C dX6_restore_365 (by decide) ?_
      refine n_idiv (pc := 367) C (by omega) (by omega) (by omega) dX6_restore_367 ?_
      refine r_iconst (pc := 368) (v := (nI 1)) C dX6_restore_368 (by decide) ?_
      refine n_iadd (pc := 369) C dX6_restore_369 ?_
      refine n_iald (pc := 370) C E.L.s1 (by omega) (E.k_P _ (by omega)) dX6_restore_370 ?_
      refine n_irem (pc := 371) C (by omega) (by omega) (by omega) dX6_restore_371 ?_
      refine r_calli (cr_S (pc := 372) C (c_X6_at _ _ _ _) dX6_restore_372 cm_X6_at ml_X6_118 st_X6_at ⟨⟨Nat.le_of_ble_eq_true rfl, Nat.le_of_ble_eq_true rfl⟩, Nat.le_of_ble_eq_true rfl, Nat.le_of_ble_eq_true rfl⟩ rfl rfl (Nat.le_of_ble_eq_true rfl)) (fun v372 h372 hq372 => ?_)
      obtain ⟨rfl, rfl⟩ := hq372
      refine r_iload (pc := 375) C dX6_restore_375 rfl ?_
      refine r_callv (cr_V (pc := 377) C (c_X6_put E B (c := ownC t c q.2) (r := q.2) hoc hpl) dX6_restore_377 cm_X6_put ml_X6_143 im_X6_put se_X6_put E.L.o rfl ⟨⟨Nat.le_of_ble_eq_true rfl, Nat.le_of_ble_eq_true rfl⟩, Nat.le_of_ble_eq_true rfl, Nat.le_of_ble_eq_true rfl⟩ rfl rfl (Nat.le_of_ble_eq_true rfl)) (fun h377 hq377 => ?_)
      obtain ⟨E2, f2⟩ := hq377
      refine n_iinc (pc := 380) (lv' := [_, _, _, _, _, _, _, _, _, _]) C dX6_restore_380 rfl (by decide) rfl rfl ?_
      refine r_goto (pc := 383) (tgt := 284) C dX6_restore_383 (by decide) ?_
      refine ih (i + 1) _ _ _ hrs (by omega) ht (B.put hpl b1.2) hk (fun d => ?_) E2 (f.tr f2)
      rw [htk, if_pos c310]
      have := hn d
      show (tC (uC t (ownC t c q.2) (tC t (ownC t c q.2) ++ [q.2])) d).length ≤ _
      rw [tC_uC]
      split
      · rename_i e; subst e; rw [List.length_append]; simp; omega
      · omega
theorem rest_l5 (C : CX G F mX6_restore (Rm 1 0 0)) {h0 : AH} {j : Nat} (hj : j < 8) {l : List (Nat × Nat)} (hl : l.length ≤ 200) {p0 p1 p2 p3 : Int32} {x6 : Int32} {tf : TS} (k : ∀ h x7 x8 x9, tK tf j = l → RM m tf h → Fr m (m + 24) h0 h → WA G F mX6_restore h 0 0 Q 392 [some (.ref m), some (.int (nI j)), some (.int p0), some (.int p1), some (.int p2), some (.int p3), some (.int x6), some (.int x7), x8, x9] []) :
    ∀ (n c : Nat) (t : TS) (h : AH) (x8 x9 : Option Value), c + n = 48 → spPl l n c t = tf → TB t → tK t j = l → (∀ d, (tC t d).length ≤ l.countP (fun z => decide (z.1 < c))) → RM m t h → Fr m (m + 24) h0 h → WA G F mX6_restore h 0 0 Q 274 [some (.ref m), some (.int (nI j)), some (.int p0), some (.int p1), some (.int p2), some (.int p3), some (.int x6), some (.int (nI c)), x8, x9] [] := by
  intro n
  induction n with
  | zero =>
    intro c t h x8 x9 hc ht B hk hn E f
    obtain rfl : c = 48 := by omega
    rw [show spPl l 0 48 t = t from rfl] at ht
    subst ht
    refine r_iload (pc := 274) C dX6_restore_274 rfl ?_
    refine r_bipush (pc := 276) (v := (nI 48)) C dX6_restore_276 (by decide) ?_
    refine n_icmp_ge (pc := 278) (tgt := 392) C (by omega) (by omega) dX6_restore_278 (by decide) (fun c278 => ?_) (fun c278 => absurd c278 (by omega))
    exact k h _ _ _ hk E f
  | succ n ih =>
    intro c t h x8 x9 hc ht B hk hn E f
    unfold spPl at ht
    refine r_iload (pc := 274) C dX6_restore_274 rfl ?_
    refine r_bipush (pc := 276) (v := (nI 48)) C dX6_restore_276 (by decide) ?_
    refine n_icmp_ge (pc := 278) (tgt := 392) C (by omega) (by omega) dX6_restore_278 (by decide) (fun c278 => absurd c278 (by omega)) (fun c278 => ?_)
    refine r_iconst (pc := 281) (v := (nI 0)) C dX6_restore_281 (by decide) ?_
    refine r_istore (pc := 282) (lv' := [_, _, _, _, _, _, _, _, _, _]) C dX6_restore_282 (by decide) rfl rfl ?_
    refine rest_l6 C hj (by omega) hl (fun h1 x8 x9 B1 hk1 hn1 E1 f1 => ?_) l 0 t h _ rfl (Nat.zero_le _) rfl B hk (fun d => by rw [List.take_zero, List.countP_nil]; exact hn d) E f
    refine n_iinc (pc := 386) (lv' := [_, _, _, _, _, _, _, _, _, _]) C dX6_restore_386 rfl (by decide) rfl rfl ?_
    refine r_goto (pc := 389) (tgt := 274) C dX6_restore_389 (by decide) ?_
    exact ih (c + 1) _ h1 _ _ (by omega) ht B1 hk1 (fun d => by rw [countP_next]; exact hn1 d) E1 f1
end RS34
theorem RM.asC {m : Nat} {t : TS} {h : AH} (E : RM m t h) : RM m (uCs t (tC t)) h := E
theorem TB.c1 {t : TS} (B : TB t) {f : Nat → Nat} (hf : ∀ i, i < 4 → 1 ≤ f i ∧ f i ≤ 4) : TB (uNs t 1 f) := by
  obtain ⟨h1, h2, h3, h4, h5, h6, h7, h8, h9, h10, h11, h12, h13, h14, h15, h16, h17, h18, h19⟩ := B
  exact ⟨h1, hf, h3, h4, h5, h6, h7, h8, h9, h10, h11, h12, h13, h14, h15, h16, h17, h18, h19⟩
theorem TB.cC0 {t : TS} (B : TB t) (hb : ∀ c, tN t 4 c = 0) : TB (uCs t (fun _ => [])) := by
  obtain ⟨h1, h2, h3, h4, h5, h6, h7, h8, h9, h10, h11, h12, h13, h14, h15, h16, h17, h18, h19⟩ := B
  exact ⟨h1, h2, h3, h4, h5, h6, h7, h8, h9, fun c => by show tN t 4 c ≤ _; rw [hb c]; exact Nat.zero_le _, h11, h12, h13, h14, h15, fun c => Nat.zero_le _, h17, fun c r hr => absurd hr List.not_mem_nil, h19⟩
/-- no barrier where no mark is under way -/
def TN (t : TS) : Prop := tN t 0 5 = 0 → ∀ c, tN t 4 c = 0
theorem endIf_b {t : TS} (hn : TN t) : ∀ c, tN (spEndIf t) 4 c = 0 := fun c => by
  unfold spEndIf
  split
  · rename_i h; exact hn h c
  · rfl
theorem TB.endIf {t : TS} (B : TB t) : TB (spEndIf t) := by
  unfold spEndIf; split
  · exact B
  · exact B.end (by decide)
theorem Same.endIf {t : TS} : Same t (spEndIf t) := by
  unfold spEndIf; split
  · exact Same.rf
  · exact Same.end
theorem endIf_k {t : TS} : tN (spEndIf t) 11 = tN t 11 ∧ tL (spEndIf t) 2 = tL t 2 ∧ tK (spEndIf t) = tK t := by
  unfold spEndIf; split
  · exact ⟨rfl, rfl, rfl⟩
  · exact ⟨rfl, rfl, rfl⟩
theorem TB.res0 {t : TS} (B : TB t) (hb : ∀ c, tN t 4 c = 0) {j : Nat} {w : Nat → Nat} (hw : ∀ i, i < tN t 0 0 → 1 ≤ w i ∧ w i ≤ 4) : TB (spRes0 t j w) := by
  refine TB.cC0 (TB.c8 (TB.pLs (TB.c3 (TB.c1 B (fun i hi => ?_)) (fun i => ?_)))) hb
  · by_cases h1 : i < tN t 0 0
    · rw [if_pos h1]; exact hw i h1
    · rw [if_neg h1]; exact B.P hi
  · split
    · exact B.kmany _
    · exact B.many i
theorem goodW_pick {t : TS} {p0 p1 p2 p3 : Int32} (b0 : 2 ≤ tN t 0 0 ∧ tN t 0 0 ≤ 4) (g : goodW t p0 p1 p2 p3) : ∀ i, i < tN t 0 0 → pick p0 p1 p2 p3 i = nI (pick p0 p1 p2 p3 i).toNatClampNeg ∧ 1 ≤ (pick p0 p1 p2 p3 i).toNatClampNeg ∧ (pick p0 p1 p2 p3 i).toNatClampNeg ≤ 4 := by
  have one : ∀ y : Int32, nI 1 ≤ y ∧ y ≤ nI 4 → y = nI y.toNatClampNeg ∧ 1 ≤ y.toNatClampNeg ∧ y.toNatClampNeg ≤ 4 := fun y hy => by
    obtain ⟨a, h1, h2, rfl⟩ := inR_of (by decide) hy
    rw [cl (by omega)]
    exact ⟨rfl, h1, h2⟩
  intro i hi
  obtain ⟨g0, g1, g2, g3⟩ := g
  unfold pick
  by_cases h0 : i = 0
  · rw [if_pos h0]; exact one _ g0
  · rw [if_neg h0]
    by_cases h1 : i = 1
    · rw [if_pos h1]; exact one _ g1
    · rw [if_neg h1]
      by_cases h2 : i = 2
      · rw [if_pos h2]; exact one _ (g2.resolve_left (by omega))
      · rw [if_neg h2]; exact one _ (g3.resolve_left (by omega))
theorem c_X6_restore {G : GP} {m : Nat} {t : TS} {h : AH} (E : RM m t h) (B : TB t) (hn : TN t) (x p0 p1 p2 p3 : Int32) : MA G mX6_restore 1 0 0 [.ref m, .int x, .int p0, .int p1, .int p2, .int p3] h (Oi (MP m h (spRestore t x p0 p1 p2 p3))) := by
  have b0 := B.S
  have b1 := B.marks
  have b2 := B.uw
  refine MA.intro (lv := [some (.ref m), some (.int x), some (.int p0), some (.int p1), some (.int p2), some (.int p3), none, none, none, none]) (by decide) (Nat.le_of_ble_eq_true rfl) rfl (fun F C => ?_)
  have t75 : inN x (tN t 0 4) → ¬ goodW t p0 p1 p2 p3 → WA G F mX6_restore h 0 0 (MQA G F 0 0 (Oi (MP m h (spRestore t x p0 p1 p2 p3)))) 75 [some (.ref m), some (.int x), some (.int p0), some (.int p1), some (.int p2), some (.int p3), none, none, none, none] [] := by
    intro hx hg
    refine r_iconst (pc := 75) (v := (nI 0)) C dX6_restore_75 (by decide) ?_
    refine r_istore (pc := 76) (lv' := [_, _, _, _, _, _, _, _, _, _]) C dX6_restore_76 (by decide) rfl rfl ?_
    refine r_iload (pc := 78) C dX6_restore_78 rfl ?_
    refine n_if_ne (pc := 80) (tgt := 86) C (by omega) dX6_restore_80 (by decide) (fun c80 => absurd c80 (by decide)) (fun c80 => ?_)
    refine r_bipush (pc := 83) (v := (-102)) C dX6_restore_83 (by decide) ?_
    exact r_iret (pc := 85) C rfl (Nat.le_of_ble_eq_true rfl) (Nat.le_of_ble_eq_true rfl) ⟨_, rfl, (mp ((cif_t hx).trans (cif_f hg)) E Fr.rf)⟩ dX6_restore_85
  have t112 : ∀ j, j < tN t 0 4 → inN (nI j) (tN t 0 4) → goodW t p0 p1 p2 p3 → tN t 9 j = 1 → ∀ h1 x6, RM m (spEndIf t) h1 → Fr m (m + 24) h h1 → WA G F mX6_restore h1 0 0 (MQA G F 0 0 (Oi (MP m h (spRestore t (nI j) p0 p1 p2 p3)))) 112 [some (.ref m), some (.int (nI j)), some (.int p0), some (.int p1), some (.int p2), some (.int p3), some (.int x6), none, none, none] [] := by
    intro j hj hx hg h9 h1 x6 E1 f1
    have eS : tN (spEndIf t) 0 0 = tN t 0 0 := Same.endIf.2.2.2.2.2.1
    have gp := goodW_pick b0 hg
    have BB : TB (spRes0 (spEndIf t) j (fun i => (pick p0 p1 p2 p3 i).toNatClampNeg)) := B.endIf.res0 (endIf_b hn) (fun i hi => (gp i (by rw [← eS]; exact hi)).2)
    have eK : tK (spRes0 (spEndIf t) j (fun i => (pick p0 p1 p2 p3 i).toNatClampNeg)) j = tK t j := by
      show tK (spEndIf t) j = _
      rw [endIf_k.2.2]
    have fin : ∀ h2 x7 x8 x9, RM m (spRes t j (fun i => (pick p0 p1 p2 p3 i).toNatClampNeg)) h2 → tK (spRes t j (fun i => (pick p0 p1 p2 p3 i).toNatClampNeg)) j = tK t j → Fr m (m + 24) h h2 → WA G F mX6_restore h2 0 0 (MQA G F 0 0 (Oi (MP m h (spRestore t (nI j) p0 p1 p2 p3)))) 392 [some (.ref m), some (.int (nI j)), some (.int p0), some (.int p1), some (.int p2), some (.int p3), some (.int x6), some (.int x7), x8, x9] [] := by
      intro h2 x7 x8 x9 E ek f2
      refine r_aload_n (pc := 392) C dX6_restore_392 rfl rfl ?_
      refine r_getR (pc := 393) C fl_X6_79 E.L.o rfl E.L.r27 dX6_restore_393 ?_
      refine r_iload_n (pc := 396) C dX6_restore_396 rfl rfl ?_
      refine n_iald (pc := 397) C E.L.s27 (by omega) ((E.k_klen _ (by omega)).trans (by rw [ek])) dX6_restore_397 ?_
      exact r_iret (pc := 398) C rfl (Nat.le_of_ble_eq_true rfl) (Nat.le_of_ble_eq_true rfl) ⟨_, rfl, (mp ((cif_t hx).trans ((cif_t hg).trans ((cif_t (by rw [cl (by omega)]; exact h9)).trans (by rw [cl (by omega)])))) E f2)⟩ dX6_restore_398
    refine r_iconst (pc := 112) (v := (nI 0)) C dX6_restore_112 (by decide) ?_
    refine r_istore (pc := 113) (lv' := [_, _, _, _, _, _, _, _, _, _]) C dX6_restore_113 (by decide) rfl rfl ?_
    refine rest_l1 (t := spEndIf t) (w := fun i => (pick p0 p1 p2 p3 i).toNatClampNeg) C (by rw [eS]; exact b0) (fun i hi => (gp i (by rw [← eS]; exact hi)).1) (fun h2 x7 E2 f2 => ?_) (tN t 0 0) 0 h1 (by rw [eS]; omega) (by rw [show (fun i => if i < 0 then (pick p0 p1 p2 p3 i).toNatClampNeg else tN (spEndIf t) 1 i) = tN (spEndIf t) 1 from funext fun i => if_neg (Nat.not_lt_zero i), uNs_id]; exact E1) f1
    refine r_iconst (pc := 169) (v := (nI 0)) C dX6_restore_169 (by decide) ?_
    refine r_istore (pc := 170) (lv' := [_, _, _, _, _, _, _, _, _, _]) C dX6_restore_170 (by decide) rfl rfl ?_
    refine rest_l2 (t := uNs (spEndIf t) 1 (fun i => if i < tN (spEndIf t) 0 0 then (pick p0 p1 p2 p3 i).toNatClampNeg else tN (spEndIf t) 1 i)) (u := spEndIf t) C (by omega) rfl rfl (fun h3 x7 E3 f3 => ?_) 64 0 h2 rfl (by rw [show (fun i => if i < 0 then tN (spEndIf t) 11 (64 * j + i) else tN (uNs (spEndIf t) 1 (fun i => if i < tN (spEndIf t) 0 0 then (pick p0 p1 p2 p3 i).toNatClampNeg else tN (spEndIf t) 1 i)) 3 i) = tN (uNs (spEndIf t) 1 (fun i => if i < tN (spEndIf t) 0 0 then (pick p0 p1 p2 p3 i).toNatClampNeg else tN (spEndIf t) 1 i)) 3 from funext fun i => if_neg (Nat.not_lt_zero i), show (fun i => if i < 0 then tL (spEndIf t) 2 (64 * j + i) else tL (uNs (spEndIf t) 1 (fun i => if i < tN (spEndIf t) 0 0 then (pick p0 p1 p2 p3 i).toNatClampNeg else tN (spEndIf t) 1 i)) 1 i) = tL (uNs (spEndIf t) 1 (fun i => if i < tN (spEndIf t) 0 0 then (pick p0 p1 p2 p3 i).toNatClampNeg else tN (spEndIf t) 1 i)) 1 from funext fun i => if_neg (Nat.not_lt_zero i), uNs_id, uLs_id]; exact E2) f2
    refine r_iconst (pc := 223) (v := (nI 0)) C dX6_restore_223 (by decide) ?_
    refine r_istore (pc := 224) (lv' := [_, _, _, _, _, _, _, _, _, _]) C dX6_restore_224 (by decide) rfl rfl ?_
    refine rest_l3 C (fun h4 x7 E4 f4 => ?_) 16 0 _ h3 rfl (fun i hi => absurd hi (by omega)) (by rw [uNs_id]; exact E3) f3
    refine r_iconst (pc := 247) (v := (nI 0)) C dX6_restore_247 (by decide) ?_
    refine r_istore (pc := 248) (lv' := [_, _, _, _, _, _, _, _, _, _]) C dX6_restore_248 (by decide) rfl rfl ?_
    refine rest_l4 C (fun h5 x7 E5 f5 => ?_) 48 0 _ h4 rfl (fun i hi => absurd hi (by omega)) E4.asC f4
    refine r_iconst (pc := 271) (v := (nI 0)) C dX6_restore_271 (by decide) ?_
    refine r_istore (pc := 272) (lv' := [_, _, _, _, _, _, _, _, _, _]) C dX6_restore_272 (by decide) rfl rfl ?_
    exact rest_l5 (l := tK t j) C (by omega) (B.klen j) (tf := spRes t j (fun i => (pick p0 p1 p2 p3 i).toNatClampNeg)) (fun h6 x7 x8 x9 ek E6 f6 => fin h6 x7 x8 x9 E6 ek f6) 48 0 _ h5 _ _ rfl rfl BB eK (fun d => Nat.zero_le _) E5 f5
  have t71 : inN x (tN t 0 4) → goodW t p0 p1 p2 p3 → WA G F mX6_restore h 0 0 (MQA G F 0 0 (Oi (MP m h (spRestore t x p0 p1 p2 p3)))) 71 [some (.ref m), some (.int x), some (.int p0), some (.int p1), some (.int p2), some (.int p3), none, none, none, none] [] := by
    intro hx hg
    obtain ⟨j, hj, rfl⟩ := id hx
    have b3 := B.stat j
    refine r_iconst (pc := 71) (v := (nI 1)) C dX6_restore_71 (by decide) ?_
    refine r_goto (pc := 72) (tgt := 76) C dX6_restore_72 (by decide) ?_
    refine r_istore (pc := 76) (lv' := [_, _, _, _, _, _, _, _, _, _]) C dX6_restore_76 (by decide) rfl rfl ?_
    refine r_iload (pc := 78) C dX6_restore_78 rfl ?_
    refine n_if_ne (pc := 80) (tgt := 86) C (by omega) dX6_restore_80 (by decide) (fun c80 => ?_) (fun c80 => absurd c80 (by decide))
    refine r_aload_n (pc := 86) C dX6_restore_86 rfl rfl ?_
    refine r_getR (pc := 87) C fl_X6_61 E.L.o rfl E.L.r21 dX6_restore_87 ?_
    refine r_iload_n (pc := 90) C dX6_restore_90 rfl rfl ?_
    refine n_iald (pc := 91) C E.L.s21 (by omega) (E.k_stat _ (by omega)) dX6_restore_91 ?_
    refine r_iconst (pc := 92) (v := (nI 1)) C dX6_restore_92 (by decide) ?_
    refine n_icmp_eq (pc := 93) (tgt := 99) C (by omega) (by omega) dX6_restore_93 (by decide) (fun c93 => ?_) (fun c93 => ?_)
    · refine r_aload_n (pc := 99) C dX6_restore_99 rfl rfl ?_
      refine r_getIe (pc := 100) C fl_X6_58 E.L.o rfl E.uw dX6_restore_100 ?_
      refine r_iconst (pc := 103) (v := (-1)) C dX6_restore_103 (by decide) ?_
      refine r_icmp_eq (pc := 104) (tgt := 112) C dX6_restore_104 (by decide) (fun c104 => ?_) (fun c104 => ?_)
      · exact t112 j hj hx hg c93 h _ (by unfold spEndIf; rw [if_pos ((uwm1 (by omega)).mp c104)]; exact E) Fr.rf
      · have hu : ¬ tN t 0 5 = 0 := fun z => c104 ((uwm1 (by omega)).mpr z)
        refine r_aload_n (pc := 107) C dX6_restore_107 rfl rfl ?_
        refine r_iconst (pc := 108) (v := (nI 2)) C dX6_restore_108 (by decide) ?_
        refine r_callv (cr_V (pc := 109) C (c_X6_end E B (j := tN t 0 5 - 1) (by omega) 2) dX6_restore_109 cm_X6_end ml_X6_114 im_X6_end se_X6_end E.L.o rfl ⟨⟨Nat.le_of_ble_eq_true rfl, Nat.le_of_ble_eq_true rfl⟩, Nat.le_of_ble_eq_true rfl, Nat.le_of_ble_eq_true rfl⟩ rfl rfl (Nat.le_of_ble_eq_true rfl)) (fun h109 hq109 => ?_)
        obtain ⟨E2, f2⟩ := hq109
        exact t112 j hj hx hg c93 _ _ (by unfold spEndIf; rw [if_neg hu]; exact E2) f2
    · refine r_bipush (pc := 96) (v := (-103)) C dX6_restore_96 (by decide) ?_
      exact r_iret (pc := 98) C rfl (Nat.le_of_ble_eq_true rfl) (Nat.le_of_ble_eq_true rfl) ⟨_, rfl, (mp ((cif_t hx).trans ((cif_t hg).trans (cif_f (by rw [cl (by omega)]; exact c93)))) E Fr.rf)⟩ dX6_restore_98
  refine r_iload_n (pc := 0) C dX6_restore_0 rfl rfl ?_
  refine r_iconst (pc := 1) (v := (nI 0)) C dX6_restore_1 (by decide) ?_
  refine r_aload_n (pc := 2) C dX6_restore_2 rfl rfl ?_
  refine r_getIe (pc := 3) C fl_X6_105 E.L.o rfl E.marks dX6_restore_3 ?_
  refine r_iconst (pc := 6) (v := (nI 1)) C dX6_restore_6 (by decide) ?_
  refine r_isub (pc := 7) C dX6_restore_7 ?_
  refine r_calli (cr_S (pc := 8) C (c_X6_in _ _ _ _) dX6_restore_8 cm_X6_in ml_X6_94 st_X6_in ⟨⟨Nat.le_of_ble_eq_true rfl, Nat.le_of_ble_eq_true rfl⟩, Nat.le_of_ble_eq_true rfl, Nat.le_of_ble_eq_true rfl⟩ rfl rfl (Nat.le_of_ble_eq_true rfl)) (fun v8 h8 hq8 => ?_)
  obtain ⟨rfl, rfl⟩ := hq8
  rw [bI_congr (inN_iff0 (by omega))]
  refine b_if_ne (pc := 11) (tgt := 17) C dX6_restore_11 (by decide) (fun c11 => ?_) (fun c11 => ?_)
  · refine r_iload_n (pc := 17) C dX6_restore_17 rfl rfl ?_
    refine r_iconst (pc := 18) (v := (nI 1)) C dX6_restore_18 (by decide) ?_
    refine r_iconst (pc := 19) (v := (nI 4)) C dX6_restore_19 (by decide) ?_
    refine r_calli (cr_S (pc := 20) C (c_X6_in _ _ _ _) dX6_restore_20 cm_X6_in ml_X6_94 st_X6_in ⟨⟨Nat.le_of_ble_eq_true rfl, Nat.le_of_ble_eq_true rfl⟩, Nat.le_of_ble_eq_true rfl, Nat.le_of_ble_eq_true rfl⟩ rfl rfl (Nat.le_of_ble_eq_true rfl)) (fun v20 h20 hq20 => ?_)
    obtain ⟨rfl, rfl⟩ := hq20
    refine b_if_eq (pc := 23) (tgt := 75) C dX6_restore_23 (by decide) (fun c23 => ?_) (fun c23 => ?_)
    · exact t75 c11 (fun z => c23 z.1)
    · refine r_iload_n (pc := 26) C dX6_restore_26 rfl rfl ?_
      refine r_iconst (pc := 27) (v := (nI 1)) C dX6_restore_27 (by decide) ?_
      refine r_iconst (pc := 28) (v := (nI 4)) C dX6_restore_28 (by decide) ?_
      refine r_calli (cr_S (pc := 29) C (c_X6_in _ _ _ _) dX6_restore_29 cm_X6_in ml_X6_94 st_X6_in ⟨⟨Nat.le_of_ble_eq_true rfl, Nat.le_of_ble_eq_true rfl⟩, Nat.le_of_ble_eq_true rfl, Nat.le_of_ble_eq_true rfl⟩ rfl rfl (Nat.le_of_ble_eq_true rfl)) (fun v29 h29 hq29 => ?_)
      obtain ⟨rfl, rfl⟩ := hq29
      refine b_if_eq (pc := 32) (tgt := 75) C dX6_restore_32 (by decide) (fun c32 => ?_) (fun c32 => ?_)
      · exact t75 c11 (fun z => c32 z.2.1)
      · refine r_aload_n (pc := 35) C dX6_restore_35 rfl rfl ?_
        refine r_getIe (pc := 36) C fl_X6_91 E.L.o rfl E.S dX6_restore_36 ?_
        refine r_iconst (pc := 39) (v := (nI 3)) C dX6_restore_39 (by decide) ?_
        refine n_icmp_lt (pc := 40) (tgt := 53) C (by omega) (by omega) dX6_restore_40 (by decide) (fun c40 => ?_) (fun c40 => ?_)
        · have c53 : tN t 0 0 < 3 ∨ (nI 1 ≤ p2 ∧ p2 ≤ nI 4) := by first | exact Or.inl c40 | exact Or.inr c50
          refine r_aload_n (pc := 53) C dX6_restore_53 rfl rfl ?_
          refine r_getIe (pc := 54) C fl_X6_91 E.L.o rfl E.S dX6_restore_54 ?_
          refine r_iconst (pc := 57) (v := (nI 4)) C dX6_restore_57 (by decide) ?_
          refine n_icmp_lt (pc := 58) (tgt := 71) C (by omega) (by omega) dX6_restore_58 (by decide) (fun c58 => ?_) (fun c58 => ?_)
          · exact t71 c11 ⟨c23, c32, c53, Or.inl c58⟩
          · refine r_iload (pc := 61) C dX6_restore_61 rfl ?_
            refine r_iconst (pc := 63) (v := (nI 1)) C dX6_restore_63 (by decide) ?_
            refine r_iconst (pc := 64) (v := (nI 4)) C dX6_restore_64 (by decide) ?_
            refine r_calli (cr_S (pc := 65) C (c_X6_in _ _ _ _) dX6_restore_65 cm_X6_in ml_X6_94 st_X6_in ⟨⟨Nat.le_of_ble_eq_true rfl, Nat.le_of_ble_eq_true rfl⟩, Nat.le_of_ble_eq_true rfl, Nat.le_of_ble_eq_true rfl⟩ rfl rfl (Nat.le_of_ble_eq_true rfl)) (fun v65 h65 hq65 => ?_)
            obtain ⟨rfl, rfl⟩ := hq65
            refine b_if_eq (pc := 68) (tgt := 75) C dX6_restore_68 (by decide) (fun c68 => ?_) (fun c68 => ?_)
            · exact t75 c11 (fun z => z.2.2.2.elim (fun y => by omega) c68)
            · exact t71 c11 ⟨c23, c32, c53, Or.inr c68⟩
        · refine r_iload (pc := 43) C dX6_restore_43 rfl ?_
          refine r_iconst (pc := 45) (v := (nI 1)) C dX6_restore_45 (by decide) ?_
          refine r_iconst (pc := 46) (v := (nI 4)) C dX6_restore_46 (by decide) ?_
          refine r_calli (cr_S (pc := 47) C (c_X6_in _ _ _ _) dX6_restore_47 cm_X6_in ml_X6_94 st_X6_in ⟨⟨Nat.le_of_ble_eq_true rfl, Nat.le_of_ble_eq_true rfl⟩, Nat.le_of_ble_eq_true rfl, Nat.le_of_ble_eq_true rfl⟩ rfl rfl (Nat.le_of_ble_eq_true rfl)) (fun v47 h47 hq47 => ?_)
          obtain ⟨rfl, rfl⟩ := hq47
          refine b_if_eq (pc := 50) (tgt := 75) C dX6_restore_50 (by decide) (fun c50 => ?_) (fun c50 => ?_)
          · exact t75 c11 (fun z => z.2.2.1.elim (fun y => by omega) c50)
          · have c53 : tN t 0 0 < 3 ∨ (nI 1 ≤ p2 ∧ p2 ≤ nI 4) := by first | exact Or.inl c40 | exact Or.inr c50
            refine r_aload_n (pc := 53) C dX6_restore_53 rfl rfl ?_
            refine r_getIe (pc := 54) C fl_X6_91 E.L.o rfl E.S dX6_restore_54 ?_
            refine r_iconst (pc := 57) (v := (nI 4)) C dX6_restore_57 (by decide) ?_
            refine n_icmp_lt (pc := 58) (tgt := 71) C (by omega) (by omega) dX6_restore_58 (by decide) (fun c58 => ?_) (fun c58 => ?_)
            · exact t71 c11 ⟨c23, c32, c53, Or.inl c58⟩
            · refine r_iload (pc := 61) C dX6_restore_61 rfl ?_
              refine r_iconst (pc := 63) (v := (nI 1)) C dX6_restore_63 (by decide) ?_
              refine r_iconst (pc := 64) (v := (nI 4)) C dX6_restore_64 (by decide) ?_
              refine r_calli (cr_S (pc := 65) C (c_X6_in _ _ _ _) dX6_restore_65 cm_X6_in ml_X6_94 st_X6_in ⟨⟨Nat.le_of_ble_eq_true rfl, Nat.le_of_ble_eq_true rfl⟩, Nat.le_of_ble_eq_true rfl, Nat.le_of_ble_eq_true rfl⟩ rfl rfl (Nat.le_of_ble_eq_true rfl)) (fun v65 h65 hq65 => ?_)
              obtain ⟨rfl, rfl⟩ := hq65
              refine b_if_eq (pc := 68) (tgt := 75) C dX6_restore_68 (by decide) (fun c68 => ?_) (fun c68 => ?_)
              · exact t75 c11 (fun z => z.2.2.2.elim (fun y => by omega) c68)
              · exact t71 c11 ⟨c23, c32, c53, Or.inr c68⟩
  · refine r_bipush (pc := 14) (v := (-101)) C dX6_restore_14 (by decide) ?_
    exact r_iret (pc := 16) C rfl (Nat.le_of_ble_eq_true rfl) (Nat.le_of_ble_eq_true rfl) ⟨_, rfl, (mp (cif_f c11) E Fr.rf)⟩ dX6_restore_16
