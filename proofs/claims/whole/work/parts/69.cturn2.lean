/-! ===== the class: a turn, runs ===== -/
theorem keepL_5 {c : Nat} : ∀ (l : List Nat) (t : TS), tN (spKeepL c l t) 0 5 = 0 ∨ tN (spKeepL c l t) 5 = tN t 5
  | [], t => Or.inr rfl
  | r :: l, t => by
    unfold spKeepL
    split
    · exact Or.inr rfl
    · have h1 : tN (spKeep t c r) 0 5 = 0 ∨ tN (spKeep t c r) 5 = tN t 5 := by
        unfold spKeep
        split
        · exact Or.inl rfl
        · exact Or.inr rfl
      rcases h1 with z | z
      · left
        cases l with
        | nil => exact z
        | cons a l => unfold spKeepL; rw [if_pos z]; exact z
      · rcases keepL_5 l (spKeep t c r) with y | y
        · exact Or.inl y
        · exact Or.inr (y.trans z)
theorem to_5 {j s q lo : Nat} : ∀ (n d : Nat) (t : TS), tN (spTo j s q lo n d t) 0 5 = 0 ∨ tN (spTo j s q lo n d t) 5 = tN t 5
  | 0, d, t => Or.inr rfl
  | n + 1, d, t => by
    unfold spTo
    split
    · exact Or.inr rfl
    · split
      · exact to_5 n (d + 1) _
      · have h1 := keepL_5 (c := 16 * s + 4 * q + d) (tC t (16 * s + 4 * q + d)) (spBar t j (16 * s + 4 * q + d) lo)
        rcases h1 with z | z
        · rw [spTo_0 z]; exact Or.inl z
        · rcases to_5 (j := j) (s := s) (q := q) (lo := lo) n (d + 1) (spKeepL (16 * s + 4 * q + d) (tC t (16 * s + 4 * q + d)) (spBar t j (16 * s + 4 * q + d) lo)) with y | y
          · exact Or.inl y
          · exact Or.inr (y.trans z)
theorem part_5 {s q lo : Nat} (t : TS) : tN (spPart t s q lo) 0 5 = 0 ∨ tN (spPart t s q lo) 5 = tN t 5 := by
  unfold spPart
  split
  · exact to_5 _ _ _
  · exact Or.inr rfl
theorem settle_id {t : TS} {s q lo : Nat} (hs1 : 1 ≤ s) (hs : s < tN t 0 0) (hq : q < tN t 1 s) (hna : ¬ allC t s q) : spSettle (spPart t s q lo) = spPart t s q lo := by
  have sm := Same.part (t := t) (s := s) (q := q) (lo := lo)
  refine cif_f (fun z => ?_)
  rcases part_5 (s := s) (q := q) (lo := lo) t with y | y
  · exact z.1 y
  · have := (z.2 s (by rw [sm.2.2.2.2.2.1]; exact hs) q (by rw [sm.1]; exact hq)).2
    rcases this with v | v
    · omega
    · exact hna (fun f hf => by have := v f (by rw [sm.1]; exact hf); rwa [y] at this)
section TF69
variable {t : TS}
theorem off_8 {i v c : Nat} : spOff (uN t 8 i v) c = uN (spOff t c) 8 i v := by
  refine TS_ext (fun k => ?_) rfl rfl rfl rfl
  show tN (uN (uN t 8 i v) 4 c _) k = tN (uN (uN t 4 c _) 8 i v) k
  simp only [tN_u]
  by_cases h4 : k = 4
  · subst h4; rfl
  · by_cases h8 : k = 8
    · subst h8; rfl
    · simp [h4, h8]
theorem take_8 {i v s r : Nat} : spTake (uN t 8 i v) s r = uN (spTake t s r) 8 i v := by
  refine TS_ext (fun k => ?_) rfl rfl rfl rfl
  show tN (uN (uN t 8 i v) 3 _ _) k = tN (uN (uN t 3 _ _) 8 i v) k
  simp only [tN_u]
  by_cases h4 : k = 3
  · subst h4; rfl
  · by_cases h8 : k = 8
    · subst h8; rfl
    · simp [h4, h8]
theorem take_12 {i s r : Nat} : spTake (uN t 12 i 1) s r = uN (spTake t s r) 12 i 1 := by
  refine TS_ext (fun k => ?_) rfl rfl rfl rfl
  show tN (uN (uN t 12 i 1) 3 _ _) k = tN (uN (uN t 3 _ _) 12 i 1) k
  simp only [tN_u]
  by_cases h4 : k = 3
  · subst h4; rfl
  · by_cases h8 : k = 12
    · subst h8; rfl
    · simp [h4, h8]
theorem take_end {s r how : Nat} : spTake (spEnd t how) s r = spEnd (spTake t s r) how := by
  refine TS_ext (fun k => ?_) rfl rfl rfl rfl
  show tN (uN (spEnd t how) 3 _ _) k = tN (spEnd (spTake t s r) how) k
  rw [tN_u]
  by_cases h3 : k = 3
  · subst h3; rfl
  · rw [if_neg h3]
    unfold spEnd
    simp only [tN_s, tN_u]
    by_cases h7 : k = 7
    · rw [if_pos h7, if_pos h7]
    · rw [if_neg h7, if_neg h7]
      by_cases h6 : k = 6
      · rw [if_pos h6, if_pos h6]
      · rw [if_neg h6, if_neg h6]
        by_cases h5 : k = 5
        · rw [if_pos h5, if_pos h5]
        · rw [if_neg h5, if_neg h5]
          by_cases h4 : k = 4
          · rw [if_pos h4, if_pos h4]
          · rw [if_neg h4, if_neg h4]
            by_cases h0 : k = 0
            · subst h0; rfl
            · rw [if_neg h0, if_neg h0]
              by_cases h9 : k = 9
              · subst h9; rfl
              · show (if k = 9 then _ else tN t k) = (if k = 9 then _ else if k = 3 then _ else tN t k)
                rw [if_neg h9, if_neg h9, if_neg h3]
theorem take_kept {s q c r r' : Nat} : spTake (spKept t s q c r) s r' = spKept (spTake t s r') s q c r := by
  unfold spKept
  by_cases hc : tN t 0 5 ≠ 0 ∧ tN t 6 (4 * s + q) ≠ 0 ∧ tN t 5 c = 0
  · rw [cif_t hc, cif_t (show tN (spTake t s r') 0 5 ≠ 0 ∧ tN (spTake t s r') 6 (4 * s + q) ≠ 0 ∧ tN (spTake t s r') 5 c = 0 from hc)]
    show spTake (spKeep (uN t 12 (48 * (tN t 0 5 - 1) + c) 1) c r) s r' = spKeep (uN (spTake t s r') 12 (48 * (tN t 0 5 - 1) + c) 1) c r
    rw [← take_12]
    generalize uN t 12 (48 * (tN t 0 5 - 1) + c) 1 = u
    unfold spKeep
    show spTake (if tN u 0 2 < (tK u (tN u 0 5 - 1)).length + 1 then _ else _) s r' = (if tN u 0 2 < (tK u (tN u 0 5 - 1)).length + 1 then _ else _)
    split
    · exact take_end
    · rfl
  · rw [cif_f hc, cif_f (show ¬ (tN (spTake t s r') 0 5 ≠ 0 ∧ tN (spTake t s r') 6 (4 * s + q) ≠ 0 ∧ tN (spTake t s r') 5 c = 0) from hc)]
/-- what taking a row from task f leaves -/
noncomputable def tkF (t : TS) (s q f : Nat) : TS := cif (s + 1 < tN t 0 0)
      (spPut (spKept (uN (spTake (spOff t (16 * (s - 1) + 4 * f + q)) s ((tC t (16 * (s - 1) + 4 * f + q)).headD 0)) 8 (4 * s + q) ((f + 1) % tN t 1 (s - 1))) s q (16 * (s - 1) + 4 * f + q) ((tC t (16 * (s - 1) + 4 * f + q)).headD 0)) (outC t s q ((tC t (16 * (s - 1) + 4 * f + q)).headD 0)) ((tC t (16 * (s - 1) + 4 * f + q)).headD 0))
      (spKept (uN (spTake (spOff t (16 * (s - 1) + 4 * f + q)) s ((tC t (16 * (s - 1) + 4 * f + q)).headD 0)) 8 (4 * s + q) ((f + 1) % tN t 1 (s - 1))) s q (16 * (s - 1) + 4 * f + q) ((tC t (16 * (s - 1) + 4 * f + q)).headD 0))
theorem tf_eq {s q f : Nat} : spTakeFrom t s q f = cif (canT t s q f) (some (tkF t s q f)) none := by
  unfold spTakeFrom canT
  by_cases h1 : tC t (16 * (s - 1) + 4 * f + q) = [] ∨ shut t s q (16 * (s - 1) + 4 * f + q)
  · rw [cif_t h1, cif_f (fun z => z.1 h1)]
  · rw [cif_f h1]
    by_cases h2 : s + 1 < tN t 0 0 ∧ tN t 0 1 ≤ (tC t (outC t s q ((tC t (16 * (s - 1) + 4 * f + q)).headD 0))).length
    · rw [cif_t h2, cif_f (fun z => z.2 h2)]
    · refine (cif_f h2).trans ?_
      exact (cif_t (p := ¬ (tC t (16 * (s - 1) + 4 * f + q) = [] ∨ shut t s q (16 * (s - 1) + 4 * f + q)) ∧ ¬ (s + 1 < tN t 0 0 ∧ tN t 0 1 ≤ (tC t (outC t s q ((tC t (16 * (s - 1) + 4 * f + q)).headD 0))).length)) ⟨h1, h2⟩).symm
theorem rows_eq {s q a : Nat} : ∀ n i, spRows t s q a n i = match fstT t s q a n i with | some f => (1, tkF t s q f) | none => (0, t)
  | 0, i => rfl
  | n + 1, i => by
    have ih := rows_eq (s := s) (q := q) (a := a) n (i + 1)
    unfold spRows fstT
    rw [tf_eq]
    by_cases hc : canT t s q ((a + i) % tN t 1 (s - 1))
    · rw [cif_t hc, cif_t hc]
    · rw [cif_f hc, cif_f hc]; exact ih
theorem fstT_some {s q a f : Nat} : ∀ n i, fstT t s q a n i = some f → canT t s q f ∧ ∃ k, f = k % tN t 1 (s - 1)
  | 0, i, h => by cases h
  | n + 1, i, h => by
    unfold fstT at h
    by_cases hc : canT t s q ((a + i) % tN t 1 (s - 1))
    · rw [cif_t hc] at h
      injection h with h
      subst h
      exact ⟨hc, _, rfl⟩
    · rw [cif_f hc] at h
      exact fstT_some n (i + 1) h
theorem Ext.pass {e : ES} (H : Ext t e) {s r : Nat} (hs1 : 1 ≤ s) : Ext (spPass t s r) e := by
  have h0 : Ext (spTake t s r) e := by
    obtain ⟨a1, a2, a3, a4, a5, a6, a7, a8⟩ := H
    refine ⟨fun k hk => ?_, a2, a3, fun s' q' hs' hq' => ?_, fun j hj => ?_, a6, a7, a8⟩
    · have := a1 k hk
      unfold unrOK at this ⊢
      have m3 : tN (spTake t s r) 3 k = tN t 3 k := by
        show tN (uN t 3 (16 * s + tN t 2 r) _) 3 k = _
        rw [tN_uN, if_neg (by omega)]
      simp only [cnt_cg (t := t) (t' := spTake t s r) rfl, m3]
      exact this
    · rw [cmN_cg (t := t) (t' := spTake t s r) rfl]; exact a4 s' q' hs' hq'
    · rw [lsN_cg (t := t) (t' := spTake t s r) rfl]; exact a5 j hj
  unfold spPass
  split
  · exact h0.cg rfl rfl rfl rfl rfl rfl rfl rfl rfl rfl rfl rfl rfl rfl rfl rfl
  · exact h0
end TF69
theorem isRd_cg {t t' : TS} (h2 : tN t' 2 = tN t 2) (h3 : tN t' 3 = tN t 3) {r : Nat} : isRd t' r ↔ isRd t r := by
  unfold isRd; rw [cnt_cg h2, h2, h3]
theorem CG.turns {t : TS} (A : CG t) (v : Int32) : CG (uI t 0 1 v) := by
  obtain ⟨a1, a2, a3, a4, a5, a6, a7⟩ := A
  refine ⟨a1.turns v, a2, a3, a4, a5, fun c r hr => (isRd_cg (t := t) (t' := uI t 0 1 v) rfl rfl).mpr (a6 c r hr), fun k hk => ?_⟩
  rw [cnt_cg (t := t) (t' := uI t 0 1 v) rfl]; exact a7 k hk
section CM69
variable {G : GP} {x m : Nat} {t : TS} {e : ES} {h : AH}
theorem c_X5_makeTurn (E : RX x m t e h) (A : CG t) (H : Ext t e) {s q : Nat} (hs : s < tN t 0 0) (hq : q < tN t 1 s) : MA G mX5_makeTurn 5 0 0 [.ref x, .int (nI s), .int (nI q)] h (Oi (fun v h' => v = nI (spTurn t s q).1 ∧ XT x m h (spTurn t s q).2 h')) := by
  have b := E.L.b
  refine MA.intro (lv := [some (.ref x), some (.int (nI s)), some (.int (nI q)), none, none, none, none, none]) (by decide) (Nat.le_of_ble_eq_true rfl) rfl (fun F C => ?_)
  have t10 : ∀ h', RX x m (uI t 0 1 (tI t 0 1 + 1)) e h' → Fq (Px m) h h' → WA G F mX5_makeTurn h' 0 0 (MQA G F 0 0 (Oi (fun v h' => v = nI (spTurn t s q).1 ∧ XT x m h (spTurn t s q).2 h'))) 10 [some (.ref x), some (.int (nI s)), some (.int (nI q)), none, none, none, none, none] [] := by
    have A0 := A.turns (tI t 0 1 + 1)
    have H0 : Ext (uI t 0 1 (tI t 0 1 + 1)) e := H.cg rfl rfl rfl rfl rfl rfl rfl rfl rfl rfl rfl rfl rfl rfl rfl rfl
    have es : spTurn t s q = if s = 0 then spSource (uI t 0 1 (tI t 0 1 + 1)) q else spTurn1 (uI t 0 1 (tI t 0 1 + 1)) s q := rfl
    have hs0 : s < tN (uI t 0 1 (tI t 0 1 + 1)) 0 0 := hs
    have hq0 : q < tN (uI t 0 1 (tI t 0 1 + 1)) 1 s := hq
    have b0 : x + 20 * tN (uI t 0 1 (tI t 0 1 + 1)) 0 0 ≤ m := b.2.2.2
    rw [es]
    clear es A H E b hs hq
    generalize uI t 0 1 (tI t 0 1 + 1) = t at A0 H0 hs0 hq0 b0 ⊢
    intro h' E f
    have B := A0.1.1
    have bS := B.S
    have b1 := B.P (s := s) (by omega)
    have hi : 4 * s + q < 4 * tN t 0 0 := by omega
    have T := E.L.tk hi
    have KT := E.k_tk _ hi
    have bu := B.uw
    have bmk := B.marks
    have b6 := B.bool (4 * s + q)
    have bc := H0.cm B hs0 (q := q) (by omega)
    have H7 := H0.2.2.2.2.2.2.1 s q hs0 (by omega)
    by_cases hz : s = 0
    · rw [if_pos hz]
      subst hz
      refine r_aload_n (pc := 10) C dX5_makeTurn_10 rfl rfl ?_
      refine r_iload_n (pc := 11) C dX5_makeTurn_11 rfl rfl ?_
      refine r_iload_n (pc := 12) C dX5_makeTurn_12 rfl rfl ?_
      refine r_callq (cr_V (pc := 13) C (c_X5_taskAt E B _ _) dX5_makeTurn_13 cm_X5_taskAt ml_X5_103 im_X5_taskAt se_X5_taskAt E.L.o rfl ⟨⟨Nat.le_of_ble_eq_true rfl, Nat.le_of_ble_eq_true rfl⟩, Nat.le_of_ble_eq_true rfl, Nat.le_of_ble_eq_true rfl⟩ rfl rfl (Nat.le_of_ble_eq_true rfl)) (fun v13 h13 hq13 => ?_)
      obtain ⟨rfl, rfl⟩ := hq13
      rw [tkA_n B hs0 hq0]
      refine r_astore_n (pc := 16) (lv' := [_, _, _, _, _, _, _, _]) C dX5_makeTurn_16 rfl (by decide) rfl rfl ?_
      refine r_aload_n (pc := 17) C dX5_makeTurn_17 rfl rfl ?_
      refine r_ifnonnull (pc := 18) (tgt := 23) C dX5_makeTurn_18 (by decide) ?_
      refine r_iload_n (pc := 23) C dX5_makeTurn_23 rfl rfl ?_
      refine n_if_ne (pc := 24) (tgt := 33) C (by omega) dX5_makeTurn_24 (by decide) (fun c24 => absurd c24 (fun z => z rfl)) (fun c24 => ?_)
      refine r_aload_n (pc := 27) C dX5_makeTurn_27 rfl rfl ?_
      refine r_iload_n (pc := 28) C dX5_makeTurn_28 rfl rfl ?_
      refine r_calli (cr_V (pc := 29) C (c_X5_readTurn E A0 H0 hq0) dX5_makeTurn_29 cm_X5_readTurn ml_X5_259 im_X5_readTurn se_X5_readTurn E.L.o rfl ⟨⟨Nat.le_of_ble_eq_true rfl, Nat.le_of_ble_eq_true rfl⟩, Nat.le_of_ble_eq_true rfl, Nat.le_of_ble_eq_true rfl⟩ rfl rfl (Nat.le_of_ble_eq_true rfl)) (fun v29 h29 hq29 => ?_)
      obtain ⟨rfl, XTr, f2⟩ := hq29
      exact r_iret (pc := 32) C rfl (Nat.le_of_ble_eq_true rfl) (Nat.le_of_ble_eq_true rfl) ⟨_, rfl, ⟨rfl, XTr, f.tr f2⟩⟩ dX5_makeTurn_32
    · rw [if_neg hz]
      have hs1 : 1 ≤ s := by omega
      have b2 := B.P (s := s - 1) (by omega)
      unfold spTurn1
      cases hB : fstB t s q (tN t 1 (s - 1)) 0 with
      | some f0 =>
        obtain ⟨g1, g2, g3⟩ := fstB_some _ _ hB
        have hu : tN t 0 5 = tN t 0 5 - 1 + 1 := by have := A0.1.2.2.1 (16 * (s - 1) + 4 * f0 + q) (by omega); omega
        have h5 := A0.2.2.2.1 (16 * (s - 1) + 4 * f0 + q) (by omega)
        show WA G F mX5_makeTurn h' 0 0 (MQA G F 0 0 (Oi (fun v h' => v = nI 2 ∧ XT x m h (spCame t s q (16 * (s - 1) + 4 * f0 + q)) h'))) 10 _ []
        refine r_aload_n (pc := 10) C dX5_makeTurn_10 rfl rfl ?_
        refine r_iload_n (pc := 11) C dX5_makeTurn_11 rfl rfl ?_
        refine r_iload_n (pc := 12) C dX5_makeTurn_12 rfl rfl ?_
        refine r_callq (cr_V (pc := 13) C (c_X5_taskAt E B _ _) dX5_makeTurn_13 cm_X5_taskAt ml_X5_103 im_X5_taskAt se_X5_taskAt E.L.o rfl ⟨⟨Nat.le_of_ble_eq_true rfl, Nat.le_of_ble_eq_true rfl⟩, Nat.le_of_ble_eq_true rfl, Nat.le_of_ble_eq_true rfl⟩ rfl rfl (Nat.le_of_ble_eq_true rfl)) (fun v13 h13 hq13 => ?_)
        obtain ⟨rfl, rfl⟩ := hq13
        rw [tkA_n B hs0 hq0]
        refine r_astore_n (pc := 16) (lv' := [_, _, _, _, _, _, _, _]) C dX5_makeTurn_16 rfl (by decide) rfl rfl ?_
        refine r_aload_n (pc := 17) C dX5_makeTurn_17 rfl rfl ?_
        refine r_ifnonnull (pc := 18) (tgt := 23) C dX5_makeTurn_18 (by decide) ?_
        refine r_iload_n (pc := 23) C dX5_makeTurn_23 rfl rfl ?_
        refine n_if_ne (pc := 24) (tgt := 33) C (by omega) dX5_makeTurn_24 (by decide) (fun c24 => ?_) (fun c24 => absurd c24 hz)
        refine r_aload_n (pc := 33) C dX5_makeTurn_33 rfl rfl ?_
        refine r_iload_n (pc := 34) C dX5_makeTurn_34 rfl rfl ?_
        refine r_iload_n (pc := 35) C dX5_makeTurn_35 rfl rfl ?_
        refine r_callq (cr_V (pc := 36) C (c_X5_channelWithBarrier E B hs1 hs0 hq0) dX5_makeTurn_36 cm_X5_channelWithBarrier ml_X5_262 im_X5_channelWithBarrier se_X5_channelWithBarrier E.L.o rfl ⟨⟨Nat.le_of_ble_eq_true rfl, Nat.le_of_ble_eq_true rfl⟩, Nat.le_of_ble_eq_true rfl, Nat.le_of_ble_eq_true rfl⟩ rfl rfl (Nat.le_of_ble_eq_true rfl)) (fun v36 h36 hq36 => ?_)
        obtain ⟨rfl, rfl⟩ := hq36
        rw [hB]
        refine r_astore (pc := 39) (lv' := [_, _, _, _, _, _, _, _]) C dX5_makeTurn_39 (by decide) rfl rfl ?_
        refine r_aload (pc := 41) C dX5_makeTurn_41 rfl ?_
        refine r_ifnull (pc := 43) C dX5_makeTurn_43 ?_
        refine r_aload_n (pc := 46) C dX5_makeTurn_46 rfl rfl ?_
        refine r_aload (pc := 47) C dX5_makeTurn_47 rfl ?_
        refine r_iload_n (pc := 49) C dX5_makeTurn_49 rfl rfl ?_
        refine r_iload_n (pc := 50) C dX5_makeTurn_50 rfl rfl ?_
        refine r_callv (cr_V (pc := 51) C (c_X5_takeBarrier E B H0 (f := f0) hu hs1 hs0 hq0 (by omega) rfl h5) dX5_makeTurn_51 cm_X5_takeBarrier ml_X5_266 im_X5_takeBarrier se_X5_takeBarrier E.L.o rfl ⟨⟨Nat.le_of_ble_eq_true rfl, Nat.le_of_ble_eq_true rfl⟩, Nat.le_of_ble_eq_true rfl, Nat.le_of_ble_eq_true rfl⟩ rfl rfl (Nat.le_of_ble_eq_true rfl)) (fun h51 hq51 => ?_)
        obtain ⟨XTr, f2⟩ := hq51
        refine r_iconst (pc := 54) (v := (nI 2)) C dX5_makeTurn_54 (by decide) ?_
        exact r_iret (pc := 55) C rfl (Nat.le_of_ble_eq_true rfl) (Nat.le_of_ble_eq_true rfl) ⟨_, rfl, ⟨rfl, XTr, f.tr f2⟩⟩ dX5_makeTurn_55
      | none =>
        have hnb : ∀ f', f' < tN t 1 (s - 1) → tN t 4 (16 * (s - 1) + 4 * f' + q) ≠ 1 := fun f' hf' => fstB_none _ _ hB f' (Nat.zero_le _) (by omega)
        show WA G F mX5_makeTurn h' 0 0 (MQA G F 0 0 (Oi (fun v h' => v = nI (cif (tN t 7 (4 * s + q) ≠ 0 ∧ tI t 0 0 ≠ -1 ∧ ¬ tI t 0 1 - tI t 1 (4 * s + q) < tI t 0 0) (3, spSettle (spPart t s q 1)) (spRows t s q (tN t 8 (4 * s + q)) (tN t 1 (s - 1)) 0) : Nat × TS).1 ∧ XT x m h (cif (tN t 7 (4 * s + q) ≠ 0 ∧ tI t 0 0 ≠ -1 ∧ ¬ tI t 0 1 - tI t 1 (4 * s + q) < tI t 0 0) (3, spSettle (spPart t s q 1)) (spRows t s q (tN t 8 (4 * s + q)) (tN t 1 (s - 1)) 0) : Nat × TS).2 h'))) 10 _ []
        by_cases hwt : tN t 7 (4 * s + q) ≠ 0 ∧ tI t 0 0 ≠ -1 ∧ ¬ tI t 0 1 - tI t 1 (4 * s + q) < tI t 0 0
        · rw [cif_t hwt]
          have hu : tN t 0 5 = tN t 0 5 - 1 + 1 := by have := A0.1.2.2.2 _ hwt.1; omega
          rw [show (3, spSettle (spPart t s q 1)) = ((3, spPart t s q 1) : Nat × TS) from by rw [settle_id hs1 hs0 hq0 (A0.2.2.2.2.1 s q hs1 hs0 hq0 hwt.1)]]
          have h2 := H7.2 hwt.1
          refine r_aload_n (pc := 10) C dX5_makeTurn_10 rfl rfl ?_
          refine r_iload_n (pc := 11) C dX5_makeTurn_11 rfl rfl ?_
          refine r_iload_n (pc := 12) C dX5_makeTurn_12 rfl rfl ?_
          refine r_callq (cr_V (pc := 13) C (c_X5_taskAt E B _ _) dX5_makeTurn_13 cm_X5_taskAt ml_X5_103 im_X5_taskAt se_X5_taskAt E.L.o rfl ⟨⟨Nat.le_of_ble_eq_true rfl, Nat.le_of_ble_eq_true rfl⟩, Nat.le_of_ble_eq_true rfl, Nat.le_of_ble_eq_true rfl⟩ rfl rfl (Nat.le_of_ble_eq_true rfl)) (fun v13 h13 hq13 => ?_)
          obtain ⟨rfl, rfl⟩ := hq13
          rw [tkA_n B hs0 hq0]
          refine r_astore_n (pc := 16) (lv' := [_, _, _, _, _, _, _, _]) C dX5_makeTurn_16 rfl (by decide) rfl rfl ?_
          refine r_aload_n (pc := 17) C dX5_makeTurn_17 rfl rfl ?_
          refine r_ifnonnull (pc := 18) (tgt := 23) C dX5_makeTurn_18 (by decide) ?_
          refine r_iload_n (pc := 23) C dX5_makeTurn_23 rfl rfl ?_
          refine n_if_ne (pc := 24) (tgt := 33) C (by omega) dX5_makeTurn_24 (by decide) (fun c24 => ?_) (fun c24 => absurd c24 hz)
          refine r_aload_n (pc := 33) C dX5_makeTurn_33 rfl rfl ?_
          refine r_iload_n (pc := 34) C dX5_makeTurn_34 rfl rfl ?_
          refine r_iload_n (pc := 35) C dX5_makeTurn_35 rfl rfl ?_
          refine r_callq (cr_V (pc := 36) C (c_X5_channelWithBarrier E B hs1 hs0 hq0) dX5_makeTurn_36 cm_X5_channelWithBarrier ml_X5_262 im_X5_channelWithBarrier se_X5_channelWithBarrier E.L.o rfl ⟨⟨Nat.le_of_ble_eq_true rfl, Nat.le_of_ble_eq_true rfl⟩, Nat.le_of_ble_eq_true rfl, Nat.le_of_ble_eq_true rfl⟩ rfl rfl (Nat.le_of_ble_eq_true rfl)) (fun v36 h36 hq36 => ?_)
          obtain ⟨rfl, rfl⟩ := hq36
          rw [hB]
          refine r_astoreN (pc := 39) (lv' := [_, _, _, _, _, _, _, _]) C dX5_makeTurn_39 (by decide) rfl rfl ?_
          refine r_aloadN (pc := 41) C dX5_makeTurn_41 rfl ?_
          refine r_ifnullN (pc := 43) (tgt := 56) C dX5_makeTurn_43 (by decide) ?_
          refine r_aload_n (pc := 56) C dX5_makeTurn_56 rfl rfl ?_
          refine r_calli (cr_V (pc := 57) C (c_X4_isWaiting T.2 KT.1 KT.2.1 (by omega) (by omega)) dX5_makeTurn_57 cm_X4_isWaiting ml_X5_178 im_X4_isWaiting se_X4_isWaiting T.2 rfl ⟨⟨Nat.le_of_ble_eq_true rfl, Nat.le_of_ble_eq_true rfl⟩, Nat.le_of_ble_eq_true rfl, Nat.le_of_ble_eq_true rfl⟩ rfl rfl (Nat.le_of_ble_eq_true rfl)) (fun v57 h57 hq57 => ?_)
          obtain ⟨rfl, rfl⟩ := hq57
          refine b_if_eq (pc := 60) (tgt := 96) C dX5_makeTurn_60 (by decide) (fun c60 => absurd c60 (fun z => z (H7.1.mp hwt.1))) (fun c60 => ?_)
          refine r_aload_n (pc := 63) C dX5_makeTurn_63 rfl rfl ?_
          refine r_getIe (pc := 64) C fl_X5_49 E.L.o rfl E.bnd dX5_makeTurn_64 ?_
          refine r_iconst (pc := 67) (v := (-1)) C dX5_makeTurn_67 (by decide) ?_
          refine r_icmp_eq (pc := 68) (tgt := 96) C dX5_makeTurn_68 (by decide) (fun c68 => absurd c68 hwt.2.1) (fun c68 => ?_)
          refine r_aload_n (pc := 71) C dX5_makeTurn_71 rfl rfl ?_
          refine r_getIe (pc := 72) C fl_X5_43 E.L.o rfl E.turns dX5_makeTurn_72 ?_
          refine r_aload_n (pc := 75) C dX5_makeTurn_75 rfl rfl ?_
          refine r_getIe (pc := 76) C fl_X5_270 T.2 rfl (KT.2.2.1.trans h2) dX5_makeTurn_76 ?_
          refine r_isub (pc := 79) C dX5_makeTurn_79 ?_
          refine r_aload_n (pc := 80) C dX5_makeTurn_80 rfl rfl ?_
          refine r_getIe (pc := 81) C fl_X5_49 E.L.o rfl E.bnd dX5_makeTurn_81 ?_
          refine r_icmp_lt (pc := 84) (tgt := 96) C dX5_makeTurn_84 (by decide) (fun c84 => absurd c84 hwt.2.2) (fun c84 => ?_)
          refine r_aload_n (pc := 87) C dX5_makeTurn_87 rfl rfl ?_
          refine r_iload_n (pc := 88) C dX5_makeTurn_88 rfl rfl ?_
          refine r_iload_n (pc := 89) C dX5_makeTurn_89 rfl rfl ?_
          refine r_iconst (pc := 90) (v := (nI 1)) C dX5_makeTurn_90 (by decide) ?_
          refine r_callv (cr_V (pc := 91) C (c_X5_takePart E B hu (H0.U hu) H0.B.C hs0 hq0 (lo := 1) (by decide)) dX5_makeTurn_91 cm_X5_takePart ml_X5_116 im_X5_takePart se_X5_takePart E.L.o rfl ⟨⟨Nat.le_of_ble_eq_true rfl, Nat.le_of_ble_eq_true rfl⟩, Nat.le_of_ble_eq_true rfl, Nat.le_of_ble_eq_true rfl⟩ rfl rfl (Nat.le_of_ble_eq_true rfl)) (fun h91 hq91 => ?_)
          obtain ⟨XTr, f2⟩ := hq91
          refine r_iconst (pc := 94) (v := (nI 3)) C dX5_makeTurn_94 (by decide) ?_
          exact r_iret (pc := 95) C rfl (Nat.le_of_ble_eq_true rfl) (Nat.le_of_ble_eq_true rfl) ⟨_, rfl, ⟨rfl, XTr, f.tr f2⟩⟩ dX5_makeTurn_95
        · rw [cif_f hwt, rows_eq]
          have t96 : ∀ h'', RX x m t e h'' → Fq (Px m) h h'' → WA G F mX5_makeTurn h'' 0 0 (MQA G F 0 0 (Oi (fun v h' => v = nI (match fstT t s q (tN t 8 (4 * s + q)) (tN t 1 (s - 1)) 0 with | some f => (1, tkF t s q f) | none => (0, t) : Nat × TS).1 ∧ XT x m h (match fstT t s q (tN t 8 (4 * s + q)) (tN t 1 (s - 1)) 0 with | some f => (1, tkF t s q f) | none => (0, t) : Nat × TS).2 h'))) 96 [some (.ref x), some (.int (nI s)), some (.int (nI q)), some (.ref (x + 16 * tN t 0 0 + (4 * s + q))), some .null, none, none, none] [] := by
            intro h'' E f
            have T := E.L.tk hi
            cases hT : fstT t s q (tN t 8 (4 * s + q)) (tN t 1 (s - 1)) 0 with
            | none =>
              have ec : chA t x (nI (s - 1)) (-1) (nI q) = none := cif_f (fun ⟨g, _, _, ⟨f', hf', e'⟩, _⟩ => by
                have := B.P (s := g) (by omega)
                exact nI_m1 (by omega) e'.symm)
              show WA G F mX5_makeTurn h'' 0 0 (MQA G F 0 0 (Oi (fun v h' => v = nI 0 ∧ XT x m h t h'))) 96 _ []
              refine r_aload_n (pc := 96) C dX5_makeTurn_96 rfl rfl ?_
              refine r_aload_n (pc := 97) C dX5_makeTurn_97 rfl rfl ?_
              refine r_iload_n (pc := 98) C dX5_makeTurn_98 rfl rfl ?_
              refine r_iload_n (pc := 99) C dX5_makeTurn_99 rfl rfl ?_
              refine r_calli (cr_V (pc := 100) C (c_X5_channelToTake E B H0 A0.2.2.1 A0.1.2.2.2 hs1 hs0 hq0 hnb) dX5_makeTurn_100 cm_X5_channelToTake ml_X5_273 im_X5_channelToTake se_X5_channelToTake E.L.o rfl ⟨⟨Nat.le_of_ble_eq_true rfl, Nat.le_of_ble_eq_true rfl⟩, Nat.le_of_ble_eq_true rfl, Nat.le_of_ble_eq_true rfl⟩ rfl rfl (Nat.le_of_ble_eq_true rfl)) (fun v100 h100 hq100 => ?_)
              obtain ⟨rfl, rfl⟩ := hq100
              rw [hT]
              refine r_istore (pc := 103) (lv' := [_, _, _, _, _, _, _, _]) C dX5_makeTurn_103 (by decide) rfl rfl ?_
              refine r_aload_n (pc := 105) C dX5_makeTurn_105 rfl rfl ?_
              refine r_iload_n (pc := 106) C dX5_makeTurn_106 rfl rfl ?_
              refine r_iconst (pc := 107) (v := (nI 1)) C dX5_makeTurn_107 (by decide) ?_
              refine n_isub (pc := 108) C (by omega) dX5_makeTurn_108 ?_
              refine r_iload (pc := 109) C dX5_makeTurn_109 rfl ?_
              refine r_iload_n (pc := 111) C dX5_makeTurn_111 rfl rfl ?_
              refine r_callq (cr_V (pc := 112) C (c_X5_channelAt E B _ _ _) dX5_makeTurn_112 cm_X5_channelAt ml_X5_185 im_X5_channelAt se_X5_channelAt E.L.o rfl ⟨⟨Nat.le_of_ble_eq_true rfl, Nat.le_of_ble_eq_true rfl⟩, Nat.le_of_ble_eq_true rfl, Nat.le_of_ble_eq_true rfl⟩ rfl rfl (Nat.le_of_ble_eq_true rfl)) (fun v112 h112 hq112 => ?_)
              obtain ⟨rfl, rfl⟩ := hq112
              rw [show fI none = -1 from rfl, ec]
              refine r_astoreN (pc := 115) (lv' := [_, _, _, _, _, _, _, _]) C dX5_makeTurn_115 (by decide) rfl rfl ?_
              refine r_aloadN (pc := 117) C dX5_makeTurn_117 rfl ?_
              refine r_ifnonnullN (pc := 119) C dX5_makeTurn_119 ?_
              refine r_iconst (pc := 122) (v := (nI 0)) C dX5_makeTurn_122 (by decide) ?_
              exact r_iret (pc := 123) C rfl (Nat.le_of_ble_eq_true rfl) (Nat.le_of_ble_eq_true rfl) ⟨_, rfl, ⟨rfl, ⟨e, E, H0⟩, f⟩⟩ dX5_makeTurn_123
            | some f0 =>
              obtain ⟨hcan, k, hk⟩ := fstT_some _ _ hT
              have hfl : f0 < tN t 1 (s - 1) := by rw [hk]; exact Nat.mod_lt _ (by omega)
              have hcc : 16 * (s - 1) + 4 * f0 + q < 16 * (tN t 0 0 - 1) := by omega
              have ec : chA t x (nI (s - 1)) (nI f0) (nI q) = some (x + 15 + (16 * (s - 1) + 4 * f0 + q)) := chA_n B (g := s - 1) (by omega) hfl (by rw [show s - 1 + 1 = s by omega]; exact hq0)
              have hne : tC t (16 * (s - 1) + 4 * f0 + q) ≠ [] := fun z => hcan.1 (Or.inl z)
              obtain ⟨r, l, hl⟩ := List.exists_cons_of_ne_nil hne
              have hrm : r ∈ tC t (16 * (s - 1) + 4 * f0 + q) := by rw [hl]; exact List.mem_cons_self
              have hr := B.row hrm
              have bf := B.fed
              have bl := B.len (16 * (s - 1) + 4 * f0 + q)
              have bb := B.bar (16 * (s - 1) + 4 * f0 + q)
              have HO := home_out A0.2.2.1 B hs1 hs0 hq0 hfl hrm
              have hnd := A0.2.1.1 (16 * (s - 1) + 4 * f0 + q)
              have hv : (f0 + 1) % tN t 1 (s - 1) ≤ 3 := by have := Nat.mod_lt (f0 + 1) (show tN t 1 (s - 1) > 0 by omega); omega
              have rn : rndI (f0 + 1) (tN t 1 (s - 1)) = (f0 + 1) % tN t 1 (s - 1) := if_neg (by omega)
              have eF : tkF t s q f0 = spPass (spKept (spOff (uN t 8 (4 * s + q) ((f0 + 1) % tN t 1 (s - 1))) (16 * (s - 1) + 4 * f0 + q)) s q (16 * (s - 1) + 4 * f0 + q) r) s r := by
                have sk := Same.kept (t := spOff (uN t 8 (4 * s + q) ((f0 + 1) % tN t 1 (s - 1))) (16 * (s - 1) + 4 * f0 + q)) (s := s) (q := q) (c := 16 * (s - 1) + 4 * f0 + q) (r := r)
                have hd : (tC t (16 * (s - 1) + 4 * f0 + q)).headD 0 = r := by rw [hl]; rfl
                have hh : home (spKept (spOff (uN t 8 (4 * s + q) ((f0 + 1) % tN t 1 (s - 1))) (16 * (s - 1) + 4 * f0 + q)) s q (16 * (s - 1) + 4 * f0 + q) r) s (tN (spKept (spOff (uN t 8 (4 * s + q) ((f0 + 1) % tN t 1 (s - 1))) (16 * (s - 1) + 4 * f0 + q)) s q (16 * (s - 1) + 4 * f0 + q) r) 2 r) = outC t s q r := by
                  rw [sk.2.1]
                  unfold home
                  rw [sk.1]
                  exact HO.2
                unfold tkF spPass
                rw [hd, hh, take_kept, off_8, take_8]
                by_cases h1 : s + 1 < tN t 0 0
                · rw [cif_t h1]
                  exact (if_pos (show s + 1 < tN (spKept (uN (spOff t _) 8 _ _) s q _ r) 0 0 from by rw [Same.kept.2.2.2.2.2.1]; exact h1)).symm
                · rw [cif_f h1]
                  exact (if_neg (show ¬ s + 1 < tN (spKept (uN (spOff t _) 8 _ _) s q _ r) 0 0 from by rw [Same.kept.2.2.2.2.2.1]; exact h1)).symm
              have Ba : TB (uN t 8 (4 * s + q) ((f0 + 1) % tN t 1 (s - 1))) := B.p8 hv
              have Bb : TB (spOff (uN t 8 (4 * s + q) ((f0 + 1) % tN t 1 (s - 1))) (16 * (s - 1) + 4 * f0 + q)) := Ba.off hne
              have Hb : Ext (spOff (uN t 8 (4 * s + q) ((f0 + 1) % tN t 1 (s - 1))) (16 * (s - 1) + 4 * f0 + q)) e := H0.cg rfl rfl rfl rfl rfl rfl rfl rfl rfl rfl rfl rfl rfl rfl rfl rfl
              have Bc := Bb.kept (s := s) (q := q) (c := 16 * (s - 1) + 4 * f0 + q) (r := r) (by omega) hr
              have sk := Same.kept (t := spOff (uN t 8 (4 * s + q) ((f0 + 1) % tN t 1 (s - 1))) (16 * (s - 1) + 4 * f0 + q)) (s := s) (q := q) (c := 16 * (s - 1) + 4 * f0 + q) (r := r)
              have etc : ∀ d, tC (spOff (uN t 8 (4 * s + q) ((f0 + 1) % tN t 1 (s - 1))) (16 * (s - 1) + 4 * f0 + q)) d = if d = 16 * (s - 1) + 4 * f0 + q then l else tC t d := by
                intro d
                show tC (uC (uN t 8 _ _) _ (tC (uN t 8 _ _) _).tail) d = _
                rw [tC_uC]
                split
                · show (tC t _).tail = l; rw [hl]; rfl
                · rfl
              rw [hl] at hnd
              obtain ⟨n1, n2⟩ := List.nodup_cons.mp hnd
              have Dc : DJ (spKept (spOff (uN t 8 (4 * s + q) ((f0 + 1) % tN t 1 (s - 1))) (16 * (s - 1) + 4 * f0 + q)) s q (16 * (s - 1) + 4 * f0 + q) r) := by
                have sub : ∀ d z, z ∈ tC (spOff (uN t 8 (4 * s + q) ((f0 + 1) % tN t 1 (s - 1))) (16 * (s - 1) + 4 * f0 + q)) d → z ∈ tC t d := by
                  intro d z hzd
                  rw [etc] at hzd
                  split at hzd
                  · rename_i hd; rw [hd, hl]; exact List.mem_cons_of_mem _ hzd
                  · exact hzd
                refine ⟨fun d => ?_, fun c' d z h1 h2 => ?_⟩
                · rw [sk.2.2.2.2.2.2.2.2.2.2.1, etc]
                  split
                  · exact n2
                  · exact A0.2.1.1 d
                · rw [sk.2.2.2.2.2.2.2.2.2.2.1] at h1 h2
                  exact A0.2.1.2 c' d z (sub _ _ h1) (sub _ _ h2)
              have hfr : ∀ d, r ∉ tC (spKept (spOff (uN t 8 (4 * s + q) ((f0 + 1) % tN t 1 (s - 1))) (16 * (s - 1) + 4 * f0 + q)) s q (16 * (s - 1) + 4 * f0 + q) r) d := by
                intro d hd
                rw [sk.2.2.2.2.2.2.2.2.2.2.1, etc] at hd
                split at hd
                · exact n1 hd
                · rename_i hdc; exact hdc (A0.2.1.2 d _ r hd hrm)
              have hMM : tN (spKept (spOff (uN t 8 (4 * s + q) ((f0 + 1) % tN t 1 (s - 1))) (16 * (s - 1) + 4 * f0 + q)) s q (16 * (s - 1) + 4 * f0 + q) r) 3 (16 * s + tN (spKept (spOff (uN t 8 (4 * s + q) ((f0 + 1) % tN t 1 (s - 1))) (16 * (s - 1) + 4 * f0 + q)) s q (16 * (s - 1) + 4 * f0 + q) r) 2 r) < 200 := by
                rw [sk.2.2.1, sk.2.1]
                exact A0.1.2.1 s f0 q hs1 hs0 hfl hq0 r hrm
              have hrc : r < tN (spKept (spOff (uN t 8 (4 * s + q) ((f0 + 1) % tN t 1 (s - 1))) (16 * (s - 1) + 4 * f0 + q)) s q (16 * (s - 1) + 4 * f0 + q) r) 0 3 := by rw [sk.2.2.2.2.2.2.2.2.1]; exact hr
              have hsc : s < tN (spKept (spOff (uN t 8 (4 * s + q) ((f0 + 1) % tN t 1 (s - 1))) (16 * (s - 1) + 4 * f0 + q)) s q (16 * (s - 1) + 4 * f0 + q) r) 0 0 := by rw [sk.2.2.2.2.2.1]; exact hs0
              have L := E.L.ch hcc
              have K := E.k_ch _ hcc
              have hbeh := E.k_beh _ hcc
              rw [hl] at hbeh
              have Ea := E.p_next hi ((f0 + 1) % tN t 1 (s - 1))
              have Eb := Ea.rm Ba (c := 16 * (s - 1) + 4 * f0 + q) (r := r) (l := l) hcc hl
              have fb : Fq (Px m) h'' (rmH (pI h'' (x + 16 * tN t 0 0 + (4 * s + q)) 3 (nI ((f0 + 1) % tN t 1 (s - 1)))) (x + 15 + (16 * (s - 1) + 4 * f0 + q)) l (tN t 4 (16 * (s - 1) + 4 * f0 + q))) := (Fq.rf.pI (Or.inl (by omega))).tr (rmH_fq (Or.inl (by omega)))
              have ll : (tC t (16 * (s - 1) + 4 * f0 + q)).length = l.length + 1 := by rw [hl]; rfl
              have Ka := Ea.k_ch (16 * (s - 1) + 4 * f0 + q) hcc
              show WA G F mX5_makeTurn h'' 0 0 (MQA G F 0 0 (Oi (fun v h' => v = nI 1 ∧ XT x m h (tkF t s q f0) h'))) 96 _ []
              rw [eF]
              have t149 : ∀ h2, RX x m (spOff (uN t 8 (4 * s + q) ((f0 + 1) % tN t 1 (s - 1))) (16 * (s - 1) + 4 * f0 + q)) e h2 → Fq (Px m) h h2 → WA G F mX5_makeTurn h2 0 0 (MQA G F 0 0 (Oi (fun v h' => v = nI 1 ∧ XT x m h (spPass (spKept (spOff (uN t 8 (4 * s + q) ((f0 + 1) % tN t 1 (s - 1))) (16 * (s - 1) + 4 * f0 + q)) s q (16 * (s - 1) + 4 * f0 + q) r) s r) h'))) 149 [some (.ref x), some (.int (nI s)), some (.int (nI q)), some (.ref (x + 16 * tN t 0 0 + (4 * s + q))), some .null, some (.int (nI f0)), some (.ref (x + 15 + (16 * (s - 1) + 4 * f0 + q))), some (.int (nI r))] [] := by
                intro h2 E f
                refine r_aload_n (pc := 149) C dX5_makeTurn_149 rfl rfl ?_
                refine r_aload (pc := 150) C dX5_makeTurn_150 rfl ?_
                refine r_aload_n (pc := 152) C dX5_makeTurn_152 rfl rfl ?_
                refine r_iload (pc := 153) C dX5_makeTurn_153 rfl ?_
                refine r_callv (cr_V (pc := 155) C (c_X5_keepTaken E Bb Hb (s := s) (q := q) (c := 16 * (s - 1) + 4 * f0 + q) hcc hi hr) dX5_makeTurn_155 cm_X5_keepTaken ml_X5_283 im_X5_keepTaken se_X5_keepTaken E.L.o rfl ⟨⟨Nat.le_of_ble_eq_true rfl, Nat.le_of_ble_eq_true rfl⟩, Nat.le_of_ble_eq_true rfl, Nat.le_of_ble_eq_true rfl⟩ rfl rfl (Nat.le_of_ble_eq_true rfl)) (fun h155 hq155 => ?_)
                obtain ⟨⟨e2, E2, H2⟩, f2⟩ := hq155
                refine r_aload_n (pc := 158) C dX5_makeTurn_158 rfl rfl ?_
                refine r_iload_n (pc := 159) C dX5_makeTurn_159 rfl rfl ?_
                refine r_iload (pc := 160) C dX5_makeTurn_160 rfl ?_
                refine r_callv (cr_V (pc := 162) C (c_X5_passRow E2 Bc Dc hsc hrc hMM hfr) dX5_makeTurn_162 cm_X5_passRow ml_X5_287 im_X5_passRow se_X5_passRow E2.L.o rfl ⟨⟨Nat.le_of_ble_eq_true rfl, Nat.le_of_ble_eq_true rfl⟩, Nat.le_of_ble_eq_true rfl, Nat.le_of_ble_eq_true rfl⟩ rfl rfl (Nat.le_of_ble_eq_true rfl)) (fun h162 hq162 => ?_)
                obtain ⟨E3, f3⟩ := hq162
                refine r_iconst (pc := 165) (v := (nI 1)) C dX5_makeTurn_165 (by decide) ?_
                exact r_iret (pc := 166) C rfl (Nat.le_of_ble_eq_true rfl) (Nat.le_of_ble_eq_true rfl) ⟨_, rfl, ⟨rfl, ⟨e2, E3, H2.pass hs1⟩, (f.tr f2).tr f3⟩⟩ dX5_makeTurn_166
              refine r_aload_n (pc := 96) C dX5_makeTurn_96 rfl rfl ?_
              refine r_aload_n (pc := 97) C dX5_makeTurn_97 rfl rfl ?_
              refine r_iload_n (pc := 98) C dX5_makeTurn_98 rfl rfl ?_
              refine r_iload_n (pc := 99) C dX5_makeTurn_99 rfl rfl ?_
              refine r_calli (cr_V (pc := 100) C (c_X5_channelToTake E B H0 A0.2.2.1 A0.1.2.2.2 hs1 hs0 hq0 hnb) dX5_makeTurn_100 cm_X5_channelToTake ml_X5_273 im_X5_channelToTake se_X5_channelToTake E.L.o rfl ⟨⟨Nat.le_of_ble_eq_true rfl, Nat.le_of_ble_eq_true rfl⟩, Nat.le_of_ble_eq_true rfl, Nat.le_of_ble_eq_true rfl⟩ rfl rfl (Nat.le_of_ble_eq_true rfl)) (fun v100 h100 hq100 => ?_)
              obtain ⟨rfl, rfl⟩ := hq100
              rw [hT]
              rw [show fI (some f0) = nI f0 from rfl]
              refine r_istore (pc := 103) (lv' := [_, _, _, _, _, _, _, _]) C dX5_makeTurn_103 (by decide) rfl rfl ?_
              refine r_aload_n (pc := 105) C dX5_makeTurn_105 rfl rfl ?_
              refine r_iload_n (pc := 106) C dX5_makeTurn_106 rfl rfl ?_
              refine r_iconst (pc := 107) (v := (nI 1)) C dX5_makeTurn_107 (by decide) ?_
              refine n_isub (pc := 108) C (by omega) dX5_makeTurn_108 ?_
              refine r_iload (pc := 109) C dX5_makeTurn_109 rfl ?_
              refine r_iload_n (pc := 111) C dX5_makeTurn_111 rfl rfl ?_
              refine r_callq (cr_V (pc := 112) C (c_X5_channelAt E B _ _ _) dX5_makeTurn_112 cm_X5_channelAt ml_X5_185 im_X5_channelAt se_X5_channelAt E.L.o rfl ⟨⟨Nat.le_of_ble_eq_true rfl, Nat.le_of_ble_eq_true rfl⟩, Nat.le_of_ble_eq_true rfl, Nat.le_of_ble_eq_true rfl⟩ rfl rfl (Nat.le_of_ble_eq_true rfl)) (fun v112 h112 hq112 => ?_)
              obtain ⟨rfl, rfl⟩ := hq112
              rw [ec]
              refine r_astore (pc := 115) (lv' := [_, _, _, _, _, _, _, _]) C dX5_makeTurn_115 (by decide) rfl rfl ?_
              refine r_aload (pc := 117) C dX5_makeTurn_117 rfl ?_
              refine r_ifnonnull (pc := 119) (tgt := 124) C dX5_makeTurn_119 (by decide) ?_
              refine r_aload_n (pc := 124) C dX5_makeTurn_124 rfl rfl ?_
              refine r_iload (pc := 125) C dX5_makeTurn_125 rfl ?_
              refine r_iconst (pc := 127) (v := (nI 1)) C dX5_makeTurn_127 (by decide) ?_
              refine n_iadd (pc := 128) C dX5_makeTurn_128 ?_
              refine r_aload_n (pc := 129) C dX5_makeTurn_129 rfl rfl ?_
              refine r_iload_n (pc := 130) C dX5_makeTurn_130 rfl rfl ?_
              refine r_iconst (pc := 131) (v := (nI 1)) C dX5_makeTurn_131 (by decide) ?_
              refine n_isub (pc := 132) C (by omega) dX5_makeTurn_132 ?_
              refine r_calli (cr_V (pc := 133) C (c_X5_widthOf E B _) dX5_makeTurn_133 cm_X5_widthOf ml_X5_110 im_X5_widthOf se_X5_widthOf E.L.o rfl ⟨⟨Nat.le_of_ble_eq_true rfl, Nat.le_of_ble_eq_true rfl⟩, Nat.le_of_ble_eq_true rfl, Nat.le_of_ble_eq_true rfl⟩ rfl rfl (Nat.le_of_ble_eq_true rfl)) (fun v133 h133 hq133 => ?_)
              obtain ⟨rfl, rfl⟩ := hq133
              rw [wdI_n B (s := s - 1) (by omega)]
              refine r_calli (cr_S (pc := 136) C (c_X5_around _ _ _ (by omega) (by omega)) dX5_makeTurn_136 cm_X5_around ml_X5_277 st_X5_around ⟨⟨Nat.le_of_ble_eq_true rfl, Nat.le_of_ble_eq_true rfl⟩, Nat.le_of_ble_eq_true rfl, Nat.le_of_ble_eq_true rfl⟩ rfl rfl (Nat.le_of_ble_eq_true rfl)) (fun v136 h136 hq136 => ?_)
              obtain ⟨rfl, rfl⟩ := hq136
              rw [rn]
              refine r_putI (pc := 139) C fl_X5_150 T.2 rfl rfl rfl rfl dX5_makeTurn_139 ?_
              refine r_aload (pc := 142) C dX5_makeTurn_142 rfl ?_
              refine r_calli (cr_V (pc := 144) C (c_X0_removeFirst (r := r) (n := tN t 4 (16 * (s - 1) + 4 * f0 + q)) (l := l) (show hS _ (x + 15 + (16 * (s - 1) + 4 * f0 + q)) = (0, 0) from L.2.1) (show hR _ (x + 15 + (16 * (s - 1) + 4 * f0 + q)) 1 = some (x + 13) from L.2.2) (show hS _ (x + 13) = _ from E.L.sb) (Ka.2.1.trans (by show fsI (tC t _) = _; rw [hl]; rfl)) (Ka.2.2.2.1.trans (by show nI (tC t _).length = _; rw [ll])) Ka.2.2.2.2.1 (by rw [hI_ne (by omega)]; exact hbeh.1) (fun z hz => by have := B.row (show z ∈ tC t (16 * (s - 1) + 4 * f0 + q) by rw [hl]; exact List.mem_cons_of_mem _ hz); omega) (by omega) (by omega) (by omega)) dX5_makeTurn_144 cm_X0_removeFirst ml_X5_280 im_X0_removeFirst se_X0_removeFirst (show hS _ (x + 15 + (16 * (s - 1) + 4 * f0 + q)) = (0, 0) from L.2.1) rfl ⟨⟨Nat.le_of_ble_eq_true rfl, Nat.le_of_ble_eq_true rfl⟩, Nat.le_of_ble_eq_true rfl, Nat.le_of_ble_eq_true rfl⟩ rfl rfl (Nat.le_of_ble_eq_true rfl)) (fun v144 h144 hq144 => ?_)
              obtain ⟨rfl, rfl⟩ := hq144
              refine r_istore (pc := 147) (lv' := [_, _, _, _, _, _, _, _]) C dX5_makeTurn_147 (by decide) rfl rfl ?_
              exact t149 _ Eb (f.tr fb)
          refine r_aload_n (pc := 10) C dX5_makeTurn_10 rfl rfl ?_
          refine r_iload_n (pc := 11) C dX5_makeTurn_11 rfl rfl ?_
          refine r_iload_n (pc := 12) C dX5_makeTurn_12 rfl rfl ?_
          refine r_callq (cr_V (pc := 13) C (c_X5_taskAt E B _ _) dX5_makeTurn_13 cm_X5_taskAt ml_X5_103 im_X5_taskAt se_X5_taskAt E.L.o rfl ⟨⟨Nat.le_of_ble_eq_true rfl, Nat.le_of_ble_eq_true rfl⟩, Nat.le_of_ble_eq_true rfl, Nat.le_of_ble_eq_true rfl⟩ rfl rfl (Nat.le_of_ble_eq_true rfl)) (fun v13 h13 hq13 => ?_)
          obtain ⟨rfl, rfl⟩ := hq13
          rw [tkA_n B hs0 hq0]
          refine r_astore_n (pc := 16) (lv' := [_, _, _, _, _, _, _, _]) C dX5_makeTurn_16 rfl (by decide) rfl rfl ?_
          refine r_aload_n (pc := 17) C dX5_makeTurn_17 rfl rfl ?_
          refine r_ifnonnull (pc := 18) (tgt := 23) C dX5_makeTurn_18 (by decide) ?_
          refine r_iload_n (pc := 23) C dX5_makeTurn_23 rfl rfl ?_
          refine n_if_ne (pc := 24) (tgt := 33) C (by omega) dX5_makeTurn_24 (by decide) (fun c24 => ?_) (fun c24 => absurd c24 hz)
          refine r_aload_n (pc := 33) C dX5_makeTurn_33 rfl rfl ?_
          refine r_iload_n (pc := 34) C dX5_makeTurn_34 rfl rfl ?_
          refine r_iload_n (pc := 35) C dX5_makeTurn_35 rfl rfl ?_
          refine r_callq (cr_V (pc := 36) C (c_X5_channelWithBarrier E B hs1 hs0 hq0) dX5_makeTurn_36 cm_X5_channelWithBarrier ml_X5_262 im_X5_channelWithBarrier se_X5_channelWithBarrier E.L.o rfl ⟨⟨Nat.le_of_ble_eq_true rfl, Nat.le_of_ble_eq_true rfl⟩, Nat.le_of_ble_eq_true rfl, Nat.le_of_ble_eq_true rfl⟩ rfl rfl (Nat.le_of_ble_eq_true rfl)) (fun v36 h36 hq36 => ?_)
          obtain ⟨rfl, rfl⟩ := hq36
          rw [hB]
          refine r_astoreN (pc := 39) (lv' := [_, _, _, _, _, _, _, _]) C dX5_makeTurn_39 (by decide) rfl rfl ?_
          refine r_aloadN (pc := 41) C dX5_makeTurn_41 rfl ?_
          refine r_ifnullN (pc := 43) (tgt := 56) C dX5_makeTurn_43 (by decide) ?_
          refine r_aload_n (pc := 56) C dX5_makeTurn_56 rfl rfl ?_
          refine r_calli (cr_V (pc := 57) C (c_X4_isWaiting T.2 KT.1 KT.2.1 (by omega) (by omega)) dX5_makeTurn_57 cm_X4_isWaiting ml_X5_178 im_X4_isWaiting se_X4_isWaiting T.2 rfl ⟨⟨Nat.le_of_ble_eq_true rfl, Nat.le_of_ble_eq_true rfl⟩, Nat.le_of_ble_eq_true rfl, Nat.le_of_ble_eq_true rfl⟩ rfl rfl (Nat.le_of_ble_eq_true rfl)) (fun v57 h57 hq57 => ?_)
          obtain ⟨rfl, rfl⟩ := hq57
          refine b_if_eq (pc := 60) (tgt := 96) C dX5_makeTurn_60 (by decide) (fun c60 => ?_) (fun c60 => ?_)
          · exact t96 _ E f
          · refine r_aload_n (pc := 63) C dX5_makeTurn_63 rfl rfl ?_
            refine r_getIe (pc := 64) C fl_X5_49 E.L.o rfl E.bnd dX5_makeTurn_64 ?_
            refine r_iconst (pc := 67) (v := (-1)) C dX5_makeTurn_67 (by decide) ?_
            refine r_icmp_eq (pc := 68) (tgt := 96) C dX5_makeTurn_68 (by decide) (fun c68 => ?_) (fun c68 => ?_)
            · exact t96 _ E f
            · refine r_aload_n (pc := 71) C dX5_makeTurn_71 rfl rfl ?_
              refine r_getIe (pc := 72) C fl_X5_43 E.L.o rfl E.turns dX5_makeTurn_72 ?_
              refine r_aload_n (pc := 75) C dX5_makeTurn_75 rfl rfl ?_
              refine r_getIe (pc := 76) C fl_X5_270 T.2 rfl KT.2.2.1 dX5_makeTurn_76 ?_
              refine r_isub (pc := 79) C dX5_makeTurn_79 ?_
              refine r_aload_n (pc := 80) C dX5_makeTurn_80 rfl rfl ?_
              refine r_getIe (pc := 81) C fl_X5_49 E.L.o rfl E.bnd dX5_makeTurn_81 ?_
              refine r_icmp_lt (pc := 84) (tgt := 96) C dX5_makeTurn_84 (by decide) (fun c84 => ?_) (fun c84 => absurd c84 (fun z => hwt ⟨H7.1.mpr c60, c68, by rw [← H7.2 (H7.1.mpr c60)]; exact z⟩))
              exact t96 _ E f
  refine r_aload_n (pc := 0) C dX5_makeTurn_0 rfl rfl ?_
  refine r_dup (pc := 1) C dX5_makeTurn_1 rfl ?_
  refine r_getIe (pc := 2) C fl_X5_43 E.L.o rfl E.turns dX5_makeTurn_2 ?_
  refine r_iconst (pc := 5) (v := (nI 1)) C dX5_makeTurn_5 (by decide) ?_
  refine r_iadd (pc := 6) C dX5_makeTurn_6 ?_
  refine r_putI (pc := 7) C fl_X5_43 E.L.o rfl rfl rfl rfl dX5_makeTurn_7 ?_
  have E := E.p_turns (tI t 0 1 + 1)
  exact t10 _ E (Fq.rf.pI (Or.inl (by omega)))
end CM69
