/-! ===== the class: a task, a tally, a channel by themselves ===== -/
theorem c_X4_isWaiting {G : GP} {h : AH} {a n p : Nat} (o4 : hS h a = (0, 4)) (f40 : hI h a 0 = nI p) (f41 : hI h a 1 = nI n) (hn : n < 100000) (hp : p ≤ 1) : MA G mX4_isWaiting 0 0 0 [.ref a] h (Oi (fun v h' => v = bI (n ≠ 0 ∧ p = 0) ∧ h' = h)) := by
  refine MA.intro (lv := [some (.ref a)]) (by decide) (Nat.le_of_ble_eq_true rfl) rfl (fun F C => ?_)
  refine r_aload_n (pc := 0) C dX4_isWaiting_0 rfl rfl ?_
  refine r_getIe (pc := 1) C fl_X4_13 o4 rfl f41 dX4_isWaiting_1 ?_
  refine n_if_le (pc := 4) (tgt := 18) C (by omega) dX4_isWaiting_4 (by decide) (fun c4 => ?_) (fun c4 => ?_)
  · refine r_iconst (pc := 18) (v := (nI 0)) C dX4_isWaiting_18 (by decide) ?_
    exact r_zret (pc := 19) C rfl (by first | exact bI_01 | exact Or.inl rfl | exact Or.inr rfl) (Nat.le_of_ble_eq_true rfl) (Nat.le_of_ble_eq_true rfl) ⟨_, rfl, ⟨by first | exact tt1 ⟨by omega, by omega⟩ | exact ff0 (by omega), rfl⟩⟩ dX4_isWaiting_19
  · refine r_aload_n (pc := 7) C dX4_isWaiting_7 rfl rfl ?_
    refine r_getIe (pc := 8) C fl_X4_7 o4 rfl f40 dX4_isWaiting_8 ?_
    refine n_if_ne (pc := 11) (tgt := 18) C (by omega) dX4_isWaiting_11 (by decide) (fun c11 => ?_) (fun c11 => ?_)
    · refine r_iconst (pc := 18) (v := (nI 0)) C dX4_isWaiting_18 (by decide) ?_
      exact r_zret (pc := 19) C rfl (by first | exact bI_01 | exact Or.inl rfl | exact Or.inr rfl) (Nat.le_of_ble_eq_true rfl) (Nat.le_of_ble_eq_true rfl) ⟨_, rfl, ⟨by first | exact tt1 ⟨by omega, by omega⟩ | exact ff0 (by omega), rfl⟩⟩ dX4_isWaiting_19
    · refine r_iconst (pc := 14) (v := (nI 1)) C dX4_isWaiting_14 (by decide) ?_
      refine r_goto (pc := 15) (tgt := 19) C dX4_isWaiting_15 (by decide) ?_
      exact r_zret (pc := 19) C rfl (by first | exact bI_01 | exact Or.inl rfl | exact Or.inr rfl) (Nat.le_of_ble_eq_true rfl) (Nat.le_of_ble_eq_true rfl) ⟨_, rfl, ⟨by first | exact tt1 ⟨by omega, by omega⟩ | exact ff0 (by omega), rfl⟩⟩ dX4_isWaiting_19
theorem c_X4_barrierCame {G : GP} {h : AH} {a n : Nat} {v : Int32} (o4 : hS h a = (0, 4)) (f41 : hI h a 1 = nI n) (hn : n < 100000) : MA G mX4_barrierCame 0 0 0 [.ref a, .int v] h (Ov (fun h' => h' = pI (if n = 0 then pI h a 2 v else h) a 1 (nI (n + 1)))) := by
  refine MA.intro (lv := [some (.ref a), some (.int v)]) (by decide) (Nat.le_of_ble_eq_true rfl) rfl (fun F C => ?_)
  refine r_aload_n (pc := 0) C dX4_barrierCame_0 rfl rfl ?_
  refine r_getIe (pc := 1) C fl_X4_13 o4 rfl f41 dX4_barrierCame_1 ?_
  refine n_if_ne (pc := 4) (tgt := 12) C (by omega) dX4_barrierCame_4 (by decide) (fun c4 => ?_) (fun c4 => ?_)
  · refine r_aload_n (pc := 12) C dX4_barrierCame_12 rfl rfl ?_
    refine r_dup (pc := 13) C dX4_barrierCame_13 rfl ?_
    refine r_getIe (pc := 14) C fl_X4_13 o4 rfl (show _ = nI n from (by first | exact f41 | (rw [hI_eq, up_ne (by decide)]; exact f41))) dX4_barrierCame_14 ?_
    refine r_iconst (pc := 17) (v := (nI 1)) C dX4_barrierCame_17 (by decide) ?_
    refine n_iadd (pc := 18) C dX4_barrierCame_18 ?_
    refine r_putI (pc := 19) C fl_X4_13 o4 rfl rfl rfl rfl dX4_barrierCame_19 ?_
    exact r_vret (pc := 22) C rfl (Nat.le_of_ble_eq_true rfl) (Nat.le_of_ble_eq_true rfl) ⟨rfl, (by first | rw [if_pos c4] | rw [if_neg c4])⟩ dX4_barrierCame_22
  · refine r_aload_n (pc := 7) C dX4_barrierCame_7 rfl rfl ?_
    refine r_iload_n (pc := 8) C dX4_barrierCame_8 rfl rfl ?_
    refine r_putI (pc := 9) C fl_X4_17 o4 rfl rfl rfl rfl dX4_barrierCame_9 ?_
    refine r_aload_n (pc := 12) C dX4_barrierCame_12 rfl rfl ?_
    refine r_dup (pc := 13) C dX4_barrierCame_13 rfl ?_
    refine r_getIe (pc := 14) C fl_X4_13 o4 rfl (show _ = nI n from (by first | exact f41 | (rw [hI_eq, up_ne (by decide)]; exact f41))) dX4_barrierCame_14 ?_
    refine r_iconst (pc := 17) (v := (nI 1)) C dX4_barrierCame_17 (by decide) ?_
    refine n_iadd (pc := 18) C dX4_barrierCame_18 ?_
    refine r_putI (pc := 19) C fl_X4_13 o4 rfl rfl rfl rfl dX4_barrierCame_19 ?_
    exact r_vret (pc := 22) C rfl (Nat.le_of_ble_eq_true rfl) (Nat.le_of_ble_eq_true rfl) ⟨rfl, (by first | rw [if_pos c4] | rw [if_neg c4])⟩ dX4_barrierCame_22
theorem c_X4_forgetMark {G : GP} {h : AH} {a : Nat} (o4 : hS h a = (0, 4)) : MA G mX4_forgetMark 0 0 0 [.ref a] h (Ov (fun h' => h' = pI (pI (pI h a 0 (nI 0)) a 1 (nI 0)) a 2 (nI 0))) := by
  refine MA.intro (lv := [some (.ref a)]) (by decide) (Nat.le_of_ble_eq_true rfl) rfl (fun F C => ?_)
  refine r_aload_n (pc := 0) C dX4_forgetMark_0 rfl rfl ?_
  refine r_iconst (pc := 1) (v := (nI 0)) C dX4_forgetMark_1 (by decide) ?_
  refine r_putI (pc := 2) C fl_X4_7 o4 rfl rfl rfl rfl dX4_forgetMark_2 ?_
  refine r_aload_n (pc := 5) C dX4_forgetMark_5 rfl rfl ?_
  refine r_iconst (pc := 6) (v := (nI 0)) C dX4_forgetMark_6 (by decide) ?_
  refine r_putI (pc := 7) C fl_X4_13 o4 rfl rfl rfl rfl dX4_forgetMark_7 ?_
  refine r_aload_n (pc := 10) C dX4_forgetMark_10 rfl rfl ?_
  refine r_iconst (pc := 11) (v := (nI 0)) C dX4_forgetMark_11 (by decide) ?_
  refine r_putI (pc := 12) C fl_X4_17 o4 rfl rfl rfl rfl dX4_forgetMark_12 ?_
  exact r_vret (pc := 15) C rfl (Nat.le_of_ble_eq_true rfl) (Nat.le_of_ble_eq_true rfl) ⟨rfl, rfl⟩ dX4_forgetMark_15
/-- a tally's cells -/
def T3 (a : Nat) (h : AH) : Prop := hS h a = (0, 3) ∧ hR h a 0 = some (a + 1) ∧ hS h (a + 1) = (1, 64) ∧ hR h a 1 = some (a + 2) ∧ hS h (a + 2) = (2, 64)
theorem T3.fq {P : Nat → Prop} {a : Nat} {h h' : AH} (T : T3 a h) (f : Fq P h h') : T3 a h' := by
  unfold T3; rw [f.2.1, f.2.2.1]; exact T
theorem c_X3_placeOf {G : GP} (h : AH) {s k : Nat} (hs : s < 4) (hk : k < 16) : MA G mX3_placeOf 1 0 0 [.int (nI s), .int (nI k)] h (Oi (fun v h' => v = nI (16 * s + k) ∧ h' = h)) := by
  refine MA.intro (lv := [some (.int (nI s)), some (.int (nI k))]) (by decide) (Nat.le_of_ble_eq_true rfl) rfl (fun F C => ?_)
  refine r_iload_n (pc := 0) C dX3_placeOf_0 rfl rfl ?_
  refine n_if_lt (pc := 1) (tgt := 25) C (by omega) dX3_placeOf_1 (by decide) ?_
  refine r_iload_n (pc := 4) C dX3_placeOf_4 rfl rfl ?_
  refine r_iconst (pc := 5) (v := (nI 4)) C dX3_placeOf_5 (by decide) ?_
  refine n_icmp_ge (pc := 6) (tgt := 25) C (by omega) (by omega) dX3_placeOf_6 (by decide) (fun c6 => absurd c6 (by omega)) (fun c6 => ?_)
  refine r_iload_n (pc := 9) C dX3_placeOf_9 rfl rfl ?_
  refine r_calli (cr_SN (pc := 10) C (c_X5_isKey _ _) dX3_placeOf_10 cm_X5_isKey ml_X3_19 st_X5_isKey ⟨⟨Nat.le_of_ble_eq_true rfl, Nat.le_of_ble_eq_true rfl⟩, Nat.le_of_ble_eq_true rfl, Nat.le_of_ble_eq_true rfl⟩ rfl rfl (Nat.le_of_ble_eq_true rfl)) (fun v10 h10 hq10 => ?_)
  obtain ⟨rfl, rfl⟩ := hq10
  refine b_if_eq (pc := 13) (tgt := 25) C dX3_placeOf_13 (by decide) (fun c13 => absurd c13 (fun z => z (inN_ok hk))) (fun c13 => ?_)
  refine r_iload_n (pc := 16) C dX3_placeOf_16 rfl rfl ?_
  refine r_bipush (pc := 17) (v := (nI 16)) C dX3_placeOf_17 (by decide) ?_
  refine n_imul (pc := 19) C dX3_placeOf_19 ?_
  refine r_iload_n (pc := 20) C dX3_placeOf_20 rfl rfl ?_
  refine n_iadd (pc := 21) C dX3_placeOf_21 ?_
  refine r_goto (pc := 22) (tgt := 26) C dX3_placeOf_22 (by decide) ?_
  exact r_iret (pc := 26) C rfl (Nat.le_of_ble_eq_true rfl) (Nat.le_of_ble_eq_true rfl) ⟨_, rfl, ⟨by rw [Nat.mul_comm 16 s], rfl⟩⟩ dX3_placeOf_26
theorem c_X3_rowsOf {G : GP} {h : AH} {a s k : Nat} {v : Int32} (T : T3 a h) (hs : s < 4) (hk : k < 16) (hv : hI h (a + 1) (16 * s + k) = v) : MA G mX3_rowsOf 2 0 0 [.ref a, .int (nI s), .int (nI k)] h (Oi (fun v' h' => v' = v ∧ h' = h)) := by
  obtain ⟨o3, r30, s30, r31, s31⟩ := T
  refine MA.intro (lv := [some (.ref a), some (.int (nI s)), some (.int (nI k)), none]) (by decide) (Nat.le_of_ble_eq_true rfl) rfl (fun F C => ?_)
  refine r_iload_n (pc := 0) C dX3_rowsOf_0 rfl rfl ?_
  refine r_iload_n (pc := 1) C dX3_rowsOf_1 rfl rfl ?_
  refine r_calli (cr_S (pc := 2) C (c_X3_placeOf _ hs hk) dX3_rowsOf_2 cm_X3_placeOf ml_X3_23 st_X3_placeOf ⟨⟨Nat.le_of_ble_eq_true rfl, Nat.le_of_ble_eq_true rfl⟩, Nat.le_of_ble_eq_true rfl, Nat.le_of_ble_eq_true rfl⟩ rfl rfl (Nat.le_of_ble_eq_true rfl)) (fun v2 h2 hq2 => ?_)
  obtain ⟨rfl, rfl⟩ := hq2
  refine r_istore_n (pc := 5) (lv' := [_, _, _, _]) C dX3_rowsOf_5 rfl (by decide) rfl rfl ?_
  refine r_iload_n (pc := 6) C dX3_rowsOf_6 rfl rfl ?_
  refine r_iconst (pc := 7) (v := (-1)) C dX3_rowsOf_7 (by decide) ?_
  refine r_icmp_ne (pc := 8) (tgt := 15) C dX3_rowsOf_8 (by decide) (fun c8 => ?_) (fun c8 => absurd c8 (fun z => nI_m1 (by omega) z))
  refine r_aload_n (pc := 15) C dX3_rowsOf_15 rfl rfl ?_
  refine r_getR (pc := 16) C fl_X3_9 o3 rfl r30 dX3_rowsOf_16 ?_
  refine r_iload_n (pc := 19) C dX3_rowsOf_19 rfl rfl ?_
  refine n_iald (pc := 20) C s30 (by omega) hv dX3_rowsOf_20 ?_
  exact r_iret (pc := 21) C rfl (Nat.le_of_ble_eq_true rfl) (Nat.le_of_ble_eq_true rfl) ⟨_, rfl, ⟨rfl, rfl⟩⟩ dX3_rowsOf_21
theorem c_X3_totalOf {G : GP} {h : AH} {a s k : Nat} {v : Int64} (T : T3 a h) (hs : s < 4) (hk : k < 16) (hv : hL h (a + 2) (16 * s + k) = v) : MA G mX3_totalOf 2 0 0 [.ref a, .int (nI s), .int (nI k)] h (Ol (fun v' h' => v' = v ∧ h' = h)) := by
  obtain ⟨o3, r30, s30, r31, s31⟩ := T
  refine MA.intro (lv := [some (.ref a), some (.int (nI s)), some (.int (nI k)), none]) (by decide) (Nat.le_of_ble_eq_true rfl) rfl (fun F C => ?_)
  refine r_iload_n (pc := 0) C dX3_totalOf_0 rfl rfl ?_
  refine r_iload_n (pc := 1) C dX3_totalOf_1 rfl rfl ?_
  refine r_calli (cr_S (pc := 2) C (c_X3_placeOf _ hs hk) dX3_totalOf_2 cm_X3_placeOf ml_X3_23 st_X3_placeOf ⟨⟨Nat.le_of_ble_eq_true rfl, Nat.le_of_ble_eq_true rfl⟩, Nat.le_of_ble_eq_true rfl, Nat.le_of_ble_eq_true rfl⟩ rfl rfl (Nat.le_of_ble_eq_true rfl)) (fun v2 h2 hq2 => ?_)
  obtain ⟨rfl, rfl⟩ := hq2
  refine r_istore_n (pc := 5) (lv' := [_, _, _, _]) C dX3_totalOf_5 rfl (by decide) rfl rfl ?_
  refine r_iload_n (pc := 6) C dX3_totalOf_6 rfl rfl ?_
  refine r_iconst (pc := 7) (v := (-1)) C dX3_totalOf_7 (by decide) ?_
  refine r_icmp_ne (pc := 8) (tgt := 15) C dX3_totalOf_8 (by decide) (fun c8 => ?_) (fun c8 => absurd c8 (fun z => nI_m1 (by omega) z))
  refine r_aload_n (pc := 15) C dX3_totalOf_15 rfl rfl ?_
  refine r_getR (pc := 16) C fl_X3_15 o3 rfl r31 dX3_totalOf_16 ?_
  refine r_iload_n (pc := 19) C dX3_totalOf_19 rfl rfl ?_
  refine n_lald (pc := 20) C s31 (by omega) hv dX3_totalOf_20 ?_
  exact r_lret (pc := 21) C rfl (Nat.le_of_ble_eq_true rfl) (Nat.le_of_ble_eq_true rfl) ⟨_, rfl, ⟨rfl, rfl⟩⟩ dX3_totalOf_21
theorem c_X3_count {G : GP} {h : AH} {a s k n : Nat} {v w : Int64} (T : T3 a h) (hs : s < 4) (hk : k < 16) (hn : hI h (a + 1) (16 * s + k) = nI n) (hw : hL h (a + 2) (16 * s + k) = w) : MA G mX3_count 2 0 0 [.ref a, .int (nI s), .int (nI k), .long v] h (Ov (fun h' => h' = pL (pI h (a + 1) (16 * s + k) (nI (n + 1))) (a + 2) (16 * s + k) (w + v))) := by
  obtain ⟨o3, r30, s30, r31, s31⟩ := T
  refine MA.intro (lv := [some (.ref a), some (.int (nI s)), some (.int (nI k)), some (.long v), none, none]) (by decide) (Nat.le_of_ble_eq_true rfl) rfl (fun F C => ?_)
  refine r_iload_n (pc := 0) C dX3_count_0 rfl rfl ?_
  refine r_iload_n (pc := 1) C dX3_count_1 rfl rfl ?_
  refine r_calli (cr_S (pc := 2) C (c_X3_placeOf _ hs hk) dX3_count_2 cm_X3_placeOf ml_X3_23 st_X3_placeOf ⟨⟨Nat.le_of_ble_eq_true rfl, Nat.le_of_ble_eq_true rfl⟩, Nat.le_of_ble_eq_true rfl, Nat.le_of_ble_eq_true rfl⟩ rfl rfl (Nat.le_of_ble_eq_true rfl)) (fun v2 h2 hq2 => ?_)
  obtain ⟨rfl, rfl⟩ := hq2
  refine r_istore (pc := 5) (lv' := [_, _, _, _, _, _]) C dX3_count_5 (by decide) rfl rfl ?_
  refine r_iload (pc := 7) C dX3_count_7 rfl ?_
  refine r_iconst (pc := 9) (v := (-1)) C dX3_count_9 (by decide) ?_
  refine r_icmp_eq (pc := 10) (tgt := 35) C dX3_count_10 (by decide) (fun c10 => absurd c10 (fun z => nI_m1 (by omega) z)) (fun c10 => ?_)
  refine r_aload_n (pc := 13) C dX3_count_13 rfl rfl ?_
  refine r_getR (pc := 14) C fl_X3_9 o3 rfl r30 dX3_count_14 ?_
  refine r_iload (pc := 17) C dX3_count_17 rfl ?_
  refine r_dup2 (pc := 19) C dX3_count_19 rfl rfl ?_
  refine n_iald (pc := 20) C s30 (by omega) hn dX3_count_20 ?_
  refine r_iconst (pc := 21) (v := (nI 1)) C dX3_count_21 (by decide) ?_
  refine n_iadd (pc := 22) C dX3_count_22 ?_
  refine n_iast (pc := 23) C s30 (by omega) dX3_count_23 ?_
  refine r_aload_n (pc := 24) C dX3_count_24 rfl rfl ?_
  refine r_getR (pc := 25) C fl_X3_15 o3 rfl r31 dX3_count_25 ?_
  refine r_iload (pc := 28) C dX3_count_28 rfl ?_
  refine r_dup2 (pc := 30) C dX3_count_30 rfl rfl ?_
  refine n_lald (pc := 31) C s31 (by omega) (show _ = w from hw) dX3_count_31 ?_
  refine r_lload_n (pc := 32) C dX3_count_32 rfl rfl ?_
  refine r_ladd (pc := 33) C dX3_count_33 ?_
  refine n_last (pc := 34) C s31 (by omega) dX3_count_34 ?_
  exact r_vret (pc := 35) C rfl (Nat.le_of_ble_eq_true rfl) (Nat.le_of_ble_eq_true rfl) ⟨rfl, rfl⟩ dX3_count_35
section T351
variable {G : GP} {F : FX} {Q : State → Prop}
/-- what copyOwned has done when the KEYS below n are through -/
def cpO {α : Type} (f g : Nat → α) (s w q n : Nat) : Nat → α := fun i => if 16 * s ≤ i ∧ i < 16 * s + n ∧ (i - 16 * s) % w = q then f i else g i
theorem copy_l (C : CX G F mX3_copyOwned (Rm 2 0 0)) {h0 : AH} {a b s q w : Nat} (Ta : T3 a h0) (Tb : T3 b h0) (hab : a + 2 ≤ b ∨ b + 2 ≤ a) (hs : s < 4) (hw : 1 ≤ w ∧ w ≤ 4) (hq : q < 4)
    (kk : ∀ h x5 x6, Fq (fun z => z = a + 1 ∨ z = a + 2) h0 h → hI h (a + 1) = cpO (hI h0 (b + 1)) (hI h0 (a + 1)) s w q 16 → hL h (a + 2) = cpO (hL h0 (b + 2)) (hL h0 (a + 2)) s w q 16 → WA G F mX3_copyOwned h 0 0 Q 69 [some (.ref a), some (.ref b), some (.int (nI s)), some (.int (nI q)), some (.int (nI w)), some (.int x5), x6] []) :
    ∀ (m n : Nat) (h : AH) (x6 : Option Value), n + m = 16 → Fq (fun z => z = a + 1 ∨ z = a + 2) h0 h → hI h (a + 1) = cpO (hI h0 (b + 1)) (hI h0 (a + 1)) s w q n → hL h (a + 2) = cpO (hL h0 (b + 2)) (hL h0 (a + 2)) s w q n → WA G F mX3_copyOwned h 0 0 Q 3 [some (.ref a), some (.ref b), some (.int (nI s)), some (.int (nI q)), some (.int (nI w)), some (.int (nI n)), x6] [] := by
  intro m
  induction m with
  | zero =>
    intro n h x6 hn f e1 e2
    obtain rfl : n = 16 := by omega
    refine r_iload (pc := 3) C dX3_copyOwned_3 rfl ?_
    refine r_bipush (pc := 5) (v := (nI 16)) C dX3_copyOwned_5 (by decide) ?_
    refine n_icmp_ge (pc := 7) (tgt := 69) C (by omega) (by omega) dX3_copyOwned_7 (by decide) (fun c7 => ?_) (fun c7 => absurd c7 (by omega))
    exact kk h _ _ f e1 e2
  | succ m ih =>
    intro n h x6 hn f e1 e2
    have Ta' := Ta.fq f
    have Tb' := Tb.fq f
    have hnw := Nat.mod_lt n (show w > 0 by omega)
    have w0 : ¬ (n % w = q) → ∀ x6, WA G F mX3_copyOwned h 0 0 Q 63 [some (.ref a), some (.ref b), some (.int (nI s)), some (.int (nI q)), some (.int (nI w)), some (.int (nI n)), x6] [] := by
      intro hne x6
      have e (α : Type) (f g : Nat → α) : cpO f g s w q (n + 1) = cpO f g s w q n := by
        funext i
        unfold cpO
        by_cases hi : i = 16 * s + n
        · subst hi
          rw [if_neg (fun z => hne (by have := z.2.2; rwa [show 16 * s + n - 16 * s = n by omega] at this)), if_neg (by omega)]
        · by_cases h2 : 16 * s ≤ i ∧ i < 16 * s + n ∧ (i - 16 * s) % w = q
          · rw [if_pos h2, if_pos ⟨h2.1, by omega, h2.2.2⟩]
          · rw [if_neg h2, if_neg (fun z => h2 ⟨z.1, by omega, z.2.2⟩)]
      refine n_iinc (pc := 63) (lv' := [_, _, _, _, _, _, _]) C dX3_copyOwned_63 rfl (by decide) rfl rfl ?_
      refine r_goto (pc := 66) (tgt := 3) C dX3_copyOwned_66 (by decide) ?_
      exact ih (n + 1) h _ (by omega) f (by rw [e]; exact e1) (by rw [e]; exact e2)
    refine r_iload (pc := 3) C dX3_copyOwned_3 rfl ?_
    refine r_bipush (pc := 5) (v := (nI 16)) C dX3_copyOwned_5 (by decide) ?_
    refine n_icmp_ge (pc := 7) (tgt := 69) C (by omega) (by omega) dX3_copyOwned_7 (by decide) (fun c7 => absurd c7 (by omega)) (fun c7 => ?_)
    refine r_iload_n (pc := 10) C dX3_copyOwned_10 rfl rfl ?_
    refine r_iload (pc := 11) C dX3_copyOwned_11 rfl ?_
    refine r_calli (cr_S (pc := 13) C (c_X3_placeOf _ hs (k := n) (by omega)) dX3_copyOwned_13 cm_X3_placeOf ml_X3_23 st_X3_placeOf ⟨⟨Nat.le_of_ble_eq_true rfl, Nat.le_of_ble_eq_true rfl⟩, Nat.le_of_ble_eq_true rfl, Nat.le_of_ble_eq_true rfl⟩ rfl rfl (Nat.le_of_ble_eq_true rfl)) (fun v13 h13 hq13 => ?_)
    obtain ⟨rfl, rfl⟩ := hq13
    refine r_istore (pc := 16) (lv' := [_, _, _, _, _, _, _]) C dX3_copyOwned_16 (by decide) rfl rfl ?_
    refine r_iload (pc := 18) C dX3_copyOwned_18 rfl ?_
    refine r_iconst (pc := 20) (v := (-1)) C dX3_copyOwned_20 (by decide) ?_
    refine r_icmp_eq (pc := 21) (tgt := 63) C dX3_copyOwned_21 (by decide) (fun c21 => absurd c21 (fun z => nI_m1 (by omega) z)) (fun c21 => ?_)
    refine r_iload (pc := 24) C dX3_copyOwned_24 rfl ?_
    refine r_iload (pc := 26) C dX3_copyOwned_26 rfl ?_
    refine r_calli (cr_SN (pc := 28) C (c_X5_owner _ n w (by omega) (by omega)) dX3_copyOwned_28 cm_X5_owner ml_X3_27 st_X5_owner ⟨⟨Nat.le_of_ble_eq_true rfl, Nat.le_of_ble_eq_true rfl⟩, Nat.le_of_ble_eq_true rfl, Nat.le_of_ble_eq_true rfl⟩ rfl rfl (Nat.le_of_ble_eq_true rfl)) (fun v28 h28 hq28 => ?_)
    obtain ⟨rfl, rfl⟩ := hq28
    rw [show ownI n w = nI (n % w) from if_neg (by omega)]
    refine r_iload_n (pc := 31) C dX3_copyOwned_31 rfl rfl ?_
    refine n_icmp_ne (pc := 32) (tgt := 63) C (by omega) (by omega) dX3_copyOwned_32 (by decide) (fun c32 => ?_) (fun c32 => ?_)
    · exact w0 c32 _
    · refine r_aload_n (pc := 35) C dX3_copyOwned_35 rfl rfl ?_
      refine r_getR (pc := 36) C fl_X3_9 Ta'.1 rfl Ta'.2.1 dX3_copyOwned_36 ?_
      refine r_iload (pc := 39) C dX3_copyOwned_39 rfl ?_
      refine r_aload_n (pc := 41) C dX3_copyOwned_41 rfl rfl ?_
      refine r_getR (pc := 42) C fl_X3_9 Tb'.1 rfl Tb'.2.1 dX3_copyOwned_42 ?_
      refine r_iload (pc := 45) C dX3_copyOwned_45 rfl ?_
      refine n_iald (pc := 47) C Tb'.2.2.1 (by omega) rfl dX3_copyOwned_47 ?_
      refine n_iast (pc := 48) C Ta'.2.2.1 (by omega) dX3_copyOwned_48 ?_
      refine r_aload_n (pc := 49) C dX3_copyOwned_49 rfl rfl ?_
      refine r_getR (pc := 50) C fl_X3_15 (show hS h28 a = _ from Ta'.1) rfl (show hR h28 a 1 = _ from Ta'.2.2.2.1) dX3_copyOwned_50 ?_
      refine r_iload (pc := 53) C dX3_copyOwned_53 rfl ?_
      refine r_aload_n (pc := 55) C dX3_copyOwned_55 rfl rfl ?_
      refine r_getR (pc := 56) C fl_X3_15 (show hS h28 b = _ from Tb'.1) rfl (show hR h28 b 1 = _ from Tb'.2.2.2.1) dX3_copyOwned_56 ?_
      refine r_iload (pc := 59) C dX3_copyOwned_59 rfl ?_
      refine n_lald (pc := 61) C (show hS h28 (b + 2) = _ from Tb'.2.2.2.2) (by omega) rfl dX3_copyOwned_61 ?_
      refine n_last (pc := 62) C (show hS h28 (a + 2) = _ from Ta'.2.2.2.2) (by omega) dX3_copyOwned_62 ?_
      refine n_iinc (pc := 63) (lv' := [_, _, _, _, _, _, _]) C dX3_copyOwned_63 rfl (by decide) rfl rfl ?_
      refine r_goto (pc := 66) (tgt := 3) C dX3_copyOwned_66 (by decide) ?_
      refine ih (n + 1) _ _ (by omega) ((f.pI (Or.inl rfl)).pL (Or.inr rfl)) ?_ ?_
      · rw [hI_pL, hI_eq, e1, (f.2.2.2 (b + 1) (by omega)).1]
        funext i
        unfold va_up cpO
        by_cases hi : i = 16 * s + n
        · subst hi; rw [if_pos rfl, if_pos ⟨by omega, by omega, by rw [show 16 * s + n - 16 * s = n by omega]; exact c32⟩]
        · rw [if_neg hi]
          by_cases h2 : 16 * s ≤ i ∧ i < 16 * s + n ∧ (i - 16 * s) % w = q
          · rw [if_pos h2, if_pos ⟨h2.1, by omega, h2.2.2⟩]
          · rw [if_neg h2, if_neg (fun z => h2 ⟨z.1, by omega, z.2.2⟩)]
      · rw [hL_eq, hL_pI, e2, (f.2.2.2 (b + 2) (by omega)).2]
        funext i
        unfold va_up cpO
        by_cases hi : i = 16 * s + n
        · subst hi; rw [if_pos rfl, if_pos ⟨by omega, by omega, by rw [show 16 * s + n - 16 * s = n by omega]; exact c32⟩]
        · rw [if_neg hi]
          by_cases h2 : 16 * s ≤ i ∧ i < 16 * s + n ∧ (i - 16 * s) % w = q
          · rw [if_pos h2, if_pos ⟨h2.1, by omega, h2.2.2⟩]
          · rw [if_neg h2, if_neg (fun z => h2 ⟨z.1, by omega, z.2.2⟩)]
end T351
theorem c_X3_copyOwned {G : GP} {h : AH} {a b s q w : Nat} (Ta : T3 a h) (Tb : T3 b h) (hab : a + 2 ≤ b ∨ b + 2 ≤ a) (hs : s < 4) (hw : 1 ≤ w ∧ w ≤ 4) (hq : q < 4) : MA G mX3_copyOwned 2 0 0 [.ref a, .ref b, .int (nI s), .int (nI q), .int (nI w)] h (Ov (fun h' => Fq (fun z => z = a + 1 ∨ z = a + 2) h h' ∧ hI h' (a + 1) = cpO (hI h (b + 1)) (hI h (a + 1)) s w q 16 ∧ hL h' (a + 2) = cpO (hL h (b + 2)) (hL h (a + 2)) s w q 16)) := by
  refine MA.intro (lv := [some (.ref a), some (.ref b), some (.int (nI s)), some (.int (nI q)), some (.int (nI w)), none, none]) (by decide) (Nat.le_of_ble_eq_true rfl) rfl (fun F C => ?_)
  have e (α : Type) (f g : Nat → α) : cpO f g s w q 0 = g := by
    funext i; unfold cpO; rw [if_neg (by omega)]
  refine r_iconst (pc := 0) (v := (nI 0)) C dX3_copyOwned_0 (by decide) ?_
  refine r_istore (pc := 1) (lv' := [_, _, _, _, _, _, _]) C dX3_copyOwned_1 (by decide) rfl rfl ?_
  refine copy_l C Ta Tb hab hs hw hq (fun h1 x5 x6 f1 f2 f3 => ?_) 16 0 h _ rfl Fq.rf (e _ _ _).symm (e _ _ _).symm
  exact r_vret (pc := 69) C rfl (Nat.le_refl _) (Nat.le_refl _) ⟨rfl, f1, f2, f3⟩ dX3_copyOwned_69
theorem Fq.pIs {P : Nat → Prop} {a : Nat} {v : Nat → Int32} {h h1 : AH} (f : Fq P h h1) (ha : P a) : Fq P h (pIs h1 a v) := f.tr ⟨rfl, rfl, rfl, fun x hx => ⟨up_ne (fun e => hx (e ▸ ha)), rfl⟩⟩
theorem Fq.pLs {P : Nat → Prop} {a : Nat} {v : Nat → Int64} {h h1 : AH} (f : Fq P h h1) (ha : P a) : Fq P h (pLs h1 a v) := f.tr ⟨rfl, rfl, rfl, fun x hx => ⟨rfl, up_ne (fun e => hx (e ▸ ha))⟩⟩
theorem c_X3_copyAll {G : GP} {h : AH} {a b : Nat} (Ta : T3 a h) (Tb : T3 b h) (hab : a + 2 ≤ b ∨ b + 2 ≤ a) : MA G mX3_copyAll 1 0 0 [.ref a, .ref b] h (Ov (fun h' => Fq (fun z => z = a + 1 ∨ z = a + 2) h h' ∧ (∀ i, i < 64 → hI h' (a + 1) i = hI h (b + 1) i) ∧ ∀ i, i < 64 → hL h' (a + 2) i = hL h (b + 2) i)) := by
  refine MA.intro (lv := [some (.ref a), some (.ref b)]) (by decide) (Nat.le_of_ble_eq_true rfl) rfl (fun F C => ?_)
  have c0 : (nI 0).toNatClampNeg = 0 := by decide
  have c64 : (nI 64).toNatClampNeg = 64 := by decide
  refine r_aload_n (pc := 0) C dX3_copyAll_0 rfl rfl ?_
  refine r_getR (pc := 1) C fl_X3_9 Tb.1 rfl Tb.2.1 dX3_copyAll_1 ?_
  refine r_iconst (pc := 4) (v := (nI 0)) C dX3_copyAll_4 (by decide) ?_
  refine r_aload_n (pc := 5) C dX3_copyAll_5 rfl rfl ?_
  refine r_getR (pc := 6) C fl_X3_9 Ta.1 rfl Ta.2.1 dX3_copyAll_6 ?_
  refine r_iconst (pc := 9) (v := (nI 0)) C dX3_copyAll_9 (by decide) ?_
  refine r_aload_n (pc := 10) C dX3_copyAll_10 rfl rfl ?_
  refine r_getR (pc := 11) C fl_X3_9 Ta.1 rfl Ta.2.1 dX3_copyAll_11 ?_
  refine r_alen (pc := 14) C Ta.2.2.1 (by decide) (by decide) dX3_copyAll_14 ?_
  refine r_copyi (pc := 15) C Tb.2.2.1 Ta.2.2.1 ay_1 ay_2 ay_3 ay_4 (by decide) (by decide) (by decide) (by rw [c0, c64]; decide) (by rw [c0, c64]; decide) (by decide) (by decide) dX3_copyAll_15 ?_
  rw [c0, c64]
  refine r_aload_n (pc := 18) C dX3_copyAll_18 rfl rfl ?_
  refine r_getR (pc := 19) C fl_X3_15 (show hS h b = _ from Tb.1) rfl (show hR h b 1 = _ from Tb.2.2.2.1) dX3_copyAll_19 ?_
  refine r_iconst (pc := 22) (v := (nI 0)) C dX3_copyAll_22 (by decide) ?_
  refine r_aload_n (pc := 23) C dX3_copyAll_23 rfl rfl ?_
  refine r_getR (pc := 24) C fl_X3_15 (show hS h a = _ from Ta.1) rfl (show hR h a 1 = _ from Ta.2.2.2.1) dX3_copyAll_24 ?_
  refine r_iconst (pc := 27) (v := (nI 0)) C dX3_copyAll_27 (by decide) ?_
  refine r_aload_n (pc := 28) C dX3_copyAll_28 rfl rfl ?_
  refine r_getR (pc := 29) C fl_X3_15 (show hS h a = _ from Ta.1) rfl (show hR h a 1 = _ from Ta.2.2.2.1) dX3_copyAll_29 ?_
  refine r_alen (pc := 32) C (show hS h (a + 2) = _ from Ta.2.2.2.2) (by decide) (by decide) dX3_copyAll_32 ?_
  refine r_copyl (pc := 33) C (show hS h (b + 2) = _ from Tb.2.2.2.2) (show hS h (a + 2) = _ from Ta.2.2.2.2) ay_1 ay_2 ay_3 ay_4 (by decide) (by decide) (by decide) (by rw [c0, c64]; decide) (by rw [c0, c64]; decide) (by decide) (by decide) dX3_copyAll_33 ?_
  rw [c0, c64]
  refine r_vret (pc := 36) C rfl (Nat.le_refl _) (Nat.le_refl _) ⟨rfl, (Fq.rf.pIs (Or.inl rfl)).pLs (Or.inr rfl), fun i hi => ?_, fun i hi => ?_⟩ dX3_copyAll_36
  · rw [hI_pLs, hI_pIs, if_pos rfl]
    unfold va_cpy
    rw [if_pos (by omega)]
    simp
  · rw [hL_pLs, if_pos rfl]
    unfold va_cpy
    rw [if_pos (by omega)]
    simp [hL_pIs]
theorem c_X3_clear {G : GP} {h : AH} {a : Nat} (Ta : T3 a h) : MA G mX3_clear 1 0 0 [.ref a] h (Ov (fun h' => Fq (fun z => z = a + 1 ∨ z = a + 2) h h' ∧ (∀ i, i < 64 → hI h' (a + 1) i = nI 0) ∧ ∀ i, i < 64 → hL h' (a + 2) i = 0)) := by
  refine MA.intro (lv := [some (.ref a)]) (by decide) (Nat.le_of_ble_eq_true rfl) rfl (fun F C => ?_)
  refine r_aload_n (pc := 0) C dX3_clear_0 rfl rfl ?_
  refine r_getR (pc := 1) C fl_X3_9 Ta.1 rfl Ta.2.1 dX3_clear_1 ?_
  refine r_iconst (pc := 4) (v := (nI 0)) C dX3_clear_4 (by decide) ?_
  refine r_callv (cr_S (pc := 5) C (c_J7_fill Ta.2.2.1 (by decide)) dX3_clear_5 cm_J7_fill_53178 ml_X3_36 st_J7_fill_53178 ⟨⟨Nat.le_of_ble_eq_true rfl, Nat.le_of_ble_eq_true rfl⟩, Nat.le_of_ble_eq_true rfl, Nat.le_of_ble_eq_true rfl⟩ rfl rfl (Nat.le_of_ble_eq_true rfl)) (fun h5 hq5 => ?_)
  obtain ⟨f1, f2⟩ := hq5
  have Tb := Ta.fq f1
  refine r_aload_n (pc := 8) C dX3_clear_8 rfl rfl ?_
  refine r_getR (pc := 9) C fl_X3_15 Tb.1 rfl Tb.2.2.2.1 dX3_clear_9 ?_
  refine r_lconst (pc := 12) (v := 0) C dX3_clear_12 (by decide) ?_
  refine r_callv (cr_S (pc := 13) C (c_J7_filll Tb.2.2.2.2 (by decide)) dX3_clear_13 cm_J7_fill_d0a16 ml_X3_42 st_J7_fill_d0a16 ⟨⟨Nat.le_of_ble_eq_true rfl, Nat.le_of_ble_eq_true rfl⟩, Nat.le_of_ble_eq_true rfl, Nat.le_of_ble_eq_true rfl⟩ rfl rfl (Nat.le_of_ble_eq_true rfl)) (fun h13 hq13 => ?_)
  obtain ⟨f3, f4⟩ := hq13
  exact r_vret (pc := 16) C rfl (Nat.le_of_ble_eq_true rfl) (Nat.le_of_ble_eq_true rfl) ⟨rfl, ⟨(f1.wd (fun z hz => Or.inl hz)).tr (f3.wd (fun z hz => Or.inr hz)), (fun i hi => by rw [(f3.2.2.2 (a + 1) (by omega)).1]; exact f2 i hi), f4⟩⟩ dX3_clear_16
