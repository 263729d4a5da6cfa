/-! ===== the reference: rows are taken and put ===== -/
theorem cnt_le {t : TS} {k : Nat} : ∀ n, cnt t k n ≤ n
  | 0 => Nat.le_refl 0
  | n + 1 => by
    have := cnt_le (t := t) (k := k) n
    unfold cnt
    split <;> omega
section MR29
variable {G : GP} {F : FX} {m : Nat} {Q : State → Prop}
theorem isRead_l (C : CX G F mX6_isRead (Rm 0 0 0)) {t : TS} {h : AH} (E : RM m t h) (B : TB t) {r : Nat} (hr : r < 200) (k : WA G F mX6_isRead h 0 0 Q 38 [some (.ref m), some (.int (nI r)), some (.int (nI (cnt t (tN t 2 r) r))), some (.int (nI r))] []) :
    ∀ (n i b : Nat), i + n = r → b = cnt t (tN t 2 r) i → WA G F mX6_isRead h 0 0 Q 4 [some (.ref m), some (.int (nI r)), some (.int (nI b)), some (.int (nI i))] [] := by
  have b1 := B.key r
  intro n
  induction n with
  | zero =>
    intro i b hi hb
    obtain rfl : i = r := by omega
    subst hb
    refine r_iload_n (pc := 4) C dX6_isRead_4 rfl rfl ?_
    refine r_iload_n (pc := 5) C dX6_isRead_5 rfl rfl ?_
    refine n_icmp_ge (pc := 6) (tgt := 38) C (by omega) (by omega) dX6_isRead_6 (by decide) (fun c6 => ?_) (fun c6 => absurd c6 (by omega))
    exact k
  | succ n ih =>
    intro i b hi hb
    have b2 := B.key i
    refine r_iload_n (pc := 4) C dX6_isRead_4 rfl rfl ?_
    refine r_iload_n (pc := 5) C dX6_isRead_5 rfl rfl ?_
    refine n_icmp_ge (pc := 6) (tgt := 38) C (by omega) (by omega) dX6_isRead_6 (by decide) (fun c6 => absurd c6 (by omega)) (fun c6 => ?_)
    refine r_iload_n (pc := 9) C dX6_isRead_9 rfl rfl ?_
    refine r_aload_n (pc := 10) C dX6_isRead_10 rfl rfl ?_
    refine r_getR (pc := 11) C fl_X6_20 E.L.o rfl E.L.r6 dX6_isRead_11 ?_
    refine r_iload_n (pc := 14) C dX6_isRead_14 rfl rfl ?_
    refine n_iald (pc := 15) C E.L.s6 (by omega) (E.k_key _ (by omega)) dX6_isRead_15 ?_
    refine r_aload_n (pc := 16) C dX6_isRead_16 rfl rfl ?_
    refine r_getR (pc := 17) C fl_X6_20 E.L.o rfl E.L.r6 dX6_isRead_17 ?_
    refine r_iload_n (pc := 20) C dX6_isRead_20 rfl rfl ?_
    refine n_iald (pc := 21) C E.L.s6 (by omega) (E.k_key _ (by omega)) dX6_isRead_21 ?_
    refine n_icmp_ne (pc := 22) (tgt := 29) C (by omega) (by omega) dX6_isRead_22 (by decide) (fun c22 => ?_) (fun c22 => ?_)
    · refine r_iconst (pc := 29) (v := (nI 0)) C dX6_isRead_29 (by decide) ?_
      refine n_iadd (pc := 30) C dX6_isRead_30 ?_
      refine r_istore_n (pc := 31) (lv' := [_, _, _, _]) C dX6_isRead_31 rfl (by decide) rfl rfl ?_
      refine n_iinc (pc := 32) (lv' := [_, _, _, _]) C dX6_isRead_32 rfl (by decide) rfl rfl ?_
      refine r_goto (pc := 35) (tgt := 4) C dX6_isRead_35 (by decide) ?_
      exact ih (i + 1) _ (by omega) (by unfold cnt; rw [hb]; first | rw [if_pos c22] | rw [if_neg c22])
    · refine r_iconst (pc := 25) (v := (nI 1)) C dX6_isRead_25 (by decide) ?_
      refine r_goto (pc := 26) (tgt := 30) C dX6_isRead_26 (by decide) ?_
      refine n_iadd (pc := 30) C dX6_isRead_30 ?_
      refine r_istore_n (pc := 31) (lv' := [_, _, _, _]) C dX6_isRead_31 rfl (by decide) rfl rfl ?_
      refine n_iinc (pc := 32) (lv' := [_, _, _, _]) C dX6_isRead_32 rfl (by decide) rfl rfl ?_
      refine r_goto (pc := 35) (tgt := 4) C dX6_isRead_35 (by decide) ?_
      exact ih (i + 1) _ (by omega) (by unfold cnt; rw [hb]; first | rw [if_pos c22] | rw [if_neg c22])
end MR29
theorem c_X6_isRead {G : GP} {m : Nat} {t : TS} {h : AH} (E : RM m t h) (B : TB t) {r : Nat} (hr : r < 200) : MA G mX6_isRead 0 0 0 [.ref m, .int (nI r)] h (Oi (fun v h' => v = bI (isRd t r) ∧ h' = h)) := by
  have b1 := B.key r
  have b2 := B.many (tN t 2 r)
  have b3 := cnt_le (t := t) (k := tN t 2 r) r
  refine MA.intro (lv := [some (.ref m), some (.int (nI r)), none, none]) (by decide) (Nat.le_of_ble_eq_true rfl) rfl (fun F C => ?_)
  refine r_iconst (pc := 0) (v := (nI 0)) C dX6_isRead_0 (by decide) ?_
  refine r_istore_n (pc := 1) (lv' := [_, _, _, _]) C dX6_isRead_1 rfl (by decide) rfl rfl ?_
  refine r_iconst (pc := 2) (v := (nI 0)) C dX6_isRead_2 (by decide) ?_
  refine r_istore_n (pc := 3) (lv' := [_, _, _, _]) C dX6_isRead_3 rfl (by decide) rfl rfl ?_
  refine isRead_l C E B hr ?_ r 0 0 (Nat.zero_add _) rfl
  refine r_iload_n (pc := 38) C dX6_isRead_38 rfl rfl ?_
  refine r_aload_n (pc := 39) C dX6_isRead_39 rfl rfl ?_
  refine r_getR (pc := 40) C fl_X6_27 E.L.o rfl E.L.r8 dX6_isRead_40 ?_
  refine r_aload_n (pc := 43) C dX6_isRead_43 rfl rfl ?_
  refine r_getR (pc := 44) C fl_X6_20 E.L.o rfl E.L.r6 dX6_isRead_44 ?_
  refine r_iload_n (pc := 47) C dX6_isRead_47 rfl rfl ?_
  refine n_iald (pc := 48) C E.L.s6 (by omega) (E.k_key _ (by omega)) dX6_isRead_48 ?_
  refine n_iald (pc := 49) C E.L.s8 (by omega) (E.k_many _ (by omega)) dX6_isRead_49 ?_
  refine n_icmp_ge (pc := 50) (tgt := 57) C (by omega) (by omega) dX6_isRead_50 (by decide) (fun c50 => ?_) (fun c50 => ?_)
  · refine r_iconst (pc := 57) (v := (nI 0)) C dX6_isRead_57 (by decide) ?_
    exact r_zret (pc := 58) C rfl (by first | exact bI_01 | exact Or.inl rfl | exact Or.inr rfl) (Nat.le_of_ble_eq_true rfl) (Nat.le_of_ble_eq_true rfl) ⟨_, rfl, ⟨by first | exact tt1 c50 | exact ff0 (Nat.not_lt.mpr c50), rfl⟩⟩ dX6_isRead_58
  · refine r_iconst (pc := 53) (v := (nI 1)) C dX6_isRead_53 (by decide) ?_
    refine r_goto (pc := 54) (tgt := 58) C dX6_isRead_54 (by decide) ?_
    exact r_zret (pc := 58) C rfl (by first | exact bI_01 | exact Or.inl rfl | exact Or.inr rfl) (Nat.le_of_ble_eq_true rfl) (Nat.le_of_ble_eq_true rfl) ⟨_, rfl, ⟨by first | exact tt1 c50 | exact ff0 (Nat.not_lt.mpr c50), rfl⟩⟩ dX6_isRead_58
theorem c_X6_take {G : GP} {m : Nat} {t : TS} {h : AH} (E : RM m t h) (B : TB t) {s r : Nat} (hs : s < 4) (hr : r < 200) : MA G mX6_take 0 0 0 [.ref m, .int (nI s), .int (nI r)] h (Ov (fun h' => RM m (spTake t s r) h' ∧ Fr m (m + 24) h h')) := by
  have b1 := B.key r
  refine MA.intro (lv := [some (.ref m), some (.int (nI s)), some (.int (nI r))]) (by decide) (Nat.le_of_ble_eq_true rfl) rfl (fun F C => ?_)
  refine r_aload_n (pc := 0) C dX6_take_0 rfl rfl ?_
  refine r_getR (pc := 1) C fl_X6_27 E.L.o rfl E.L.r8 dX6_take_1 ?_
  refine r_bipush (pc := 4) (v := (nI 16)) C dX6_take_4 (by decide) ?_
  refine r_iload_n (pc := 6) C dX6_take_6 rfl rfl ?_
  refine n_imul (pc := 7) C dX6_take_7 ?_
  refine r_aload_n (pc := 8) C dX6_take_8 rfl rfl ?_
  refine r_getR (pc := 9) C fl_X6_20 E.L.o rfl E.L.r6 dX6_take_9 ?_
  refine r_iload_n (pc := 12) C dX6_take_12 rfl rfl ?_
  refine n_iald (pc := 13) C E.L.s6 (by omega) (E.k_key _ (by omega)) dX6_take_13 ?_
  refine n_iadd (pc := 14) C dX6_take_14 ?_
  refine r_dup2 (pc := 15) C dX6_take_15 rfl rfl ?_
  refine n_iald (pc := 16) C E.L.s8 (by omega) (E.k_many _ (by omega)) dX6_take_16 ?_
  refine r_iconst (pc := 17) (v := (nI 1)) C dX6_take_17 (by decide) ?_
  refine n_iadd (pc := 18) C dX6_take_18 ?_
  refine n_iast (pc := 19) C E.L.s8 (by omega) dX6_take_19 ?_
  have E := E.p_many (16 * s + tN t 2 r) (tN t 3 (16 * s + tN t 2 r) + 1)
  refine r_aload_n (pc := 20) C dX6_take_20 rfl rfl ?_
  refine r_getR (pc := 21) C fl_X6_30 E.L.o rfl E.L.r9 dX6_take_21 ?_
  refine r_bipush (pc := 24) (v := (nI 16)) C dX6_take_24 (by decide) ?_
  refine r_iload_n (pc := 26) C dX6_take_26 rfl rfl ?_
  refine n_imul (pc := 27) C dX6_take_27 ?_
  refine r_aload_n (pc := 28) C dX6_take_28 rfl rfl ?_
  refine r_getR (pc := 29) C fl_X6_20 E.L.o rfl E.L.r6 dX6_take_29 ?_
  refine r_iload_n (pc := 32) C dX6_take_32 rfl rfl ?_
  refine n_iald (pc := 33) C E.L.s6 (by omega) (show _ = nI (tN t 2 r) from E.k_key _ (by omega)) dX6_take_33 ?_
  refine n_iadd (pc := 34) C dX6_take_34 ?_
  refine r_dup2 (pc := 35) C dX6_take_35 rfl rfl ?_
  refine n_lald (pc := 36) C E.L.s9 (by omega) (show _ = tL t 1 (16 * s + tN t 2 r) from E.k_sum _ (by omega)) dX6_take_36 ?_
  refine r_aload_n (pc := 37) C dX6_take_37 rfl rfl ?_
  refine r_getR (pc := 38) C fl_X6_23 E.L.o rfl E.L.r7 dX6_take_38 ?_
  refine r_iload_n (pc := 41) C dX6_take_41 rfl rfl ?_
  refine n_lald (pc := 42) C E.L.s7 (by omega) (show _ = tL t 0 r from E.k_val _ (by omega)) dX6_take_42 ?_
  refine r_ladd (pc := 43) C dX6_take_43 ?_
  refine n_last (pc := 44) C E.L.s9 (by omega) dX6_take_44 ?_
  have E := E.p_sum (16 * s + tN t 2 r) (tL t 1 (16 * s + tN t 2 r) + tL t 0 r)
  exact r_vret (pc := 45) C rfl (Nat.le_of_ble_eq_true rfl) (Nat.le_of_ble_eq_true rfl) ⟨rfl, ⟨E, (Fr.rf.pI (by omega) (by omega)).pL (by omega) (by omega)⟩⟩ dX6_take_45
theorem cplace {t : TS} (B : TB t) {b : Nat} (hb : (tC t b).length < 200) : ∀ j, j < 48 → ∀ i, i < (tC t j).length → 200 * j + i ≠ 200 * b + (tC t b).length := fun j hj i hi e => by
  have := B.len j
  have := B.len b
  rcases Nat.lt_trichotomy j b with q | q | q
  · omega
  · subst q; omega
  · omega
theorem c_X6_put {G : GP} {m : Nat} {t : TS} {h : AH} (E : RM m t h) (B : TB t) {c r : Nat} (hc : c < 48) (hl : (tC t c).length < 200) : MA G mX6_put 0 0 0 [.ref m, .int (nI c), .int (nI r)] h (Ov (fun h' => RM m (spPut t c r) h' ∧ Fr m (m + 24) h h')) := by
  refine MA.intro (lv := [some (.ref m), some (.int (nI c)), some (.int (nI r))]) (by decide) (Nat.le_of_ble_eq_true rfl) rfl (fun F C => ?_)
  refine r_aload_n (pc := 0) C dX6_put_0 rfl rfl ?_
  refine r_getR (pc := 1) C fl_X6_33 E.L.o rfl E.L.r10 dX6_put_1 ?_
  refine r_sipush (pc := 4) (v := (nI 200)) C dX6_put_4 (by decide) ?_
  refine r_iload_n (pc := 7) C dX6_put_7 rfl rfl ?_
  refine n_imul (pc := 8) C dX6_put_8 ?_
  refine r_aload_n (pc := 9) C dX6_put_9 rfl rfl ?_
  refine r_getR (pc := 10) C fl_X6_36 E.L.o rfl E.L.r11 dX6_put_10 ?_
  refine r_iload_n (pc := 13) C dX6_put_13 rfl rfl ?_
  refine n_iald (pc := 14) C E.L.s11 (by omega) (E.k_held _ (by omega)) dX6_put_14 ?_
  refine n_iadd (pc := 15) C dX6_put_15 ?_
  refine r_iload_n (pc := 16) C dX6_put_16 rfl rfl ?_
  refine n_iast (pc := 17) C E.L.s10 (by omega) dX6_put_17 ?_
  have E := E.g_rows (cplace B hl) (v := nI r)
  refine r_aload_n (pc := 18) C dX6_put_18 rfl rfl ?_
  refine r_getR (pc := 19) C fl_X6_36 E.L.o rfl E.L.r11 dX6_put_19 ?_
  refine r_iload_n (pc := 22) C dX6_put_22 rfl rfl ?_
  refine r_dup2 (pc := 23) C dX6_put_23 rfl rfl ?_
  refine n_iald (pc := 24) C E.L.s11 (by omega) (E.k_held _ (by omega)) dX6_put_24 ?_
  refine r_iconst (pc := 25) (v := (nI 1)) C dX6_put_25 (by decide) ?_
  refine n_iadd (pc := 26) C dX6_put_26 ?_
  refine n_iast (pc := 27) C E.L.s11 (by omega) dX6_put_27 ?_
  have E := E.p_push (b := c) (r := r) (by rw [hI_pI, if_pos ⟨rfl, rfl⟩])
  exact r_vret (pc := 28) C rfl (Nat.le_of_ble_eq_true rfl) (Nat.le_of_ble_eq_true rfl) ⟨rfl, ⟨E, (Fr.rf.pI (by omega) (by omega)).pI (by omega) (by omega)⟩⟩ dX6_put_28
theorem c_X6_isShut {G : GP} {m : Nat} {t : TS} {h : AH} (E : RM m t h) (B : TB t) {s q c : Nat} (hs : s < 4) (hq : q < 4) (hc : c < 48) : MA G mX6_isShut 0 0 0 [.ref m, .int (nI s), .int (nI q), .int (nI c)] h (Oi (fun v h' => v = bI (shut t s q c) ∧ h' = h)) := by
  have b1 := B.uw
  have b2 := B.marks
  have b3 := (B.bool (4 * s + q)).2.2.1
  have b4 := (B.bool c).1
  refine MA.intro (lv := [some (.ref m), some (.int (nI s)), some (.int (nI q)), some (.int (nI c))]) (by decide) (Nat.le_of_ble_eq_true rfl) rfl (fun F C => ?_)
  refine r_aload_n (pc := 0) C dX6_isShut_0 rfl rfl ?_
  refine r_getIe (pc := 1) C fl_X6_58 E.L.o rfl E.uw dX6_isShut_1 ?_
  refine r_iconst (pc := 4) (v := (-1)) C dX6_isShut_4 (by decide) ?_
  refine r_icmp_eq (pc := 5) (tgt := 34) C dX6_isShut_5 (by decide) (fun c5 => ?_) (fun c5 => ?_)
  · refine r_iconst (pc := 34) (v := (nI 0)) C dX6_isShut_34 (by decide) ?_
    exact r_zret (pc := 35) C rfl (by first | exact bI_01 | exact Or.inl rfl | exact Or.inr rfl) (Nat.le_of_ble_eq_true rfl) (Nat.le_of_ble_eq_true rfl) ⟨_, rfl, ⟨by first | exact tt1 ⟨fun z => c5 ((uwm1 (by omega)).mpr z), c18, c27⟩ | exact ff0 (fun z => z.2.2 c27) | exact ff0 (fun z => z.2.1 c18) | exact ff0 (fun z => z.1 ((uwm1 (by omega)).mp c5)), rfl⟩⟩ dX6_isShut_35
  · refine r_aload_n (pc := 8) C dX6_isShut_8 rfl rfl ?_
    refine r_getR (pc := 9) C fl_X6_49 E.L.o rfl E.L.r15 dX6_isShut_9 ?_
    refine r_iconst (pc := 12) (v := (nI 4)) C dX6_isShut_12 (by decide) ?_
    refine r_iload_n (pc := 13) C dX6_isShut_13 rfl rfl ?_
    refine n_imul (pc := 14) C dX6_isShut_14 ?_
    refine r_iload_n (pc := 15) C dX6_isShut_15 rfl rfl ?_
    refine n_iadd (pc := 16) C dX6_isShut_16 ?_
    refine n_zald (pc := 17) C E.L.s15 (by omega) (E.k_waits _ (by omega)) dX6_isShut_17 ?_
    refine n_if_eq (pc := 18) (tgt := 34) C (by omega) dX6_isShut_18 (by decide) (fun c18 => ?_) (fun c18 => ?_)
    · refine r_iconst (pc := 34) (v := (nI 0)) C dX6_isShut_34 (by decide) ?_
      exact r_zret (pc := 35) C rfl (by first | exact bI_01 | exact Or.inl rfl | exact Or.inr rfl) (Nat.le_of_ble_eq_true rfl) (Nat.le_of_ble_eq_true rfl) ⟨_, rfl, ⟨by first | exact tt1 ⟨fun z => c5 ((uwm1 (by omega)).mpr z), c18, c27⟩ | exact ff0 (fun z => z.2.2 c27) | exact ff0 (fun z => z.2.1 c18) | exact ff0 (fun z => z.1 ((uwm1 (by omega)).mp c5)), rfl⟩⟩ dX6_isShut_35
    · refine r_aload_n (pc := 21) C dX6_isShut_21 rfl rfl ?_
      refine r_getR (pc := 22) C fl_X6_42 E.L.o rfl E.L.r13 dX6_isShut_22 ?_
      refine r_iload_n (pc := 25) C dX6_isShut_25 rfl rfl ?_
      refine n_zald (pc := 26) C E.L.s13 (by omega) (E.k_came _ (by omega)) dX6_isShut_26 ?_
      refine n_if_eq (pc := 27) (tgt := 34) C (by omega) dX6_isShut_27 (by decide) (fun c27 => ?_) (fun c27 => ?_)
      · refine r_iconst (pc := 34) (v := (nI 0)) C dX6_isShut_34 (by decide) ?_
        exact r_zret (pc := 35) C rfl (by first | exact bI_01 | exact Or.inl rfl | exact Or.inr rfl) (Nat.le_of_ble_eq_true rfl) (Nat.le_of_ble_eq_true rfl) ⟨_, rfl, ⟨by first | exact tt1 ⟨fun z => c5 ((uwm1 (by omega)).mpr z), c18, c27⟩ | exact ff0 (fun z => z.2.2 c27) | exact ff0 (fun z => z.2.1 c18) | exact ff0 (fun z => z.1 ((uwm1 (by omega)).mp c5)), rfl⟩⟩ dX6_isShut_35
      · refine r_iconst (pc := 30) (v := (nI 1)) C dX6_isShut_30 (by decide) ?_
        refine r_goto (pc := 31) (tgt := 35) C dX6_isShut_31 (by decide) ?_
        exact r_zret (pc := 35) C rfl (by first | exact bI_01 | exact Or.inl rfl | exact Or.inr rfl) (Nat.le_of_ble_eq_true rfl) (Nat.le_of_ble_eq_true rfl) ⟨_, rfl, ⟨by first | exact tt1 ⟨fun z => c5 ((uwm1 (by omega)).mpr z), c18, c27⟩ | exact ff0 (fun z => z.2.2 c27) | exact ff0 (fun z => z.2.1 c18) | exact ff0 (fun z => z.1 ((uwm1 (by omega)).mp c5)), rfl⟩⟩ dX6_isShut_35
section MS29
variable {G : GP} {F : FX} {m : Nat} {Q : State → Prop}
theorem source_l (C : CX G F mX6_source (Rm 1 0 0)) {t : TS} {h : AH} (E : RM m t h) (B : TB t) {q : Nat} (hq : q < tN t 1 0) {rf : Nat} (k : WA G F mX6_source h 0 0 Q 41 [some (.ref m), some (.int (nI q)), some (.int (nI rf)), none] []) :
    ∀ (n r : Nat), r + n = tN t 0 3 → fstU t q n r = rf → WA G F mX6_source h 0 0 Q 2 [some (.ref m), some (.int (nI q)), some (.int (nI r)), none] [] := by
  have b0 := B.fed
  have b1 := B.P (s := 0) (by decide)
  intro n
  induction n with
  | zero =>
    intro r hr hf
    rw [show fstU t q 0 r = r from rfl] at hf
    subst hf
    refine r_iload_n (pc := 2) C dX6_source_2 rfl rfl ?_
    refine r_aload_n (pc := 3) C dX6_source_3 rfl rfl ?_
    refine r_getIe (pc := 4) C fl_X6_111 E.L.o rfl E.fed dX6_source_4 ?_
    refine n_icmp_ge (pc := 7) (tgt := 41) C (by omega) (by omega) dX6_source_7 (by decide) (fun c7 => ?_) (fun c7 => absurd c7 (by omega))
    exact k
  | succ n ih =>
    intro r hr hf
    have b2 := B.key r
    have b3 : tN t 2 r % tN t 1 0 < tN t 1 0 := Nat.mod_lt _ (by omega)
    unfold fstU at hf
    refine r_iload_n (pc := 2) C dX6_source_2 rfl rfl ?_
    refine r_aload_n (pc := 3) C dX6_source_3 rfl rfl ?_
    refine r_getIe (pc := 4) C fl_X6_111 E.L.o rfl E.fed dX6_source_4 ?_
    refine n_icmp_ge (pc := 7) (tgt := 41) C (by omega) (by omega) dX6_source_7 (by decide) (fun c7 => absurd c7 (by omega)) (fun c7 => ?_)
    refine r_aload_n (pc := 10) C dX6_source_10 rfl rfl ?_
    refine r_getR (pc := 11) C fl_X6_20 E.L.o rfl E.L.r6 dX6_source_11 ?_
    refine r_iload_n (pc := 14) C dX6_source_14 rfl rfl ?_
    refine n_iald (pc := 15) C E.L.s6 (by omega) (E.k_key _ (by omega)) dX6_source_15 ?_
    refine r_aload_n (pc := 16) C dX6_source_16 rfl rfl ?_
    refine r_getR (pc := 17) C fl_X6_7 E.L.o rfl E.L.r1 dX6_source_17 ?_
    refine r_iconst (pc := 20) (v := (nI 0)) C dX6_source_20 (by decide) ?_
    refine n_iald (pc := 21) C E.L.s1 (by omega) (E.k_P _ (by omega)) dX6_source_21 ?_
    refine n_irem (pc := 22) C (by omega) (by omega) (by omega) dX6_source_22 ?_
    refine r_iload_n (pc := 23) C dX6_source_23 rfl rfl ?_
    refine n_icmp_ne (pc := 24) (tgt := 35) C (by omega) (by omega) dX6_source_24 (by decide) (fun c24 => ?_) (fun c24 => ?_)
    · refine n_iinc (pc := 35) (lv' := [_, _, _, _]) C dX6_source_35 rfl (by decide) rfl rfl ?_
      refine r_goto (pc := 38) (tgt := 2) C dX6_source_38 (by decide) ?_
      refine ih (r + 1) (by omega) ?_
      rw [← hf, cif_f]
      first | exact (fun z => c24 z.1) | exact (fun z => z.2 c32)
    · refine r_aload_n (pc := 27) C dX6_source_27 rfl rfl ?_
      refine r_iload_n (pc := 28) C dX6_source_28 rfl rfl ?_
      refine r_calli (cr_V (pc := 29) C (c_X6_isRead E B (r := r) (by omega)) dX6_source_29 cm_X6_isRead ml_X6_137 im_X6_isRead se_X6_isRead E.L.o rfl ⟨⟨Nat.le_of_ble_eq_true rfl, Nat.le_of_ble_eq_true rfl⟩, Nat.le_of_ble_eq_true rfl, Nat.le_of_ble_eq_true rfl⟩ rfl rfl (Nat.le_of_ble_eq_true rfl)) (fun v29 h29 hq29 => ?_)
      obtain ⟨rfl, rfl⟩ := hq29
      refine b_if_eq (pc := 32) (tgt := 41) C dX6_source_32 (by decide) (fun c32 => ?_) (fun c32 => ?_)
      · rw [cif_t ⟨c24, c32⟩] at hf
        subst hf
        exact k
      · refine n_iinc (pc := 35) (lv' := [_, _, _, _]) C dX6_source_35 rfl (by decide) rfl rfl ?_
        refine r_goto (pc := 38) (tgt := 2) C dX6_source_38 (by decide) ?_
        refine ih (r + 1) (by omega) ?_
        rw [← hf, cif_f]
        first | exact (fun z => c24 z.1) | exact (fun z => z.2 c32)
end MS29
theorem fstU_le {t : TS} {q : Nat} : ∀ n r, fstU t q n r ≤ r + n
  | 0, r => Nat.le_refl _
  | n + 1, r => by
    unfold fstU
    by_cases h : tN t 2 r % tN t 1 0 = q ∧ ¬ isRd t r
    · rw [cif_t h]; omega
    · rw [cif_f h]
      have := fstU_le (t := t) (q := q) n (r + 1)
      omega
theorem TB.take {t : TS} (B : TB t) {s r : Nat} (hm : tN t 3 (16 * s + tN t 2 r) < 200) : TB (spTake t s r) := (B.p3 (by omega)).pL
theorem TB.put {t : TS} (B : TB t) {c r : Nat} (hl : (tC t c).length < 200) (hr : r < tN t 0 3) : TB (spPut t c r) := by
  have b1 := B.bar c
  refine B.pC (by rw [List.length_append]; simp; omega) (fun x hx => ?_) (by rw [List.length_append]; simp; omega)
  rcases List.mem_append.mp hx with z | z
  · exact B.row z
  · rw [List.mem_singleton.mp z]; exact hr
theorem fstU_p {t : TS} {q : Nat} : ∀ n r, fstU t q n r ≠ r + n → tN t 2 (fstU t q n r) % tN t 1 0 = q ∧ ¬ isRd t (fstU t q n r)
  | 0, r, h => absurd rfl h
  | n + 1, r, h => by
    unfold fstU at h ⊢
    by_cases hc : tN t 2 r % tN t 1 0 = q ∧ ¬ isRd t r
    · rw [cif_t hc]; exact hc
    · rw [cif_f hc] at h ⊢
      exact fstU_p n (r + 1) (by rw [show r + 1 + n = r + (n + 1) by omega]; exact h)
theorem TB.source {t : TS} (B : TB t) {q : Nat} : TB (spSource t q).2 := by
  unfold spSource
  split
  · exact B
  · split
    · exact B
    · rename_i h1 h2
      have b0 := B.fed
      have b1 := B.cap
      have b2 := fstU_le (t := t) (q := q) (tN t 0 3) 0
      have b3 := (fstU_p (tN t 0 3) 0 (by rw [Nat.zero_add]; exact h1)).2
      generalize fstU t q (tN t 0 3) 0 = r at *
      have b4 : tN t 3 (tN t 2 r) ≤ cnt t (tN t 2 r) r := Nat.not_lt.mp b3
      have b5 := cnt_le (t := t) (k := tN t 2 r) r
      refine TB.put (B.take (s := 0) (by rw [show 16 * 0 + tN t 2 r = tN t 2 r by omega]; omega)) ?_ (show r < tN t 0 3 by omega)
      show (tC t _).length < 200
      omega
theorem c_X6_source {G : GP} {m : Nat} {t : TS} {h : AH} (E : RM m t h) (B : TB t) {q : Nat} (hq : q < tN t 1 0) : MA G mX6_source 1 0 0 [.ref m, .int (nI q)] h (Oi (fun v h' => v = nI (spSource t q).1 ∧ RM m (spSource t q).2 h' ∧ Fr m (m + 24) h h')) := by
  have b0 := B.fed
  have b1 := B.P (s := 0) (by decide)
  have b2 := B.P (s := 1) (by decide)
  have b3 := B.cap
  refine MA.intro (lv := [some (.ref m), some (.int (nI q)), none, none]) (by decide) (Nat.le_of_ble_eq_true rfl) rfl (fun F C => ?_)
  have b4 := fstU_le (t := t) (q := q) (tN t 0 3) 0
  have b5 := fstU_p (t := t) (q := q) (tN t 0 3) 0
  generalize hrr : fstU t q (tN t 0 3) 0 = r at b4 b5
  have e0 : spSource t q = if r = tN t 0 3 then (0, t) else if tN t 0 1 ≤ (tC t (4 * q + tN t 2 r % tN t 1 1)).length then (0, t) else (1, spPut (spTake t 0 r) (4 * q + tN t 2 r % tN t 1 1) r) := by unfold spSource; rw [hrr]
  rw [e0]
  have b6 := B.key r
  have b7 : tN t 2 r % tN t 1 1 < tN t 1 1 := Nat.mod_lt _ (by omega)
  have b8 := B.len (4 * q + tN t 2 r % tN t 1 1)
  refine r_iconst (pc := 0) (v := (nI 0)) C dX6_source_0 (by decide) ?_
  refine r_istore_n (pc := 1) (lv' := [_, _, _, _]) C dX6_source_1 rfl (by decide) rfl rfl ?_
  refine source_l C E B hq ?_ (tN t 0 3) 0 (Nat.zero_add _) hrr
  refine r_iload_n (pc := 41) C dX6_source_41 rfl rfl ?_
  refine r_aload_n (pc := 42) C dX6_source_42 rfl rfl ?_
  refine r_getIe (pc := 43) C fl_X6_111 E.L.o rfl E.fed dX6_source_43 ?_
  refine n_icmp_ne (pc := 46) (tgt := 51) C (by omega) (by omega) dX6_source_46 (by decide) (fun c46 => ?_) (fun c46 => ?_)
  · refine r_iconst (pc := 51) (v := (nI 0)) C dX6_source_51 (by decide) ?_
    refine r_iload_n (pc := 52) C dX6_source_52 rfl rfl ?_
    refine r_aload_n (pc := 53) C dX6_source_53 rfl rfl ?_
    refine r_getR (pc := 54) C fl_X6_20 E.L.o rfl E.L.r6 dX6_source_54 ?_
    refine r_iload_n (pc := 57) C dX6_source_57 rfl rfl ?_
    refine n_iald (pc := 58) C E.L.s6 (by omega) (E.k_key _ (by omega)) dX6_source_58 ?_
    refine r_aload_n (pc := 59) C dX6_source_59 rfl rfl ?_
    refine r_getR (pc := 60) C fl_X6_7 E.L.o rfl E.L.r1 dX6_source_60 ?_
    refine r_iconst (pc := 63) (v := (nI 1)) C dX6_source_63 (by decide) ?_
    refine n_iald (pc := 64) C E.L.s1 (by omega) (E.k_P _ (by omega)) dX6_source_64 ?_
    refine n_irem (pc := 65) C (by omega) (by omega) (by omega) dX6_source_65 ?_
    refine r_calli (cr_S (pc := 66) C (c_X6_at _ 0 q _) dX6_source_66 cm_X6_at ml_X6_118 st_X6_at ⟨⟨Nat.le_of_ble_eq_true rfl, Nat.le_of_ble_eq_true rfl⟩, Nat.le_of_ble_eq_true rfl, Nat.le_of_ble_eq_true rfl⟩ rfl rfl (Nat.le_of_ble_eq_true rfl)) (fun v66 h66 hq66 => ?_)
    obtain ⟨rfl, rfl⟩ := hq66
    rw [show 16 * 0 + 4 * q + tN t 2 r % tN t 1 1 = 4 * q + tN t 2 r % tN t 1 1 by omega]
    refine r_istore_n (pc := 69) (lv' := [_, _, _, _]) C dX6_source_69 rfl (by decide) rfl rfl ?_
    refine r_aload_n (pc := 70) C dX6_source_70 rfl rfl ?_
    refine r_getR (pc := 71) C fl_X6_36 E.L.o rfl E.L.r11 dX6_source_71 ?_
    refine r_iload_n (pc := 74) C dX6_source_74 rfl rfl ?_
    refine n_iald (pc := 75) C E.L.s11 (by omega) (E.k_held _ (by omega)) dX6_source_75 ?_
    refine r_aload_n (pc := 76) C dX6_source_76 rfl rfl ?_
    refine r_getIe (pc := 77) C fl_X6_13 E.L.o rfl E.cap dX6_source_77 ?_
    refine n_icmp_lt (pc := 80) (tgt := 85) C (by omega) (by omega) dX6_source_80 (by decide) (fun c80 => ?_) (fun c80 => ?_)
    · refine r_aload_n (pc := 85) C dX6_source_85 rfl rfl ?_
      refine r_iconst (pc := 86) (v := (nI 0)) C dX6_source_86 (by decide) ?_
      refine r_iload_n (pc := 87) C dX6_source_87 rfl rfl ?_
      refine r_callv (cr_V (pc := 88) C (c_X6_take E B (s := 0) (r := r) (by decide) (by omega)) dX6_source_88 cm_X6_take ml_X6_140 im_X6_take se_X6_take E.L.o rfl ⟨⟨Nat.le_of_ble_eq_true rfl, Nat.le_of_ble_eq_true rfl⟩, Nat.le_of_ble_eq_true rfl, Nat.le_of_ble_eq_true rfl⟩ rfl rfl (Nat.le_of_ble_eq_true rfl)) (fun h88 hq88 => ?_)
      obtain ⟨E2, f2⟩ := hq88
      have hnr : ¬ isRd t r := (b5 (by rw [Nat.zero_add]; exact c46)).2
      have b9 : tN t 3 (tN t 2 r) ≤ cnt t (tN t 2 r) r := Nat.not_lt.mp hnr
      have b10 := cnt_le (t := t) (k := tN t 2 r) r
      have E := E2
      refine r_aload_n (pc := 91) C dX6_source_91 rfl rfl ?_
      refine r_iload_n (pc := 92) C dX6_source_92 rfl rfl ?_
      refine r_iload_n (pc := 93) C dX6_source_93 rfl rfl ?_
      refine r_callv (cr_V (pc := 94) C (c_X6_put E2 (B.take (s := 0) (by rw [show 16 * 0 + tN t 2 r = tN t 2 r by omega]; omega)) (c := 4 * q + tN t 2 r % tN t 1 1) (r := r) (by omega) (show (tC t _).length < 200 by omega)) dX6_source_94 cm_X6_put ml_X6_143 im_X6_put se_X6_put E.L.o rfl ⟨⟨Nat.le_of_ble_eq_true rfl, Nat.le_of_ble_eq_true rfl⟩, Nat.le_of_ble_eq_true rfl, Nat.le_of_ble_eq_true rfl⟩ rfl rfl (Nat.le_of_ble_eq_true rfl)) (fun h94 hq94 => ?_)
      obtain ⟨E3, f3⟩ := hq94
      refine r_iconst (pc := 97) (v := (nI 1)) C dX6_source_97 (by decide) ?_
      exact r_iret (pc := 98) C rfl (Nat.le_of_ble_eq_true rfl) (Nat.le_of_ble_eq_true rfl) ⟨_, rfl, (by rw [if_neg c46, if_neg (by omega)]; exact ⟨rfl, E3, f2.tr f3⟩)⟩ dX6_source_98
    · refine r_iconst (pc := 83) (v := (nI 0)) C dX6_source_83 (by decide) ?_
      exact r_iret (pc := 84) C rfl (Nat.le_of_ble_eq_true rfl) (Nat.le_of_ble_eq_true rfl) ⟨_, rfl, (by rw [if_neg c46, if_pos c80]; exact ⟨rfl, E, Fr.rf⟩)⟩ dX6_source_84
  · refine r_iconst (pc := 49) (v := (nI 0)) C dX6_source_49 (by decide) ?_
    exact r_iret (pc := 50) C rfl (Nat.le_of_ble_eq_true rfl) (Nat.le_of_ble_eq_true rfl) ⟨_, rfl, (by rw [if_pos c46]; exact ⟨rfl, E, Fr.rf⟩)⟩ dX6_source_50
