/-! ===== the reference: the end of a mark, keeping a row ===== -/
theorem uN_45 {t : TS} {a b : Nat → Nat} {j k c v : Nat} (hjk : j ≠ k) : uN (uNs (uNs t j a) k b) j c v = uNs (uNs t j (va_up a c v)) k b := by
  unfold uN
  rw [tN_uNs_n hjk, tN_uNs_s, uNs_comm (j := k) (k := j) (Ne.symm hjk), uNs_same]
theorem uN_45' {t : TS} {a b : Nat → Nat} {j k c v : Nat} : uN (uNs (uNs t j a) k b) k c v = uNs (uNs t j a) k (va_up b c v) := by
  unfold uN
  rw [tN_uNs_s, uNs_same]
theorem up_lt {f : Nat → Nat} {c : Nat} (h : ∀ i, i < c → f i = 0) : ∀ i, i < c + 1 → va_up f c 0 i = 0 := fun i hi => by
  unfold va_up
  split
  · rfl
  · exact h i (by omega)
theorem m1_0 : (-1 : Int32) = nI 0 - 1 := by decide
section ME
variable {G : GP} {F : FX} {m : Nat} {cells slots : Nat} {Q : State → Prop}
/-- end's first loop -/
theorem end_l1 {R : Room} (C : CX G F mX6_end R) {h0 : AH} {x : Int32} {t : TS} (k : ∀ h, RM m (uNs (uNs t 4 (fun _ => 0)) 5 (fun _ => 0)) h → Fr m (m + 24) h0 h → WA G F mX6_end h cells slots Q 66 [some (.ref m), some (.int x), some (.int (nI 48))] []) :
    ∀ (n c : Nat) (a b : Nat → Nat) (h : AH), c + n = 48 → (∀ i, i < c → a i = 0) → (∀ i, i < c → b i = 0) → RM m (uNs (uNs t 4 a) 5 b) h → Fr m (m + 24) h0 h → WA G F mX6_end h cells slots Q 40 [some (.ref m), some (.int x), some (.int (nI c))] [] := by
  intro n
  induction n with
  | zero =>
    intro c a b h hc ha hb E f
    obtain rfl : c = 48 := by omega
    refine r_iload_n (pc := 40) C dX6_end_40 rfl rfl ?_
    refine r_bipush (pc := 41) (v := (nI 48)) C dX6_end_41 (by decide) ?_
    refine n_icmp_ge (pc := 43) (tgt := 66) C (by omega) (by omega) dX6_end_43 (by decide) (fun c43 => ?_) (fun c43 => absurd c43 (by omega))
    refine k h ?_ f
    have E2 := (E.c_came (fun _ => 0) (fun i hi => by rw [tN_uNs_s, hb i hi]))
    rw [uNs_same] at E2
    have E3 := (E2.c_bar (fun _ => 0) (fun i hi => by rw [tN_uNs_n (by decide), tN_uNs_s, ha i hi]))
    rw [uNs_comm (j := 4) (k := 5) (by decide), uNs_same, uNs_comm (j := 5) (k := 4) (by decide)] at E3
    exact E3
  | succ n ih =>
    intro c a b h hc ha hb E f
    refine r_iload_n (pc := 40) C dX6_end_40 rfl rfl ?_
    refine r_bipush (pc := 41) (v := (nI 48)) C dX6_end_41 (by decide) ?_
    refine n_icmp_ge (pc := 43) (tgt := 66) C (by omega) (by omega) dX6_end_43 (by decide) (fun c43 => absurd c43 (by omega)) (fun c43 => ?_)
    refine r_aload_n (pc := 46) C dX6_end_46 rfl rfl ?_
    refine r_getR (pc := 47) C fl_X6_39 E.L.o rfl E.L.r12 dX6_end_47 ?_
    refine r_iload_n (pc := 50) C dX6_end_50 rfl rfl ?_
    refine r_iconst (pc := 51) (v := (-1)) C dX6_end_51 (by decide) ?_
    refine n_iast (pc := 52) C E.L.s12 (by omega) dX6_end_52 ?_
    have E := E.p_bar c 0 m1_0
    rw [uN_45 (by decide)] at E
    refine r_aload_n (pc := 53) C dX6_end_53 rfl rfl ?_
    refine r_getR (pc := 54) C fl_X6_42 E.L.o rfl E.L.r13 dX6_end_54 ?_
    refine r_iload_n (pc := 57) C dX6_end_57 rfl rfl ?_
    refine r_iconst (pc := 58) (v := (nI 0)) C dX6_end_58 (by decide) ?_
    refine n_zast (pc := 59) C E.L.s13 (by omega) (by first | exact Or.inl rfl | exact Or.inr rfl | exact bI_01) dX6_end_59 ?_
    have E := E.p_came c 0
    rw [uN_45'] at E
    refine n_iinc (pc := 60) (lv' := [_, _, _]) C dX6_end_60 rfl (by decide) rfl rfl ?_
    refine r_goto (pc := 63) (tgt := 40) C dX6_end_63 (by decide) ?_
    exact ih (c + 1) _ _ _ (by omega) (up_lt ha) (up_lt hb) E ((f.pI (by omega) (by omega)).pI (by omega) (by omega))
/-- end's second loop -/
theorem end_l2 {R : Room} (C : CX G F mX6_end R) {h0 : AH} {x : Int32} {t : TS} (k : ∀ h, RM m (uNs (uNs t 6 (fun _ => 0)) 7 (fun _ => 0)) h → Fr m (m + 24) h0 h → WA G F mX6_end h cells slots Q 94 [some (.ref m), some (.int x), some (.int (nI 16))] []) :
    ∀ (n c : Nat) (a b : Nat → Nat) (h : AH), c + n = 16 → (∀ i, i < c → a i = 0) → (∀ i, i < c → b i = 0) → RM m (uNs (uNs t 6 a) 7 b) h → Fr m (m + 24) h0 h → WA G F mX6_end h cells slots Q 68 [some (.ref m), some (.int x), some (.int (nI c))] [] := by
  intro n
  induction n with
  | zero =>
    intro c a b h hc ha hb E f
    obtain rfl : c = 16 := by omega
    refine r_iload_n (pc := 68) C dX6_end_68 rfl rfl ?_
    refine r_bipush (pc := 69) (v := (nI 16)) C dX6_end_69 (by decide) ?_
    refine n_icmp_ge (pc := 71) (tgt := 94) C (by omega) (by omega) dX6_end_71 (by decide) (fun c71 => ?_) (fun c71 => absurd c71 (by omega))
    refine k h ?_ f
    have E2 := (E.c_waits (fun _ => 0) (fun i hi => by rw [tN_uNs_s, hb i hi]))
    rw [uNs_same] at E2
    have E3 := (E2.c_took (fun _ => 0) (fun i hi => by rw [tN_uNs_n (by decide), tN_uNs_s, ha i hi]))
    rw [uNs_comm (j := 6) (k := 7) (by decide), uNs_same, uNs_comm (j := 7) (k := 6) (by decide)] at E3
    exact E3
  | succ n ih =>
    intro c a b h hc ha hb E f
    refine r_iload_n (pc := 68) C dX6_end_68 rfl rfl ?_
    refine r_bipush (pc := 69) (v := (nI 16)) C dX6_end_69 (by decide) ?_
    refine n_icmp_ge (pc := 71) (tgt := 94) C (by omega) (by omega) dX6_end_71 (by decide) (fun c71 => absurd c71 (by omega)) (fun c71 => ?_)
    refine r_aload_n (pc := 74) C dX6_end_74 rfl rfl ?_
    refine r_getR (pc := 75) C fl_X6_46 E.L.o rfl E.L.r14 dX6_end_75 ?_
    refine r_iload_n (pc := 78) C dX6_end_78 rfl rfl ?_
    refine r_iconst (pc := 79) (v := (nI 0)) C dX6_end_79 (by decide) ?_
    refine n_zast (pc := 80) C E.L.s14 (by omega) (by first | exact Or.inl rfl | exact Or.inr rfl | exact bI_01) dX6_end_80 ?_
    have E := E.p_took c 0
    rw [uN_45 (by decide)] at E
    refine r_aload_n (pc := 81) C dX6_end_81 rfl rfl ?_
    refine r_getR (pc := 82) C fl_X6_49 E.L.o rfl E.L.r15 dX6_end_82 ?_
    refine r_iload_n (pc := 85) C dX6_end_85 rfl rfl ?_
    refine r_iconst (pc := 86) (v := (nI 0)) C dX6_end_86 (by decide) ?_
    refine n_zast (pc := 87) C E.L.s15 (by omega) (by first | exact Or.inl rfl | exact Or.inr rfl | exact bI_01) dX6_end_87 ?_
    have E := E.p_waits c 0
    rw [uN_45'] at E
    refine n_iinc (pc := 88) (lv' := [_, _, _]) C dX6_end_88 rfl (by decide) rfl rfl ?_
    refine r_goto (pc := 91) (tgt := 68) C dX6_end_91 (by decide) ?_
    exact ih (c + 1) _ _ _ (by omega) (up_lt ha) (up_lt hb) E ((f.pI (by omega) (by omega)).pI (by omega) (by omega))
end ME
theorem nI_sub1 {u j : Nat} (h : u = j + 1) : u - 1 = j := by omega
theorem c_X6_end {G : GP} {m : Nat} {t : TS} {h : AH} (E : RM m t h) (B : TB t) {j : Nat} (hu : tN t 0 5 = j + 1) (how : Nat) : MA G mX6_end 0 0 0 [.ref m, .int (nI how)] h (Ov (fun h' => RM m (spEnd t how) h' ∧ Fr m (m + 24) h h')) := by
  have b1 := B.marks
  have b2 := B.uw
  have hj : tN t 0 5 - 1 = j := by omega
  refine MA.intro (lv := [some (.ref m), some (.int (nI how)), none]) (by decide) (Nat.le_of_ble_eq_true rfl) rfl (fun F C => ?_)
  refine r_aload_n (pc := 0) C dX6_end_0 rfl rfl ?_
  refine r_getR (pc := 1) C fl_X6_61 E.L.o rfl E.L.r21 dX6_end_1 ?_
  refine r_aload_n (pc := 4) C dX6_end_4 rfl rfl ?_
  refine r_getIe (pc := 5) C fl_X6_58 E.L.o rfl (E.uw.trans (uwS hu)) dX6_end_5 ?_
  refine r_iload_n (pc := 8) C dX6_end_8 rfl rfl ?_
  refine n_iast (pc := 9) C E.L.s21 (by omega) dX6_end_9 ?_
  have E := E.p_stat j how
  refine r_aload_n (pc := 10) C dX6_end_10 rfl rfl ?_
  refine r_getR (pc := 11) C fl_X6_67 E.L.o rfl E.L.r23 dX6_end_11 ?_
  refine r_aload_n (pc := 14) C dX6_end_14 rfl rfl ?_
  refine r_getIe (pc := 15) C fl_X6_58 E.L.o rfl (E.uw.trans (uwS hu)) dX6_end_15 ?_
  refine r_aload_n (pc := 18) C dX6_end_18 rfl rfl ?_
  refine r_getIe (pc := 19) C fl_X6_102 E.L.o rfl E.turns dX6_end_19 ?_
  refine r_aload_n (pc := 22) C dX6_end_22 rfl rfl ?_
  refine r_getR (pc := 23) C fl_X6_64 E.L.o rfl E.L.r22 dX6_end_23 ?_
  refine r_aload_n (pc := 26) C dX6_end_26 rfl rfl ?_
  refine r_getIe (pc := 27) C fl_X6_58 E.L.o rfl (E.uw.trans (uwS hu)) dX6_end_27 ?_
  refine n_iald (pc := 30) C E.L.s22 (by omega) (E.k_begun _ (by omega)) dX6_end_30 ?_
  refine r_isub (pc := 31) C dX6_end_31 ?_
  refine n_iast (pc := 32) C E.L.s23 (by omega) dX6_end_32 ?_
  have E := E.p_last j (tI t 0 1 - tI t 2 j)
  refine r_aload_n (pc := 33) C dX6_end_33 rfl rfl ?_
  refine r_iconst (pc := 34) (v := (-1)) C dX6_end_34 (by decide) ?_
  refine r_putI (pc := 35) C fl_X6_58 E.L.o rfl rfl rfl rfl dX6_end_35 ?_
  have E := E.p_uw 0 m1_0
  refine r_iconst (pc := 38) (v := (nI 0)) C dX6_end_38 (by decide) ?_
  refine r_istore_n (pc := 39) (lv' := [_, _, _]) C dX6_end_39 rfl (by decide) rfl rfl ?_
  refine end_l1 C (fun h1 E1 f1 => ?_) 48 0 _ _ _ rfl (fun i hi => absurd hi (by omega)) (fun i hi => absurd hi (by omega)) (by rw [uNs_id, uNs_id]; exact E) (((Fr.rf.pI (by omega) (by omega)).pI (by omega) (by omega)).pI (by omega) (by omega))
  refine r_iconst (pc := 66) (v := (nI 0)) C dX6_end_66 (by decide) ?_
  refine r_istore_n (pc := 67) (lv' := [_, _, _]) C dX6_end_67 rfl (by decide) rfl rfl ?_
  refine end_l2 C (fun h2 E2 f2 => ?_) 16 0 _ _ _ rfl (fun i hi => absurd hi (by omega)) (fun i hi => absurd hi (by omega)) (by rw [uNs_id, uNs_id]; exact E1) f1
  exact r_vret (pc := 94) C rfl (Nat.le_of_ble_eq_true rfl) (Nat.le_of_ble_eq_true rfl) ⟨rfl, ⟨by unfold spEnd; rw [hj]; exact E2, f2⟩⟩ dX6_end_94
/-- the kept rows' places of different marks are apart -/
theorem kplace {t : TS} (B : TB t) {b : Nat} (hb : (tK t b).length < 200) : ∀ j, j < 8 → ∀ i, i < (tK t j).length → 200 * j + i ≠ 200 * b + (tK t b).length := fun j hj i hi e => by
  have := B.klen j
  have := B.klen b
  rcases Nat.lt_trichotomy j b with q | q | q
  · omega
  · subst q; omega
  · omega
theorem c_X6_keep {G : GP} {m : Nat} {t : TS} {h : AH} (E : RM m t h) (B : TB t) {j : Nat} (hu : tN t 0 5 = j + 1) (c r : Nat) : MA G mX6_keep 1 0 0 [.ref m, .int (nI c), .int (nI r)] h (Ov (fun h' => RM m (spKeep t c r) h' ∧ Fr m (m + 24) h h')) := by
  have b1 := B.marks
  have b2 := B.uw
  have b3 := B.lim
  have b4 := B.klen j
  have hj : tN t 0 5 - 1 = j := by omega
  refine MA.intro (lv := [some (.ref m), some (.int (nI c)), some (.int (nI r)), none]) (by decide) (Nat.le_of_ble_eq_true rfl) rfl (fun F C => ?_)
  refine r_aload_n (pc := 0) C dX6_keep_0 rfl rfl ?_
  refine r_getIe (pc := 1) C fl_X6_58 E.L.o rfl (E.uw.trans (uwS hu)) dX6_keep_1 ?_
  refine r_istore_n (pc := 4) (lv' := [_, _, _, _]) C dX6_keep_4 rfl (by decide) rfl rfl ?_
  refine r_aload_n (pc := 5) C dX6_keep_5 rfl rfl ?_
  refine r_getR (pc := 6) C fl_X6_79 E.L.o rfl E.L.r27 dX6_keep_6 ?_
  refine r_iload_n (pc := 9) C dX6_keep_9 rfl rfl ?_
  refine n_iald (pc := 10) C E.L.s27 (by omega) (E.k_klen _ (by omega)) dX6_keep_10 ?_
  refine r_iconst (pc := 11) (v := (nI 1)) C dX6_keep_11 (by decide) ?_
  refine n_iadd (pc := 12) C dX6_keep_12 ?_
  refine r_aload_n (pc := 13) C dX6_keep_13 rfl rfl ?_
  refine r_getIe (pc := 14) C fl_X6_17 E.L.o rfl E.lim dX6_keep_14 ?_
  refine n_icmp_le (pc := 17) (tgt := 26) C (by omega) (by omega) dX6_keep_17 (by decide) (fun c17 => ?_) (fun c17 => ?_)
  · have hl : (tK t j).length < 200 := by omega
    refine r_aload_n (pc := 26) C dX6_keep_26 rfl rfl ?_
    refine r_getR (pc := 27) C fl_X6_82 E.L.o rfl E.L.r28 dX6_keep_27 ?_
    refine r_sipush (pc := 30) (v := (nI 200)) C dX6_keep_30 (by decide) ?_
    refine r_iload_n (pc := 33) C dX6_keep_33 rfl rfl ?_
    refine n_imul (pc := 34) C dX6_keep_34 ?_
    refine r_aload_n (pc := 35) C dX6_keep_35 rfl rfl ?_
    refine r_getR (pc := 36) C fl_X6_79 E.L.o rfl E.L.r27 dX6_keep_36 ?_
    refine r_iload_n (pc := 39) C dX6_keep_39 rfl rfl ?_
    refine n_iald (pc := 40) C E.L.s27 (by omega) (E.k_klen _ (by omega)) dX6_keep_40 ?_
    refine n_iadd (pc := 41) C dX6_keep_41 ?_
    refine r_iload_n (pc := 42) C dX6_keep_42 rfl rfl ?_
    refine n_iast (pc := 43) C E.L.s28 (by omega) dX6_keep_43 ?_
    have E := E.g_kch (kplace B hl) (v := nI c)
    refine r_aload_n (pc := 44) C dX6_keep_44 rfl rfl ?_
    refine r_getR (pc := 45) C fl_X6_85 E.L.o rfl E.L.r29 dX6_keep_45 ?_
    refine r_sipush (pc := 48) (v := (nI 200)) C dX6_keep_48 (by decide) ?_
    refine r_iload_n (pc := 51) C dX6_keep_51 rfl rfl ?_
    refine n_imul (pc := 52) C dX6_keep_52 ?_
    refine r_aload_n (pc := 53) C dX6_keep_53 rfl rfl ?_
    refine r_getR (pc := 54) C fl_X6_79 E.L.o rfl E.L.r27 dX6_keep_54 ?_
    refine r_iload_n (pc := 57) C dX6_keep_57 rfl rfl ?_
    refine n_iald (pc := 58) C E.L.s27 (by omega) (E.k_klen _ (by omega)) dX6_keep_58 ?_
    refine n_iadd (pc := 59) C dX6_keep_59 ?_
    refine r_iload_n (pc := 60) C dX6_keep_60 rfl rfl ?_
    refine n_iast (pc := 61) C E.L.s29 (by omega) dX6_keep_61 ?_
    have E := E.g_krow (kplace B hl) (v := nI r)
    refine r_aload_n (pc := 62) C dX6_keep_62 rfl rfl ?_
    refine r_getR (pc := 63) C fl_X6_79 E.L.o rfl E.L.r27 dX6_keep_63 ?_
    refine r_iload_n (pc := 66) C dX6_keep_66 rfl rfl ?_
    refine r_dup2 (pc := 67) C dX6_keep_67 rfl rfl ?_
    refine n_iald (pc := 68) C E.L.s27 (by omega) (E.k_klen _ (by omega)) dX6_keep_68 ?_
    refine r_iconst (pc := 69) (v := (nI 1)) C dX6_keep_69 (by decide) ?_
    refine n_iadd (pc := 70) C dX6_keep_70 ?_
    refine n_iast (pc := 71) C E.L.s27 (by omega) dX6_keep_71 ?_
    have E := E.p_kpush (b := j) (c := c) (r := r) (by rw [hI_pI, if_neg (by omega), hI_pI, if_pos ⟨rfl, rfl⟩]) (by rw [hI_pI, if_pos ⟨rfl, rfl⟩])
    exact r_vret (pc := 72) C rfl (Nat.le_of_ble_eq_true rfl) (Nat.le_of_ble_eq_true rfl) ⟨rfl, ⟨by unfold spKeep; rw [hj, if_neg (by omega)]; exact E, ((Fr.rf.pI (by omega) (by omega)).pI (by omega) (by omega)).pI (by omega) (by omega)⟩⟩ dX6_keep_72
  · refine r_aload_n (pc := 20) C dX6_keep_20 rfl rfl ?_
    refine r_iconst (pc := 21) (v := (nI 2)) C dX6_keep_21 (by decide) ?_
    refine r_callv (cr_V (pc := 22) C (c_X6_end E B hu 2) dX6_keep_22 cm_X6_end ml_X6_114 im_X6_end se_X6_end E.L.o rfl ⟨⟨Nat.le_of_ble_eq_true rfl, Nat.le_of_ble_eq_true rfl⟩, Nat.le_of_ble_eq_true rfl, Nat.le_of_ble_eq_true rfl⟩ rfl rfl (Nat.le_of_ble_eq_true rfl)) (fun h22 hq22 => ?_)
    obtain ⟨E2, f2⟩ := hq22
    exact r_vret (pc := 25) C rfl (Nat.le_of_ble_eq_true rfl) (Nat.le_of_ble_eq_true rfl) ⟨rfl, ⟨by unfold spKeep; rw [hj, if_pos (by omega)]; exact E2, f2⟩⟩ dX6_keep_25
