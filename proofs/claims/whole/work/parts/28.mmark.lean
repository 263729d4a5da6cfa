/-! ===== the reference: came, mark, giveUp ===== -/
theorem TB.settle {t : TS} (B : TB t) : TB (spSettle t) := by
  unfold spSettle
  by_cases hp : tN t 0 5 ≠ 0 ∧ allW t
  · rw [cif_t hp]; exact B.end (by decide)
  · rw [cif_f hp]; exact B
theorem Same.settle {t : TS} : Same t (spSettle t) := by
  unfold spSettle
  by_cases hp : tN t 0 5 ≠ 0 ∧ allW t
  · rw [cif_t hp]; exact Same.end
  · rw [cif_f hp]; exact Same.rf
theorem TB.came1 {t : TS} (B : TB t) {s q c : Nat} (hs : s < 4) (hq : q < 4) : TB (spCame1 t s q c) := by
  unfold spCame1
  by_cases h1 : tN t 6 (4 * s + q) = 0
  · rw [cif_t h1]
    by_cases h2 : tN t 12 (48 * (tN t 0 5 - 1) + c) ≠ 0 ∨ tI t 0 0 = 0
    · rw [cif_t h2]; exact B.part hs hq
    · rw [cif_f h2]
      by_cases h3 : allC t s q
      · rw [cif_t h3]; exact B.part hs hq
      · rw [cif_f h3]
        by_cases h4 : tN t 7 (4 * s + q) = 0
        · rw [cif_t h4]; exact (B.p7 (by decide)).pI
        · rw [cif_f h4]; exact B
  · rw [cif_f h1]; exact B
theorem c_X6_came {G : GP} {m : Nat} {t : TS} {h : AH} (E : RM m t h) (B : TB t) {j : Nat} (hu : tN t 0 5 = j + 1) {s q c : Nat} (hs : 1 ≤ s) (hS : s < tN t 0 0) (hq : q < tN t 1 s) (hc : c < 48) : MA G mX6_came 3 0 0 [.ref m, .int (nI s), .int (nI q), .int (nI c)] h (Ov (fun h' => RM m (spCame t s q c) h' ∧ Fr m (m + 24) h h')) := by
  have b0 := B.S
  have b1 := B.P (s := s) (by omega)
  have b2 := B.uw
  have b3 := B.marks
  have hj : tN t 0 5 - 1 = j := by omega
  have B1 : TB (uN (uN t 5 c 1) 4 c 0) := (B.p5 (by decide)).p4 (Nat.zero_le _)
  have b4 := (B1.bool (4 * s + q)).2.1
  have b5 := (B1.bool (4 * s + q)).2.2.1
  have b6 := (B1.bool (48 * j + c)).2.2.2
  refine MA.intro (lv := [some (.ref m), some (.int (nI s)), some (.int (nI q)), some (.int (nI c)), none]) (by decide) (Nat.le_of_ble_eq_true rfl) rfl (fun F C => ?_)
  have tail : ∀ h', RM m (spCame1 (uN (uN t 5 c 1) 4 c 0) s q c) h' → Fr m (m + 24) h h' → WA G F mX6_came h' 0 0 (MQA G F 0 0 (Ov (fun h' => RM m (spCame t s q c) h' ∧ Fr m (m + 24) h h'))) 113 [some (.ref m), some (.int (nI s)), some (.int (nI q)), some (.int (nI c)), some (.int (nI (4 * s + q)))] [] := by
    intro h' E' f'
    have E := E'
    refine r_aload_n (pc := 113) C dX6_came_113 rfl rfl ?_
    refine r_callv (cr_V (pc := 114) C (c_X6_settle E' (B1.came1 (by omega) (by omega))) dX6_came_114 cm_X6_settle ml_X6_134 im_X6_settle se_X6_settle E.L.o rfl ⟨⟨Nat.le_of_ble_eq_true rfl, Nat.le_of_ble_eq_true rfl⟩, Nat.le_of_ble_eq_true rfl, Nat.le_of_ble_eq_true rfl⟩ rfl rfl (Nat.le_of_ble_eq_true rfl)) (fun h114 hq114 => ?_)
    obtain ⟨E2, f2⟩ := hq114
    exact r_vret (pc := 117) C rfl (Nat.le_of_ble_eq_true rfl) (Nat.le_of_ble_eq_true rfl) ⟨rfl, ⟨E2, f'.tr f2⟩⟩ dX6_came_117
  have ff : Fr m (m + 24) h (pI (pI h (m + 9) c (nI 1)) (m + 8) c (-1)) := (Fr.rf.pI (by omega) (by omega)).pI (by omega) (by omega)
  have u1 : spCame1 (uN (uN t 5 c 1) 4 c 0) s q c = cif (tN (uN (uN t 5 c 1) 4 c 0) 6 (4 * s + q) = 0) (cif (tN (uN (uN t 5 c 1) 4 c 0) 12 (48 * j + c) ≠ 0 ∨ tI t 0 0 = 0) (spPart (uN (uN t 5 c 1) 4 c 0) s q 1) (cif (allC (uN (uN t 5 c 1) 4 c 0) s q) (spPart (uN (uN t 5 c 1) 4 c 0) s q 0) (cif (tN (uN (uN t 5 c 1) 4 c 0) 7 (4 * s + q) = 0) (uI (uN (uN (uN t 5 c 1) 4 c 0) 7 (4 * s + q) 1) 1 (4 * s + q) (tI t 0 1)) (uN (uN t 5 c 1) 4 c 0)))) (uN (uN t 5 c 1) 4 c 0) := by
    rw [← hj]; rfl
  rw [u1] at tail
  refine r_iconst (pc := 0) (v := (nI 4)) C dX6_came_0 (by decide) ?_
  refine r_iload_n (pc := 1) C dX6_came_1 rfl rfl ?_
  refine n_imul (pc := 2) C dX6_came_2 ?_
  refine r_iload_n (pc := 3) C dX6_came_3 rfl rfl ?_
  refine n_iadd (pc := 4) C dX6_came_4 ?_
  refine r_istore (pc := 5) (lv' := [_, _, _, _, _]) C dX6_came_5 (by decide) rfl rfl ?_
  refine r_aload_n (pc := 7) C dX6_came_7 rfl rfl ?_
  refine r_getR (pc := 8) C fl_X6_42 E.L.o rfl E.L.r13 dX6_came_8 ?_
  refine r_iload_n (pc := 11) C dX6_came_11 rfl rfl ?_
  refine r_iconst (pc := 12) (v := (nI 1)) C dX6_came_12 (by decide) ?_
  refine n_zast (pc := 13) C E.L.s13 (by omega) (by first | exact Or.inl rfl | exact Or.inr rfl | exact bI_01) dX6_came_13 ?_
  have E := E.p_came c 1
  refine r_aload_n (pc := 14) C dX6_came_14 rfl rfl ?_
  refine r_getR (pc := 15) C fl_X6_39 E.L.o rfl E.L.r12 dX6_came_15 ?_
  refine r_iload_n (pc := 18) C dX6_came_18 rfl rfl ?_
  refine r_iconst (pc := 19) (v := (-1)) C dX6_came_19 (by decide) ?_
  refine n_iast (pc := 20) C E.L.s12 (by omega) dX6_came_20 ?_
  have E := E.p_bar c 0 m1_0
  refine r_aload_n (pc := 21) C dX6_came_21 rfl rfl ?_
  refine r_getR (pc := 22) C fl_X6_46 E.L.o rfl E.L.r14 dX6_came_22 ?_
  refine r_iload (pc := 25) C dX6_came_25 rfl ?_
  refine n_zald (pc := 27) C E.L.s14 (by omega) (E.k_took _ (by omega)) dX6_came_27 ?_
  refine n_if_ne (pc := 28) (tgt := 113) C (by omega) dX6_came_28 (by decide) (fun c28 => ?_) (fun c28 => ?_)
  · exact tail _ (by rw [cif_f c28]; exact E) ff
  · refine r_aload_n (pc := 31) C dX6_came_31 rfl rfl ?_
    refine r_getR (pc := 32) C fl_X6_88 E.L.o rfl E.L.r30 dX6_came_32 ?_
    refine r_bipush (pc := 35) (v := (nI 48)) C dX6_came_35 (by decide) ?_
    refine r_aload_n (pc := 37) C dX6_came_37 rfl rfl ?_
    refine r_getIe (pc := 38) C fl_X6_58 E.L.o rfl (E.uw.trans (uwS hu)) dX6_came_38 ?_
    refine n_imul (pc := 41) C dX6_came_41 ?_
    refine r_iload_n (pc := 42) C dX6_came_42 rfl rfl ?_
    refine n_iadd (pc := 43) C dX6_came_43 ?_
    refine n_zald (pc := 44) C E.L.s30 (by omega) (E.k_loose _ (by omega)) dX6_came_44 ?_
    refine n_if_ne (pc := 45) (tgt := 55) C (by omega) dX6_came_45 (by decide) (fun c45 => ?_) (fun c45 => ?_)
    · have c55 : tN (uN (uN t 5 c 1) 4 c 0) 12 (48 * j + c) ≠ 0 ∨ tI t 0 0 = 0 := by first | exact Or.inl c45 | exact Or.inr c52
      rw [cif_t c28, cif_t c55] at tail
      refine r_aload_n (pc := 55) C dX6_came_55 rfl rfl ?_
      refine r_iload_n (pc := 56) C dX6_came_56 rfl rfl ?_
      refine r_iload_n (pc := 57) C dX6_came_57 rfl rfl ?_
      refine r_iconst (pc := 58) (v := (nI 1)) C dX6_came_58 (by decide) ?_
      refine r_callv (cr_V (pc := 59) C (c_X6_takePart E B1 hu hS hq (by decide)) dX6_came_59 cm_X6_takePart ml_X6_130 im_X6_takePart se_X6_takePart E.L.o rfl ⟨⟨Nat.le_of_ble_eq_true rfl, Nat.le_of_ble_eq_true rfl⟩, Nat.le_of_ble_eq_true rfl, Nat.le_of_ble_eq_true rfl⟩ rfl rfl (Nat.le_of_ble_eq_true rfl)) (fun h59 hq59 => ?_)
      obtain ⟨E2, f2⟩ := hq59
      refine r_goto (pc := 62) (tgt := 113) C dX6_came_62 (by decide) ?_
      first | exact tail _ E2 (ff.tr f2) | exact tail _ (by rw [cif_t c91]; exact E) ((ff.pI (by omega) (by omega)).pI (by omega) (by omega))
    · refine r_aload_n (pc := 48) C dX6_came_48 rfl rfl ?_
      refine r_getIe (pc := 49) C fl_X6_108 E.L.o rfl (show _ = tI t 0 0 from E.bnd) dX6_came_49 ?_
      refine r_if_ne (pc := 52) (tgt := 65) C dX6_came_52 (by decide) (fun c52 => ?_) (fun c52 => ?_)
      · have c65 : ¬ (tN (uN (uN t 5 c 1) 4 c 0) 12 (48 * j + c) ≠ 0 ∨ tI t 0 0 = 0) := fun z => z.elim (fun y => y c45) c52
        rw [cif_t c28, cif_f c65] at tail
        refine r_aload_n (pc := 65) C dX6_came_65 rfl rfl ?_
        refine r_iload_n (pc := 66) C dX6_came_66 rfl rfl ?_
        refine r_iload_n (pc := 67) C dX6_came_67 rfl rfl ?_
        refine r_calli (cr_V (pc := 68) C (c_X6_allCame E B1 hs hS (by omega)) dX6_came_68 cm_X6_allCame ml_X6_126 im_X6_allCame se_X6_allCame E.L.o rfl ⟨⟨Nat.le_of_ble_eq_true rfl, Nat.le_of_ble_eq_true rfl⟩, Nat.le_of_ble_eq_true rfl, Nat.le_of_ble_eq_true rfl⟩ rfl rfl (Nat.le_of_ble_eq_true rfl)) (fun v68 h68 hq68 => ?_)
        obtain ⟨rfl, rfl⟩ := hq68
        refine b_if_eq (pc := 71) (tgt := 84) C dX6_came_71 (by decide) (fun c71 => ?_) (fun c71 => ?_)
        · rw [cif_f c71] at tail
          refine r_aload_n (pc := 84) C dX6_came_84 rfl rfl ?_
          refine r_getR (pc := 85) C fl_X6_49 E.L.o rfl E.L.r15 dX6_came_85 ?_
          refine r_iload (pc := 88) C dX6_came_88 rfl ?_
          refine n_zald (pc := 90) C E.L.s15 (by omega) (E.k_waits _ (by omega)) dX6_came_90 ?_
          refine n_if_ne (pc := 91) (tgt := 113) C (by omega) dX6_came_91 (by decide) (fun c91 => ?_) (fun c91 => ?_)
          · exact tail _ (by rw [cif_f c91]; exact E) ff
          · refine r_aload_n (pc := 94) C dX6_came_94 rfl rfl ?_
            refine r_getR (pc := 95) C fl_X6_49 E.L.o rfl E.L.r15 dX6_came_95 ?_
            refine r_iload (pc := 98) C dX6_came_98 rfl ?_
            refine r_iconst (pc := 100) (v := (nI 1)) C dX6_came_100 (by decide) ?_
            refine n_zast (pc := 101) C E.L.s15 (by omega) (by first | exact Or.inl rfl | exact Or.inr rfl | exact bI_01) dX6_came_101 ?_
            have E := E.p_waits (4 * s + q) 1
            refine r_aload_n (pc := 102) C dX6_came_102 rfl rfl ?_
            refine r_getR (pc := 103) C fl_X6_52 E.L.o rfl E.L.r16 dX6_came_103 ?_
            refine r_iload (pc := 106) C dX6_came_106 rfl ?_
            refine r_aload_n (pc := 108) C dX6_came_108 rfl rfl ?_
            refine r_getIe (pc := 109) C fl_X6_102 E.L.o rfl (show _ = tI t 0 1 from E.turns) dX6_came_109 ?_
            refine n_iast (pc := 112) C E.L.s16 (by omega) dX6_came_112 ?_
            have E := E.p_since (4 * s + q) (tI t 0 1)
            first | exact tail _ E2 (ff.tr f2) | exact tail _ (by rw [cif_t c91]; exact E) ((ff.pI (by omega) (by omega)).pI (by omega) (by omega))
        · rw [cif_t c71] at tail
          refine r_aload_n (pc := 74) C dX6_came_74 rfl rfl ?_
          refine r_iload_n (pc := 75) C dX6_came_75 rfl rfl ?_
          refine r_iload_n (pc := 76) C dX6_came_76 rfl rfl ?_
          refine r_iconst (pc := 77) (v := (nI 0)) C dX6_came_77 (by decide) ?_
          refine r_callv (cr_V (pc := 78) C (c_X6_takePart E B1 hu hS hq (by decide)) dX6_came_78 cm_X6_takePart ml_X6_130 im_X6_takePart se_X6_takePart E.L.o rfl ⟨⟨Nat.le_of_ble_eq_true rfl, Nat.le_of_ble_eq_true rfl⟩, Nat.le_of_ble_eq_true rfl, Nat.le_of_ble_eq_true rfl⟩ rfl rfl (Nat.le_of_ble_eq_true rfl)) (fun h78 hq78 => ?_)
          obtain ⟨E2, f2⟩ := hq78
          refine r_goto (pc := 81) (tgt := 113) C dX6_came_81 (by decide) ?_
          first | exact tail _ E2 (ff.tr f2) | exact tail _ (by rw [cif_t c91]; exact E) ((ff.pI (by omega) (by omega)).pI (by omega) (by omega))
      · have c55 : tN (uN (uN t 5 c 1) 4 c 0) 12 (48 * j + c) ≠ 0 ∨ tI t 0 0 = 0 := by first | exact Or.inl c45 | exact Or.inr c52
        rw [cif_t c28, cif_t c55] at tail
        refine r_aload_n (pc := 55) C dX6_came_55 rfl rfl ?_
        refine r_iload_n (pc := 56) C dX6_came_56 rfl rfl ?_
        refine r_iload_n (pc := 57) C dX6_came_57 rfl rfl ?_
        refine r_iconst (pc := 58) (v := (nI 1)) C dX6_came_58 (by decide) ?_
        refine r_callv (cr_V (pc := 59) C (c_X6_takePart E B1 hu hS hq (by decide)) dX6_came_59 cm_X6_takePart ml_X6_130 im_X6_takePart se_X6_takePart E.L.o rfl ⟨⟨Nat.le_of_ble_eq_true rfl, Nat.le_of_ble_eq_true rfl⟩, Nat.le_of_ble_eq_true rfl, Nat.le_of_ble_eq_true rfl⟩ rfl rfl (Nat.le_of_ble_eq_true rfl)) (fun h59 hq59 => ?_)
        obtain ⟨E2, f2⟩ := hq59
        refine r_goto (pc := 62) (tgt := 113) C dX6_came_62 (by decide) ?_
        first | exact tail _ E2 (ff.tr f2) | exact tail _ (by rw [cif_t c91]; exact E) ((ff.pI (by omega) (by omega)).pI (by omega) (by omega))
def thenU (t : TS) (M n : Nat) : Nat → Nat := fun i => if 4 * M ≤ i ∧ i < 4 * M + n then tN t 1 (i - 4 * M) else tN t 10 i
def spMk0 (t : TS) : TS := uNs (uI (uN (uN (uN t 0 4 (tN t 0 4 + 1)) 0 5 (tN t 0 4 + 1)) 9 (tN t 0 4) 0) 2 (tN t 0 4) (tI t 0 1)) 10 (thenU t (tN t 0 4) (tN t 0 0))
def spMk (lo : Nat) : Nat → Nat → TS → TS
  | 0, _, t => t
  | n + 1, q, t => if tN t 0 5 = 0 then t else spMk lo n (q + 1) (spPart t 0 q lo)
noncomputable def spMark (t : TS) : Int32 × TS := cif (tN t 0 5 = 0) (cif (tN t 0 4 = 8) (-104, t) (nI (tN t 0 4), spMk (cif (tI t 0 0 = 0) 1 0) (tN t 1 0) 0 (spMk0 t))) (-103, t)
noncomputable def spGive (t : TS) : Int32 × TS := cif (tN t 0 5 = 0) (-103, t) (nI (tN t 0 5 - 1), spEnd t 3)
theorem c_X6_giveUp {G : GP} {m : Nat} {t : TS} {h : AH} (E : RM m t h) (B : TB t) : MA G mX6_giveUp 1 0 0 [.ref m] h (Oi (MP m h (spGive t))) := by
  have b2 := B.uw
  have b3 := B.marks
  refine MA.intro (lv := [some (.ref m), none]) (by decide) (Nat.le_of_ble_eq_true rfl) rfl (fun F C => ?_)
  refine r_aload_n (pc := 0) C dX6_giveUp_0 rfl rfl ?_
  refine r_getIe (pc := 1) C fl_X6_58 E.L.o rfl E.uw dX6_giveUp_1 ?_
  refine r_iconst (pc := 4) (v := (-1)) C dX6_giveUp_4 (by decide) ?_
  refine r_icmp_ne (pc := 5) (tgt := 11) C dX6_giveUp_5 (by decide) (fun c5 => ?_) (fun c5 => ?_)
  · have hu1 : ¬ tN t 0 5 = 0 := fun z => c5 ((uwm1 (by omega)).mpr z)
    refine r_aload_n (pc := 11) C dX6_giveUp_11 rfl rfl ?_
    refine r_getIe (pc := 12) C fl_X6_58 E.L.o rfl (E.uw.trans (uwS (show tN t 0 5 = (tN t 0 5 - 1) + 1 by omega))) dX6_giveUp_12 ?_
    refine r_istore_n (pc := 15) (lv' := [_, _]) C dX6_giveUp_15 rfl (by decide) rfl rfl ?_
    refine r_aload_n (pc := 16) C dX6_giveUp_16 rfl rfl ?_
    refine r_iconst (pc := 17) (v := (nI 3)) C dX6_giveUp_17 (by decide) ?_
    refine r_callv (cr_V (pc := 18) C (c_X6_end E B (j := tN t 0 5 - 1) (by omega) 3) dX6_giveUp_18 cm_X6_end ml_X6_114 im_X6_end se_X6_end E.L.o rfl ⟨⟨Nat.le_of_ble_eq_true rfl, Nat.le_of_ble_eq_true rfl⟩, Nat.le_of_ble_eq_true rfl, Nat.le_of_ble_eq_true rfl⟩ rfl rfl (Nat.le_of_ble_eq_true rfl)) (fun h18 hq18 => ?_)
    obtain ⟨E2, f2⟩ := hq18
    refine r_iload_n (pc := 21) C dX6_giveUp_21 rfl rfl ?_
    exact r_iret (pc := 22) C rfl (Nat.le_of_ble_eq_true rfl) (Nat.le_of_ble_eq_true rfl) ⟨_, rfl, (mp (cif_f hu1) E2 f2)⟩ dX6_giveUp_22
  · have hu0 := (uwm1 (by omega)).mp c5
    refine r_bipush (pc := 8) (v := (-103)) C dX6_giveUp_8 (by decide) ?_
    exact r_iret (pc := 10) C rfl (Nat.le_of_ble_eq_true rfl) (Nat.le_of_ble_eq_true rfl) ⟨_, rfl, (mp (cif_t hu0) E Fr.rf)⟩ dX6_giveUp_10
theorem thenU_up {t : TS} {M n : Nat} : va_up (thenU t M n) (4 * M + n) (tN t 1 n) = thenU t M (n + 1) := by
  funext i
  unfold va_up thenU
  by_cases hi : i = 4 * M + n
  · subst hi
    rw [if_pos rfl, if_pos (by omega)]
    congr 1; omega
  · rw [if_neg hi]
    by_cases h1 : 4 * M ≤ i ∧ i < 4 * M + n
    · rw [if_pos h1, if_pos (by omega)]
    · rw [if_neg h1, if_neg (by omega)]
theorem thenU_0 {t : TS} {M : Nat} : thenU t M 0 = tN t 10 := by
  funext i
  unfold thenU
  rw [if_neg (by omega)]
theorem TB.c10 {t : TS} (B : TB t) {f : Nat → Nat} (hf : ∀ i, f i ≤ 4) : TB (uNs t 10 f) := by
  obtain ⟨h1, h2, h3, h4, h5, h6, h7, h8, h9, h10, h11, h12, h13, h14, h15, h16, h17, h18, h19⟩ := B
  exact ⟨h1, h2, h3, h4, h5, h6, h7, h8, h9, h10, h11, h12, h13, hf, h15, h16, h17, h18, h19⟩
theorem TB.pmk {t : TS} (B : TB t) (hv : tN t 0 4 < 8) : TB (uN (uN t 0 4 (tN t 0 4 + 1)) 0 5 (tN t 0 4 + 1)) := by
  obtain ⟨h1, h2, h3, h4, h5, h6, h7, h8, h9, h10, h11, h12, h13, h14, h15, h16, h17, h18, h19⟩ := B
  refine ⟨h1, h2, h3, h4, h5, ?_, ?_, h8, h9, h10, h11, h12, h13, h14, h15, h16, h17, h18, h19⟩
  · show tN t 0 4 + 1 ≤ 8; omega
  · exact Nat.le_refl (tN t 0 4 + 1)
theorem TB.mk0 {t : TS} (B : TB t) (hv : tN t 0 4 < 8) : TB (spMk0 t) := by
  refine TB.c10 (((B.pmk hv).p9 (by decide)).pI) (fun i => ?_)
  unfold thenU
  split
  · have b0 := B.S
    exact (B.P (by omega)).2
  · exact B.thn i
theorem TB.mk {lo : Nat} : ∀ (n q : Nat) (t : TS), q + n ≤ 4 → TB t → TB (spMk lo n q t)
  | 0, q, t, _, B => B
  | n + 1, q, t, hq, B => by
    unfold spMk
    split
    · exact B
    · exact TB.mk n (q + 1) _ (by omega) (B.part (by decide) (by omega))
section MM28
variable {G : GP} {F : FX} {m : Nat} {Q : State → Prop}
theorem mark_l1 (C : CX G F mX6_mark (Rm 3 0 0)) {h0 : AH} {t t0 : TS} {M : Nat} (B : TB t) (hM : M < 8) (hP : tN t 1 = tN t0 1) (h10 : tN t 10 = tN t0 10) (k : ∀ h x2, RM m (uNs t 10 (thenU t0 M (tN t 0 0))) h → Fr m (m + 24) h0 h → WA G F mX6_mark h 0 0 Q 92 [some (.ref m), some (.int (nI M)), some (.int x2)] []) :
    ∀ (n s : Nat) (h : AH), s + n = tN t 0 0 → RM m (uNs t 10 (thenU t0 M s)) h → Fr m (m + 24) h0 h → WA G F mX6_mark h 0 0 Q 62 [some (.ref m), some (.int (nI M)), some (.int (nI s))] [] := by
  have b0 := B.S
  intro n
  induction n with
  | zero =>
    intro s h hs E f
    refine r_iload_n (pc := 62) C dX6_mark_62 rfl rfl ?_
    refine r_aload_n (pc := 63) C dX6_mark_63 rfl rfl ?_
    refine r_getIe (pc := 64) C fl_X6_91 E.L.o rfl (show _ = nI (tN t 0 0) from E.S) dX6_mark_64 ?_
    refine n_icmp_ge (pc := 67) (tgt := 92) C (by omega) (by omega) dX6_mark_67 (by decide) (fun c67 => ?_) (fun c67 => absurd c67 (by omega))
    exact k h _ (by rw [show tN t 0 0 = s by omega]; exact E) f
  | succ n ih =>
    intro s h hs E f
    refine r_iload_n (pc := 62) C dX6_mark_62 rfl rfl ?_
    refine r_aload_n (pc := 63) C dX6_mark_63 rfl rfl ?_
    refine r_getIe (pc := 64) C fl_X6_91 E.L.o rfl (show _ = nI (tN t 0 0) from E.S) dX6_mark_64 ?_
    refine n_icmp_ge (pc := 67) (tgt := 92) C (by omega) (by omega) dX6_mark_67 (by decide) (fun c67 => absurd c67 (by omega)) (fun c67 => ?_)
    refine r_aload_n (pc := 70) C dX6_mark_70 rfl rfl ?_
    refine r_getR (pc := 71) C fl_X6_70 E.L.o rfl E.L.r24 dX6_mark_71 ?_
    refine r_iconst (pc := 74) (v := (nI 4)) C dX6_mark_74 (by decide) ?_
    refine r_iload_n (pc := 75) C dX6_mark_75 rfl rfl ?_
    refine n_imul (pc := 76) C dX6_mark_76 ?_
    refine r_iload_n (pc := 77) C dX6_mark_77 rfl rfl ?_
    refine n_iadd (pc := 78) C dX6_mark_78 ?_
    refine r_aload_n (pc := 79) C dX6_mark_79 rfl rfl ?_
    refine r_getR (pc := 80) C fl_X6_7 E.L.o rfl E.L.r1 dX6_mark_80 ?_
    refine r_iload_n (pc := 83) C dX6_mark_83 rfl rfl ?_
    refine n_iald (pc := 84) C E.L.s1 (by omega) (show _ = nI (tN t0 1 s) from (E.k_P _ (by omega)).trans (by rw [tN_uNs_n (by decide), hP])) dX6_mark_84 ?_
    refine n_iast (pc := 85) C E.L.s24 (by omega) dX6_mark_85 ?_
    have E := E.p_then (4 * M + s) (tN t0 1 s)
    rw [uN_uNs, thenU_up] at E
    refine n_iinc (pc := 86) (lv' := [_, _, _]) C dX6_mark_86 rfl (by decide) rfl rfl ?_
    refine r_goto (pc := 89) (tgt := 62) C dX6_mark_89 (by decide) ?_
    exact ih (s + 1) _ (by omega) E (f.pI (by omega) (by omega))
theorem mark_l2 (C : CX G F mX6_mark (Rm 3 0 0)) {h0 : AH} {M lo : Nat} {bb : Int32} (hlo : lo = cif (bb = 0) 1 0) {tf : TS} (k : ∀ h x2, RM m tf h → Fr m (m + 24) h0 h → WA G F mX6_mark h 0 0 Q 136 [some (.ref m), some (.int (nI M)), some (.int x2)] []) :
    ∀ (n q : Nat) (t : TS) (h : AH), q + n = tN t 1 0 → tI t 0 0 = bb → spMk lo n q t = tf → TB t → RM m t h → Fr m (m + 24) h0 h → WA G F mX6_mark h 0 0 Q 94 [some (.ref m), some (.int (nI M)), some (.int (nI q))] [] := by
  intro n
  induction n with
  | zero =>
    intro q t h hq hb ht B E f
    have b1 := B.P (s := 0) (by decide)
    rw [show spMk lo 0 q t = t from rfl] at ht
    subst ht
    refine r_iload_n (pc := 94) C dX6_mark_94 rfl rfl ?_
    refine r_aload_n (pc := 95) C dX6_mark_95 rfl rfl ?_
    refine r_getR (pc := 96) C fl_X6_7 E.L.o rfl E.L.r1 dX6_mark_96 ?_
    refine r_iconst (pc := 99) (v := (nI 0)) C dX6_mark_99 (by decide) ?_
    refine n_iald (pc := 100) C E.L.s1 (by omega) (E.k_P _ (by omega)) dX6_mark_100 ?_
    refine n_icmp_ge (pc := 101) (tgt := 136) C (by omega) (by omega) dX6_mark_101 (by decide) (fun c101 => ?_) (fun c101 => absurd c101 (by omega))
    exact k h _ E f
  | succ n ih =>
    intro q t h hq hb ht B E f
    have b0 := B.S
    have b1 := B.P (s := 0) (by decide)
    have b2 := B.uw
    have b3 := B.marks
    unfold spMk at ht
    have nxt : ∀ l, l ≤ 1 → l = lo → tN t 0 5 ≠ 0 → WA G F mX6_mark h 0 0 Q 127 [some (.ref m), some (.int (nI M)), some (.int (nI q))] [.int (nI l), .int (nI q), .int (nI 0), .ref m] := by
      intro l hl hll hu0
      subst hll
      rw [if_neg hu0] at ht
      refine r_callv (cr_V (pc := 127) C (c_X6_takePart E B (j := tN t 0 5 - 1) (by omega) (s := 0) (q := q) (by omega) (by omega) hl) dX6_mark_127 cm_X6_takePart ml_X6_130 im_X6_takePart se_X6_takePart E.L.o rfl ⟨⟨Nat.le_of_ble_eq_true rfl, Nat.le_of_ble_eq_true rfl⟩, Nat.le_of_ble_eq_true rfl, Nat.le_of_ble_eq_true rfl⟩ rfl rfl (Nat.le_of_ble_eq_true rfl)) (fun h127 hq127 => ?_)
      obtain ⟨E2, f2⟩ := hq127
      refine n_iinc (pc := 130) (lv' := [_, _, _]) C dX6_mark_130 rfl (by decide) rfl rfl ?_
      refine r_goto (pc := 133) (tgt := 94) C dX6_mark_133 (by decide) ?_
      have sm : Same t (spPart t 0 q l) := Same.part
      exact ih (q + 1) _ _ (by rw [sm.1]; omega) (by rw [sm.2.2.2.2.2.2.2.2.2.2.2.1]; exact hb) ht (B.part (by decide) (by omega)) E2 (f.tr f2)
    refine r_iload_n (pc := 94) C dX6_mark_94 rfl rfl ?_
    refine r_aload_n (pc := 95) C dX6_mark_95 rfl rfl ?_
    refine r_getR (pc := 96) C fl_X6_7 E.L.o rfl E.L.r1 dX6_mark_96 ?_
    refine r_iconst (pc := 99) (v := (nI 0)) C dX6_mark_99 (by decide) ?_
    refine n_iald (pc := 100) C E.L.s1 (by omega) (E.k_P _ (by omega)) dX6_mark_100 ?_
    refine n_icmp_ge (pc := 101) (tgt := 136) C (by omega) (by omega) dX6_mark_101 (by decide) (fun c101 => absurd c101 (by omega)) (fun c101 => ?_)
    refine r_aload_n (pc := 104) C dX6_mark_104 rfl rfl ?_
    refine r_getIe (pc := 105) C fl_X6_58 E.L.o rfl E.uw dX6_mark_105 ?_
    refine r_iconst (pc := 108) (v := (-1)) C dX6_mark_108 (by decide) ?_
    refine r_icmp_eq (pc := 109) (tgt := 136) C dX6_mark_109 (by decide) (fun c109 => ?_) (fun c109 => ?_)
    · rw [if_pos ((uwm1 (by omega)).mp c109)] at ht
      subst ht
      exact k h _ E f
    · have hu0 : tN t 0 5 ≠ 0 := fun z => c109 ((uwm1 (by omega)).mpr z)
      refine r_aload_n (pc := 112) C dX6_mark_112 rfl rfl ?_
      refine r_iconst (pc := 113) (v := (nI 0)) C dX6_mark_113 (by decide) ?_
      refine r_iload_n (pc := 114) C dX6_mark_114 rfl rfl ?_
      refine r_aload_n (pc := 115) C dX6_mark_115 rfl rfl ?_
      refine r_getIe (pc := 116) C fl_X6_108 E.L.o rfl (E.bnd.trans hb) dX6_mark_116 ?_
      refine r_if_ne (pc := 119) (tgt := 126) C dX6_mark_119 (by decide) (fun c119 => ?_) (fun c119 => ?_)
      · refine r_iconst (pc := 126) (v := (nI 0)) C dX6_mark_126 (by decide) ?_
        first | exact nxt 1 (by decide) (by rw [hlo, cif_t c119]) hu0 | exact nxt 0 (by decide) (by rw [hlo, cif_f c119]) hu0
      · refine r_iconst (pc := 122) (v := (nI 1)) C dX6_mark_122 (by decide) ?_
        refine r_goto (pc := 123) (tgt := 127) C dX6_mark_123 (by decide) ?_
        first | exact nxt 1 (by decide) (by rw [hlo, cif_t c119]) hu0 | exact nxt 0 (by decide) (by rw [hlo, cif_f c119]) hu0
end MM28
theorem c_X6_mark {G : GP} {m : Nat} {t : TS} {h : AH} (E : RM m t h) (B : TB t) : MA G mX6_mark 3 0 0 [.ref m] h (Oi (MP m h (spMark t))) := by
  have b0 := B.S
  have b1 := B.P (s := 0) (by decide)
  have b2 := B.uw
  have b3 := B.marks
  refine MA.intro (lv := [some (.ref m), none, none]) (by decide) (Nat.le_of_ble_eq_true rfl) rfl (fun F C => ?_)
  have big : tN t 0 4 ≠ 8 → tN t 0 5 = 0 → ∀ h1, RM m (uI (uN (uN (uN t 0 4 (tN t 0 4 + 1)) 0 5 (tN t 0 4 + 1)) 9 (tN t 0 4) 0) 2 (tN t 0 4) (tI t 0 1)) h1 → Fr m (m + 24) h h1 → WA G F mX6_mark h1 0 0 (MQA G F 0 0 (Oi (MP m h (spMark t)))) 62 [some (.ref m), some (.int (nI (tN t 0 4))), some (.int (nI 0))] [] := by
    intro c17 hu0 h1 E f
    have Bp := B.pmk (by omega)
    refine mark_l1 (t0 := t) C ((Bp.p9 (i := tN t 0 4) (v := 0) (by decide)).pI (j := 2) (i := tN t 0 4) (v := tI t 0 1)) (by omega) rfl rfl (fun h1 x2 E1 f1 => ?_) (tN t 0 0) 0 _ (Nat.zero_add _) (by rw [thenU_0]; exact (uNs_id (t := uI (uN (uN (uN t 0 4 (tN t 0 4 + 1)) 0 5 (tN t 0 4 + 1)) 9 (tN t 0 4) 0) 2 (tN t 0 4) (tI t 0 1)) (j := 10)).symm ▸ E) f
    refine r_iconst (pc := 92) (v := (nI 0)) C dX6_mark_92 (by decide) ?_
    refine r_istore_n (pc := 93) (lv' := [_, _, _]) C dX6_mark_93 rfl (by decide) rfl rfl ?_
    refine mark_l2 (bb := tI t 0 0) C rfl (fun h2 x3 E2 f2 => ?_) (tN t 1 0) 0 (spMk0 t) h1 (Nat.zero_add _) rfl rfl (B.mk0 (by omega)) E1 f1
    refine r_iload_n (pc := 136) C dX6_mark_136 rfl rfl ?_
    exact r_iret (pc := 137) C rfl (Nat.le_of_ble_eq_true rfl) (Nat.le_of_ble_eq_true rfl) ⟨_, rfl, (mp ((cif_t hu0).trans (cif_f c17)) E2 f2)⟩ dX6_mark_137
  refine r_aload_n (pc := 0) C dX6_mark_0 rfl rfl ?_
  refine r_getIe (pc := 1) C fl_X6_58 E.L.o rfl E.uw dX6_mark_1 ?_
  refine r_iconst (pc := 4) (v := (-1)) C dX6_mark_4 (by decide) ?_
  refine r_icmp_eq (pc := 5) (tgt := 11) C dX6_mark_5 (by decide) (fun c5 => ?_) (fun c5 => ?_)
  · have hu0 := (uwm1 (by omega)).mp c5
    refine r_aload_n (pc := 11) C dX6_mark_11 rfl rfl ?_
    refine r_getIe (pc := 12) C fl_X6_105 E.L.o rfl E.marks dX6_mark_12 ?_
    refine r_bipush (pc := 15) (v := (nI 8)) C dX6_mark_15 (by decide) ?_
    refine n_icmp_ne (pc := 17) (tgt := 23) C (by omega) (by omega) dX6_mark_17 (by decide) (fun c17 => ?_) (fun c17 => ?_)
    · refine r_aload_n (pc := 23) C dX6_mark_23 rfl rfl ?_
      refine r_getIe (pc := 24) C fl_X6_105 E.L.o rfl E.marks dX6_mark_24 ?_
      refine r_istore_n (pc := 27) (lv' := [_, _, _]) C dX6_mark_27 rfl (by decide) rfl rfl ?_
      refine r_aload_n (pc := 28) C dX6_mark_28 rfl rfl ?_
      refine r_dup (pc := 29) C dX6_mark_29 rfl ?_
      refine r_getIe (pc := 30) C fl_X6_105 E.L.o rfl E.marks dX6_mark_30 ?_
      refine r_iconst (pc := 33) (v := (nI 1)) C dX6_mark_33 (by decide) ?_
      refine n_iadd (pc := 34) C dX6_mark_34 ?_
      refine r_putI (pc := 35) C fl_X6_105 E.L.o rfl rfl rfl rfl dX6_mark_35 ?_
      have E := E.p_marks (tN t 0 4 + 1)
      refine r_aload_n (pc := 38) C dX6_mark_38 rfl rfl ?_
      refine r_iload_n (pc := 39) C dX6_mark_39 rfl rfl ?_
      refine r_putI (pc := 40) C fl_X6_58 E.L.o rfl rfl rfl rfl dX6_mark_40 ?_
      have E := E.p_uw (tN t 0 4 + 1) (nI_pred _).symm
      refine r_aload_n (pc := 43) C dX6_mark_43 rfl rfl ?_
      refine r_getR (pc := 44) C fl_X6_61 E.L.o rfl E.L.r21 dX6_mark_44 ?_
      refine r_iload_n (pc := 47) C dX6_mark_47 rfl rfl ?_
      refine r_iconst (pc := 48) (v := (nI 0)) C dX6_mark_48 (by decide) ?_
      refine n_iast (pc := 49) C E.L.s21 (by omega) dX6_mark_49 ?_
      have E := E.p_stat (tN t 0 4) 0
      refine r_aload_n (pc := 50) C dX6_mark_50 rfl rfl ?_
      refine r_getR (pc := 51) C fl_X6_64 E.L.o rfl E.L.r22 dX6_mark_51 ?_
      refine r_iload_n (pc := 54) C dX6_mark_54 rfl rfl ?_
      refine r_aload_n (pc := 55) C dX6_mark_55 rfl rfl ?_
      refine r_getIe (pc := 56) C fl_X6_102 E.L.o rfl (show _ = tI t 0 1 from E.turns) dX6_mark_56 ?_
      refine n_iast (pc := 59) C E.L.s22 (by omega) dX6_mark_59 ?_
      have E := E.p_begun (tN t 0 4) (tI t 0 1)
      refine r_iconst (pc := 60) (v := (nI 0)) C dX6_mark_60 (by decide) ?_
      refine r_istore_n (pc := 61) (lv' := [_, _, _]) C dX6_mark_61 rfl (by decide) rfl rfl ?_
      exact big c17 hu0 _ E ((((Fr.rf.pI (by omega) (by omega)).pI (by omega) (by omega)).pI (by omega) (by omega)).pI (by omega) (by omega))
    · refine r_bipush (pc := 20) (v := (-104)) C dX6_mark_20 (by decide) ?_
      exact r_iret (pc := 22) C rfl (Nat.le_of_ble_eq_true rfl) (Nat.le_of_ble_eq_true rfl) ⟨_, rfl, (mp ((cif_t hu0).trans (cif_t c17)) E Fr.rf)⟩ dX6_mark_22
  · have hu1 : ¬ tN t 0 5 = 0 := fun z => c5 ((uwm1 (by omega)).mpr z)
    refine r_bipush (pc := 8) (v := (-103)) C dX6_mark_8 (by decide) ?_
    exact r_iret (pc := 10) C rfl (Nat.le_of_ble_eq_true rfl) (Nat.le_of_ble_eq_true rfl) ⟨_, rfl, (mp (cif_f hu1) E Fr.rf)⟩ dX6_mark_10
