/-! ===== the reference: settings, input, the end of a mark, keeping ===== -/
/-- what a call of the reference answers and leaves -/
def MP (m : Nat) (h : AH) (r : Int32 × TS) : Int32 → AH → Prop := fun v h' => v = r.1 ∧ RM m r.2 h' ∧ Fr m (m + 24) h h'
theorem mp {m : Nat} {h h' : AH} {r : Int32 × TS} {v : Int32} {t' : TS} (e : r = (v, t')) (E : RM m t' h') (f : Fr m (m + 24) h h') : MP m h r v h' := by
  subst e; exact ⟨rfl, E, f⟩
theorem cl {s : Nat} (h : s < 2147483648) : (nI s).toNatClampNeg = s := nI_clamp h
theorem inR_of {x : Int32} {a b : Nat} (hb : b < 2147483648) (h : nI a ≤ x ∧ x ≤ nI b) (ha : a < 2147483648 := by decide) : ∃ j, a ≤ j ∧ j ≤ b ∧ x = nI j := by
  have h0 : nI 0 ≤ x := Int32.le_trans ((nI_leI (by decide) ha).mpr (by omega)) h.1
  have h3 : ¬ x < 0 := by rw [nI_0] at h0; exact Int32.not_lt.mpr h0
  obtain ⟨j, hj, rfl⟩ := nI_of h3
  exact ⟨j, (nI_leI ha hj).mp h.1, (nI_leI hj hb).mp h.2, rfl⟩
noncomputable def spWide (t : TS) (x y : Int32) : Int32 × TS :=
  cif (inN x (tN t 0 0)) (cif (nI 1 ≤ y ∧ y ≤ nI 4) (cif (0 < tI t 0 1 ∨ 0 < tN t 0 4) (-103, t) (nI (tN t 1 x.toNatClampNeg), uN t 1 x.toNatClampNeg y.toNatClampNeg)) (-102, t)) (-101, t)
noncomputable def spCap (t : TS) (x : Int32) : Int32 × TS := cif (nI 1 ≤ x ∧ x ≤ nI 20) (nI (tN t 0 1), uN t 0 1 x.toNatClampNeg) (-102, t)
noncomputable def spBnd (t : TS) (x : Int32) : Int32 × TS := cif (-1 ≤ x ∧ x ≤ nI 1000) (cif (tN t 0 5 = 0) (tI t 0 0, uI t 0 0 x) (-103, t)) (-102, t)
noncomputable def spLim (t : TS) (x : Int32) : Int32 × TS := cif (nI 0 ≤ x ∧ x ≤ nI 200) (nI (tN t 0 2), uN t 0 2 x.toNatClampNeg) (-102, t)
noncomputable def spFeed (t : TS) (x : Int32) (v : Int64) : Int32 × TS := cif (nI 0 ≤ x ∧ x ≤ nI 15) (cif (tN t 0 3 = 200) (-104, t) (nI (tN t 0 3), uN (uL (uN t 2 (tN t 0 3) x.toNatClampNeg) 0 (tN t 0 3) v) 0 3 (tN t 0 3 + 1))) (-102, t)
theorem c_X6_capacity {G : GP} {m : Nat} {t : TS} {h : AH} (E : RM m t h) (B : TB t) (x : Int32) : MA G mX6_capacity 1 0 0 [.ref m, .int x] h (Oi (MP m h (spCap t x))) := by
  refine MA.intro (lv := [some (.ref m), some (.int x), none]) (by decide) (Nat.le_of_ble_eq_true rfl) rfl (fun F C => ?_)
  refine r_iload_n (pc := 0) C dX6_capacity_0 rfl rfl ?_
  refine r_iconst (pc := 1) (v := (nI 1)) C dX6_capacity_1 (by decide) ?_
  refine r_bipush (pc := 2) (v := (nI 20)) C dX6_capacity_2 (by decide) ?_
  refine r_calli (cr_S (pc := 4) C (c_X6_in _ _ _ _) dX6_capacity_4 cm_X6_in ml_X6_94 st_X6_in ⟨⟨Nat.le_of_ble_eq_true rfl, Nat.le_of_ble_eq_true rfl⟩, Nat.le_of_ble_eq_true rfl, Nat.le_of_ble_eq_true rfl⟩ rfl rfl (Nat.le_of_ble_eq_true rfl)) (fun v4 h4 hq4 => ?_)
  obtain ⟨rfl, rfl⟩ := hq4
  refine b_if_ne (pc := 7) (tgt := 13) C dX6_capacity_7 (by decide) (fun c7 => ?_) (fun c7 => ?_)
  · obtain ⟨j, h1, h2, rfl⟩ := inR_of (by decide) c7
    refine r_aload_n (pc := 13) C dX6_capacity_13 rfl rfl ?_
    refine r_getIe (pc := 14) C fl_X6_13 E.L.o rfl E.cap dX6_capacity_14 ?_
    refine r_istore_n (pc := 17) (lv' := [_, _, _]) C dX6_capacity_17 rfl (by decide) rfl rfl ?_
    refine r_aload_n (pc := 18) C dX6_capacity_18 rfl rfl ?_
    refine r_iload_n (pc := 19) C dX6_capacity_19 rfl rfl ?_
    refine r_putI (pc := 20) C fl_X6_13 E.L.o rfl rfl rfl rfl dX6_capacity_20 ?_
    have E := E.p_cap j
    refine r_iload_n (pc := 23) C dX6_capacity_23 rfl rfl ?_
    exact r_iret (pc := 24) C rfl (Nat.le_of_ble_eq_true rfl) (Nat.le_of_ble_eq_true rfl) ⟨_, rfl, (mp ((cif_t c7).trans (by rw [cl (by omega)])) E (Fr.rf.pI (by omega) (by omega)))⟩ dX6_capacity_24
  · refine r_bipush (pc := 10) (v := (-102)) C dX6_capacity_10 (by decide) ?_
    exact r_iret (pc := 12) C rfl (Nat.le_of_ble_eq_true rfl) (Nat.le_of_ble_eq_true rfl) ⟨_, rfl, (mp (cif_f c7) E Fr.rf)⟩ dX6_capacity_12
theorem c_X6_limit {G : GP} {m : Nat} {t : TS} {h : AH} (E : RM m t h) (B : TB t) (x : Int32) : MA G mX6_limit 1 0 0 [.ref m, .int x] h (Oi (MP m h (spLim t x))) := by
  refine MA.intro (lv := [some (.ref m), some (.int x), none]) (by decide) (Nat.le_of_ble_eq_true rfl) rfl (fun F C => ?_)
  refine r_iload_n (pc := 0) C dX6_limit_0 rfl rfl ?_
  refine r_iconst (pc := 1) (v := (nI 0)) C dX6_limit_1 (by decide) ?_
  refine r_sipush (pc := 2) (v := (nI 200)) C dX6_limit_2 (by decide) ?_
  refine r_calli (cr_S (pc := 5) C (c_X6_in _ _ _ _) dX6_limit_5 cm_X6_in ml_X6_94 st_X6_in ⟨⟨Nat.le_of_ble_eq_true rfl, Nat.le_of_ble_eq_true rfl⟩, Nat.le_of_ble_eq_true rfl, Nat.le_of_ble_eq_true rfl⟩ rfl rfl (Nat.le_of_ble_eq_true rfl)) (fun v5 h5 hq5 => ?_)
  obtain ⟨rfl, rfl⟩ := hq5
  refine b_if_ne (pc := 8) (tgt := 14) C dX6_limit_8 (by decide) (fun c8 => ?_) (fun c8 => ?_)
  · obtain ⟨j, h1, h2, rfl⟩ := inR_of (by decide) c8
    refine r_aload_n (pc := 14) C dX6_limit_14 rfl rfl ?_
    refine r_getIe (pc := 15) C fl_X6_17 E.L.o rfl E.lim dX6_limit_15 ?_
    refine r_istore_n (pc := 18) (lv' := [_, _, _]) C dX6_limit_18 rfl (by decide) rfl rfl ?_
    refine r_aload_n (pc := 19) C dX6_limit_19 rfl rfl ?_
    refine r_iload_n (pc := 20) C dX6_limit_20 rfl rfl ?_
    refine r_putI (pc := 21) C fl_X6_17 E.L.o rfl rfl rfl rfl dX6_limit_21 ?_
    have E := E.p_lim j
    refine r_iload_n (pc := 24) C dX6_limit_24 rfl rfl ?_
    exact r_iret (pc := 25) C rfl (Nat.le_of_ble_eq_true rfl) (Nat.le_of_ble_eq_true rfl) ⟨_, rfl, (mp ((cif_t c8).trans (by rw [cl (by omega)])) E (Fr.rf.pI (by omega) (by omega)))⟩ dX6_limit_25
  · refine r_bipush (pc := 11) (v := (-102)) C dX6_limit_11 (by decide) ?_
    exact r_iret (pc := 13) C rfl (Nat.le_of_ble_eq_true rfl) (Nat.le_of_ble_eq_true rfl) ⟨_, rfl, (mp (cif_f c8) E Fr.rf)⟩ dX6_limit_13
theorem c_X6_bound {G : GP} {m : Nat} {t : TS} {h : AH} (E : RM m t h) (B : TB t) (x : Int32) : MA G mX6_bound 1 0 0 [.ref m, .int x] h (Oi (MP m h (spBnd t x))) := by
  have b1 := B.marks
  have b2 := B.uw
  refine MA.intro (lv := [some (.ref m), some (.int x), none]) (by decide) (Nat.le_of_ble_eq_true rfl) rfl (fun F C => ?_)
  refine r_iload_n (pc := 0) C dX6_bound_0 rfl rfl ?_
  refine r_iconst (pc := 1) (v := (-1)) C dX6_bound_1 (by decide) ?_
  refine r_sipush (pc := 2) (v := (nI 1000)) C dX6_bound_2 (by decide) ?_
  refine r_calli (cr_S (pc := 5) C (c_X6_in _ _ _ _) dX6_bound_5 cm_X6_in ml_X6_94 st_X6_in ⟨⟨Nat.le_of_ble_eq_true rfl, Nat.le_of_ble_eq_true rfl⟩, Nat.le_of_ble_eq_true rfl, Nat.le_of_ble_eq_true rfl⟩ rfl rfl (Nat.le_of_ble_eq_true rfl)) (fun v5 h5 hq5 => ?_)
  obtain ⟨rfl, rfl⟩ := hq5
  refine b_if_ne (pc := 8) (tgt := 14) C dX6_bound_8 (by decide) (fun c8 => ?_) (fun c8 => ?_)
  · refine r_aload_n (pc := 14) C dX6_bound_14 rfl rfl ?_
    refine r_getIe (pc := 15) C fl_X6_58 E.L.o rfl E.uw dX6_bound_15 ?_
    refine r_iconst (pc := 18) (v := (-1)) C dX6_bound_18 (by decide) ?_
    refine r_icmp_eq (pc := 19) (tgt := 25) C dX6_bound_19 (by decide) (fun c19 => ?_) (fun c19 => ?_)
    · refine r_aload_n (pc := 25) C dX6_bound_25 rfl rfl ?_
      refine r_getIe (pc := 26) C fl_X6_108 E.L.o rfl E.bnd dX6_bound_26 ?_
      refine r_istore_n (pc := 29) (lv' := [_, _, _]) C dX6_bound_29 rfl (by decide) rfl rfl ?_
      refine r_aload_n (pc := 30) C dX6_bound_30 rfl rfl ?_
      refine r_iload_n (pc := 31) C dX6_bound_31 rfl rfl ?_
      refine r_putI (pc := 32) C fl_X6_108 E.L.o rfl rfl rfl rfl dX6_bound_32 ?_
      have E := E.p_bnd x
      refine r_iload_n (pc := 35) C dX6_bound_35 rfl rfl ?_
      exact r_iret (pc := 36) C rfl (Nat.le_of_ble_eq_true rfl) (Nat.le_of_ble_eq_true rfl) ⟨_, rfl, (mp ((cif_t c8).trans (cif_t ((uwm1 (by omega)).mp c19))) E (Fr.rf.pI (by omega) (by omega)))⟩ dX6_bound_36
    · refine r_bipush (pc := 22) (v := (-103)) C dX6_bound_22 (by decide) ?_
      exact r_iret (pc := 24) C rfl (Nat.le_of_ble_eq_true rfl) (Nat.le_of_ble_eq_true rfl) ⟨_, rfl, (mp ((cif_t c8).trans (cif_f (fun z => c19 ((uwm1 (by omega)).mpr z)))) E Fr.rf)⟩ dX6_bound_24
  · refine r_bipush (pc := 11) (v := (-102)) C dX6_bound_11 (by decide) ?_
    exact r_iret (pc := 13) C rfl (Nat.le_of_ble_eq_true rfl) (Nat.le_of_ble_eq_true rfl) ⟨_, rfl, (mp (cif_f c8) E Fr.rf)⟩ dX6_bound_13
theorem c_X6_feed {G : GP} {m : Nat} {t : TS} {h : AH} (E : RM m t h) (B : TB t) (x : Int32) (v : Int64) : MA G mX6_feed 1 0 0 [.ref m, .int x, .long v] h (Oi (MP m h (spFeed t x v))) := by
  have b1 := B.fed
  refine MA.intro (lv := [some (.ref m), some (.int x), some (.long v), none]) (by decide) (Nat.le_of_ble_eq_true rfl) rfl (fun F C => ?_)
  refine r_iload_n (pc := 0) C dX6_feed_0 rfl rfl ?_
  refine r_iconst (pc := 1) (v := (nI 0)) C dX6_feed_1 (by decide) ?_
  refine r_bipush (pc := 2) (v := (nI 15)) C dX6_feed_2 (by decide) ?_
  refine r_calli (cr_S (pc := 4) C (c_X6_in _ _ _ _) dX6_feed_4 cm_X6_in ml_X6_94 st_X6_in ⟨⟨Nat.le_of_ble_eq_true rfl, Nat.le_of_ble_eq_true rfl⟩, Nat.le_of_ble_eq_true rfl, Nat.le_of_ble_eq_true rfl⟩ rfl rfl (Nat.le_of_ble_eq_true rfl)) (fun v4 h4 hq4 => ?_)
  obtain ⟨rfl, rfl⟩ := hq4
  refine b_if_ne (pc := 7) (tgt := 13) C dX6_feed_7 (by decide) (fun c7 => ?_) (fun c7 => ?_)
  · obtain ⟨j, h1, h2, rfl⟩ := inR_of (by decide) c7
    refine r_aload_n (pc := 13) C dX6_feed_13 rfl rfl ?_
    refine r_getIe (pc := 14) C fl_X6_111 E.L.o rfl E.fed dX6_feed_14 ?_
    refine r_sipush (pc := 17) (v := (nI 200)) C dX6_feed_17 (by decide) ?_
    refine n_icmp_ne (pc := 20) (tgt := 26) C (by omega) (by omega) dX6_feed_20 (by decide) (fun c20 => ?_) (fun c20 => ?_)
    · refine r_aload_n (pc := 26) C dX6_feed_26 rfl rfl ?_
      refine r_getR (pc := 27) C fl_X6_20 E.L.o rfl E.L.r6 dX6_feed_27 ?_
      refine r_aload_n (pc := 30) C dX6_feed_30 rfl rfl ?_
      refine r_getIe (pc := 31) C fl_X6_111 E.L.o rfl E.fed dX6_feed_31 ?_
      refine r_iload_n (pc := 34) C dX6_feed_34 rfl rfl ?_
      refine n_iast (pc := 35) C E.L.s6 (by omega) dX6_feed_35 ?_
      have E := E.p_key (tN t 0 3) j
      refine r_aload_n (pc := 36) C dX6_feed_36 rfl rfl ?_
      refine r_getR (pc := 37) C fl_X6_23 E.L.o rfl E.L.r7 dX6_feed_37 ?_
      refine r_aload_n (pc := 40) C dX6_feed_40 rfl rfl ?_
      refine r_getIe (pc := 41) C fl_X6_111 E.L.o rfl (show _ = nI (tN t 0 3) from E.fed) dX6_feed_41 ?_
      refine r_lload_n (pc := 44) C dX6_feed_44 rfl rfl ?_
      refine n_last (pc := 45) C E.L.s7 (by omega) dX6_feed_45 ?_
      have E := E.p_val (tN t 0 3) v
      refine r_aload_n (pc := 46) C dX6_feed_46 rfl rfl ?_
      refine r_dup (pc := 47) C dX6_feed_47 rfl ?_
      refine r_getIe (pc := 48) C fl_X6_111 E.L.o rfl (show _ = nI (tN t 0 3) from E.fed) dX6_feed_48 ?_
      refine r_iconst (pc := 51) (v := (nI 1)) C dX6_feed_51 (by decide) ?_
      refine n_iadd (pc := 52) C dX6_feed_52 ?_
      refine r_putI (pc := 53) C fl_X6_111 E.L.o rfl rfl rfl rfl dX6_feed_53 ?_
      have E := E.p_fed (tN t 0 3 + 1)
      refine r_aload_n (pc := 56) C dX6_feed_56 rfl rfl ?_
      refine r_getIe (pc := 57) C fl_X6_111 E.L.o rfl (E.fed.trans (by rw [tN_uN, if_pos ⟨rfl, rfl⟩])) dX6_feed_57 ?_
      try rfl
      refine r_iconst (pc := 60) (v := (nI 1)) C dX6_feed_60 (by decide) ?_
      refine n_isub (pc := 61) C (by omega) dX6_feed_61 ?_
      exact r_iret (pc := 62) C rfl (Nat.le_of_ble_eq_true rfl) (Nat.le_of_ble_eq_true rfl) ⟨_, rfl, (mp ((cif_t c7).trans ((cif_f c20).trans (by rw [cl (by omega), Nat.add_sub_cancel]))) E (((Fr.rf.pI (by omega) (by omega)).pL (by omega) (by omega)).pI (by omega) (by omega)))⟩ dX6_feed_62
    · refine r_bipush (pc := 23) (v := (-104)) C dX6_feed_23 (by decide) ?_
      exact r_iret (pc := 25) C rfl (Nat.le_of_ble_eq_true rfl) (Nat.le_of_ble_eq_true rfl) ⟨_, rfl, (mp ((cif_t c7).trans (cif_t c20)) E Fr.rf)⟩ dX6_feed_25
  · refine r_bipush (pc := 10) (v := (-102)) C dX6_feed_10 (by decide) ?_
    exact r_iret (pc := 12) C rfl (Nat.le_of_ble_eq_true rfl) (Nat.le_of_ble_eq_true rfl) ⟨_, rfl, (mp (cif_f c7) E Fr.rf)⟩ dX6_feed_12
theorem c_X6_wide {G : GP} {m : Nat} {t : TS} {h : AH} (E : RM m t h) (B : TB t) (x y : Int32) : MA G mX6_wide 2 0 0 [.ref m, .int x, .int y] h (Oi (MP m h (spWide t x y))) := by
  have b1 := B.S
  have b2 := B.marks
  refine MA.intro (lv := [some (.ref m), some (.int x), some (.int y), none]) (by decide) (Nat.le_of_ble_eq_true rfl) rfl (fun F C => ?_)
  refine r_aload_n (pc := 0) C dX6_wide_0 rfl rfl ?_
  refine r_iload_n (pc := 1) C dX6_wide_1 rfl rfl ?_
  refine r_calli (cr_V (pc := 2) C (c_X6_isStage E B _) dX6_wide_2 cm_X6_isStage ml_X6_98 im_X6_isStage se_X6_isStage E.L.o rfl ⟨⟨Nat.le_of_ble_eq_true rfl, Nat.le_of_ble_eq_true rfl⟩, Nat.le_of_ble_eq_true rfl, Nat.le_of_ble_eq_true rfl⟩ rfl rfl (Nat.le_of_ble_eq_true rfl)) (fun v2 h2 hq2 => ?_)
  obtain ⟨rfl, rfl⟩ := hq2
  refine b_if_ne (pc := 5) (tgt := 11) C dX6_wide_5 (by decide) (fun c5 => ?_) (fun c5 => ?_)
  · refine r_iload_n (pc := 11) C dX6_wide_11 rfl rfl ?_
    refine r_iconst (pc := 12) (v := (nI 1)) C dX6_wide_12 (by decide) ?_
    refine r_iconst (pc := 13) (v := (nI 4)) C dX6_wide_13 (by decide) ?_
    refine r_calli (cr_S (pc := 14) C (c_X6_in _ _ _ _) dX6_wide_14 cm_X6_in ml_X6_94 st_X6_in ⟨⟨Nat.le_of_ble_eq_true rfl, Nat.le_of_ble_eq_true rfl⟩, Nat.le_of_ble_eq_true rfl, Nat.le_of_ble_eq_true rfl⟩ rfl rfl (Nat.le_of_ble_eq_true rfl)) (fun v14 h14 hq14 => ?_)
    obtain ⟨rfl, rfl⟩ := hq14
    refine b_if_ne (pc := 17) (tgt := 23) C dX6_wide_17 (by decide) (fun c17 => ?_) (fun c17 => ?_)
    · refine r_aload_n (pc := 23) C dX6_wide_23 rfl rfl ?_
      refine r_getIe (pc := 24) C fl_X6_102 E.L.o rfl E.turns dX6_wide_24 ?_
      refine r_if_gt (pc := 27) (tgt := 37) C dX6_wide_27 (by decide) (fun c27 => ?_) (fun c27 => ?_)
      · refine r_bipush (pc := 37) (v := (-103)) C dX6_wide_37 (by decide) ?_
        exact r_iret (pc := 39) C rfl (Nat.le_of_ble_eq_true rfl) (Nat.le_of_ble_eq_true rfl) ⟨_, rfl, (mp ((cif_t c5).trans ((cif_t c17).trans (cif_t (by first | exact Or.inl c27 | exact Or.inr c34)))) E Fr.rf)⟩ dX6_wide_39
      · refine r_aload_n (pc := 30) C dX6_wide_30 rfl rfl ?_
        refine r_getIe (pc := 31) C fl_X6_105 E.L.o rfl E.marks dX6_wide_31 ?_
        refine n_if_le (pc := 34) (tgt := 40) C (by omega) dX6_wide_34 (by decide) (fun c34 => ?_) (fun c34 => ?_)
        · have cc : ¬ (0 < tI t 0 1 ∨ 0 < tN t 0 4) := fun q => q.elim c27 (fun z => by omega)
          obtain ⟨s, hs, rfl⟩ := id c5
          obtain ⟨p, h1, h2, rfl⟩ := inR_of (by decide) c17
          refine r_aload_n (pc := 40) C dX6_wide_40 rfl rfl ?_
          refine r_getR (pc := 41) C fl_X6_7 E.L.o rfl E.L.r1 dX6_wide_41 ?_
          refine r_iload_n (pc := 44) C dX6_wide_44 rfl rfl ?_
          refine n_iald (pc := 45) C E.L.s1 (by omega) (E.k_P _ (by omega)) dX6_wide_45 ?_
          refine r_istore_n (pc := 46) (lv' := [_, _, _, _]) C dX6_wide_46 rfl (by decide) rfl rfl ?_
          refine r_aload_n (pc := 47) C dX6_wide_47 rfl rfl ?_
          refine r_getR (pc := 48) C fl_X6_7 E.L.o rfl E.L.r1 dX6_wide_48 ?_
          refine r_iload_n (pc := 51) C dX6_wide_51 rfl rfl ?_
          refine r_iload_n (pc := 52) C dX6_wide_52 rfl rfl ?_
          refine n_iast (pc := 53) C E.L.s1 (by omega) dX6_wide_53 ?_
          have E := E.p_P s p
          refine r_iload_n (pc := 54) C dX6_wide_54 rfl rfl ?_
          exact r_iret (pc := 55) C rfl (Nat.le_of_ble_eq_true rfl) (Nat.le_of_ble_eq_true rfl) ⟨_, rfl, (mp ((cif_t c5).trans ((cif_t c17).trans ((cif_f cc).trans (by rw [cl (by omega), cl (by omega)])))) E (Fr.rf.pI (by omega) (by omega)))⟩ dX6_wide_55
        · refine r_bipush (pc := 37) (v := (-103)) C dX6_wide_37 (by decide) ?_
          exact r_iret (pc := 39) C rfl (Nat.le_of_ble_eq_true rfl) (Nat.le_of_ble_eq_true rfl) ⟨_, rfl, (mp ((cif_t c5).trans ((cif_t c17).trans (cif_t (by first | exact Or.inl c27 | exact Or.inr c34)))) E Fr.rf)⟩ dX6_wide_39
    · refine r_bipush (pc := 20) (v := (-102)) C dX6_wide_20 (by decide) ?_
      exact r_iret (pc := 22) C rfl (Nat.le_of_ble_eq_true rfl) (Nat.le_of_ble_eq_true rfl) ⟨_, rfl, (mp ((cif_t c5).trans (cif_f c17)) E Fr.rf)⟩ dX6_wide_22
  · refine r_bipush (pc := 8) (v := (-101)) C dX6_wide_8 (by decide) ?_
    exact r_iret (pc := 10) C rfl (Nat.le_of_ble_eq_true rfl) (Nat.le_of_ble_eq_true rfl) ⟨_, rfl, (mp (cif_f c5) E Fr.rf)⟩ dX6_wide_10
