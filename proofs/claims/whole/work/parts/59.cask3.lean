/-! ===== the class: what was kept; about; feed ===== -/
section CA59
variable {G : GP} {x m : Nat} {t : TS} {e : ES} {h : AH}
theorem c_X5_keptChannel (E : RX x m t e h) (B : TB t) (H : Ext t e) {j : Nat} (hj : j < tN t 0 4) (z w u : Int32) : MA G mX5_keptChannel 1 0 0 [.ref x, .ref (m + 24 + 7 * j), .int z, .int w, .int u] h (Oi (fun v h' => v = cif (inK t (nI j) z w u) (nI (16 * z.toNatClampNeg + 4 * w.toNatClampNeg + u.toNatClampNeg)) (-1) ∧ h' = h)) := by
  have b := B.S
  have b8 := B.marks
  have L := E.L.M hj
  refine MA.intro (lv := [some (.ref x), some (.ref (m + 24 + 7 * j)), some (.int z), some (.int w), some (.int u)]) (by decide) (Nat.le_of_ble_eq_true rfl) rfl (fun F C => ?_)
  by_cases hz : inN z (tN t 0 0 - 1)
  · obtain ⟨g, hg, rfl⟩ := hz
    have H1 := H.2.2.2.2.2.1 j hj g (by omega)
    have H2 := H.2.2.2.2.2.1 j hj (g + 1) (by omega)
    have b1 := B.thn (4 * j + g)
    have b2 := B.thn (4 * j + (g + 1))
    have W1 := E.k_mw j hj g (by omega)
    have W2 := E.k_mw j hj (g + 1) (by omega)
    rw [H1] at W1
    rw [H2] at W2
    have hK : inK t (nI j) (nI g) w u ↔ inN w (tN t 10 (4 * j + g)) ∧ inN u (tN t 10 (4 * j + (g + 1))) := by
      constructor
      · rintro ⟨j', g', h1, h2, h3, h4, h5, h6⟩
        rw [nI_in2 (by omega) (by omega) h2, nI_in2 (by omega) (by omega) h4]
        exact ⟨h5, h6⟩
      · rintro ⟨h5, h6⟩
        exact ⟨j, g, hj, rfl, by omega, rfl, h5, h6⟩
    by_cases hc : inK t (nI j) (nI g) w u
    · obtain ⟨⟨f, hf, rfl⟩, q, hq, rfl⟩ := hK.mp hc
      have e0 : cif (inK t (nI j) (nI g) (nI f) (nI q)) (nI (16 * (nI g).toNatClampNeg + 4 * (nI f).toNatClampNeg + (nI q).toNatClampNeg)) (-1) = nI (16 * g + 4 * f + q) := (cif_t hc).trans (by rw [cl (by omega), cl (by omega), cl (by omega)])
      refine r_aload_n (pc := 0) C dX5_keptChannel_0 rfl rfl ?_
      refine r_ifnull (pc := 1) C dX5_keptChannel_1 ?_
      refine r_iload_n (pc := 4) C dX5_keptChannel_4 rfl rfl ?_
      refine n_if_lt (pc := 5) (tgt := 18) C (by omega) dX5_keptChannel_5 (by decide) ?_
      refine r_iload_n (pc := 8) C dX5_keptChannel_8 rfl rfl ?_
      refine r_aload_n (pc := 9) C dX5_keptChannel_9 rfl rfl ?_
      refine r_getIe (pc := 10) C fl_X5_64 E.L.o rfl E.S dX5_keptChannel_10 ?_
      refine r_iconst (pc := 13) (v := (nI 1)) C dX5_keptChannel_13 (by decide) ?_
      refine n_isub (pc := 14) C (by omega) dX5_keptChannel_14 ?_
      refine n_icmp_lt (pc := 15) (tgt := 20) C (by omega) (by omega) dX5_keptChannel_15 (by decide) (fun c15 => ?_) (fun c15 => absurd c15 (by omega))
      refine r_iload_n (pc := 20) C dX5_keptChannel_20 rfl rfl ?_
      refine n_if_lt (pc := 21) (tgt := 50) C (by omega) dX5_keptChannel_21 (by decide) ?_
      refine r_iload_n (pc := 24) C dX5_keptChannel_24 rfl rfl ?_
      refine r_aload_n (pc := 25) C dX5_keptChannel_25 rfl rfl ?_
      refine r_iload_n (pc := 26) C dX5_keptChannel_26 rfl rfl ?_
      refine r_calli (cr_V (pc := 27) C (c_X2_widthOf L (by omega) W1) dX5_keptChannel_27 cm_X2_widthOf ml_X5_211 im_X2_widthOf se_X2_widthOf L.1 rfl ⟨⟨Nat.le_of_ble_eq_true rfl, Nat.le_of_ble_eq_true rfl⟩, Nat.le_of_ble_eq_true rfl, Nat.le_of_ble_eq_true rfl⟩ rfl rfl (Nat.le_of_ble_eq_true rfl)) (fun v27 h27 hq27 => ?_)
      obtain ⟨rfl, rfl⟩ := hq27
      refine n_icmp_ge (pc := 30) (tgt := 50) C (by omega) (by omega) dX5_keptChannel_30 (by decide) (fun c30 => absurd c30 (by omega)) (fun c30 => ?_)
      refine r_iload (pc := 33) C dX5_keptChannel_33 rfl ?_
      refine n_if_lt (pc := 35) (tgt := 50) C (by omega) dX5_keptChannel_35 (by decide) ?_
      refine r_iload (pc := 38) C dX5_keptChannel_38 rfl ?_
      refine r_aload_n (pc := 40) C dX5_keptChannel_40 rfl rfl ?_
      refine r_iload_n (pc := 41) C dX5_keptChannel_41 rfl rfl ?_
      refine r_iconst (pc := 42) (v := (nI 1)) C dX5_keptChannel_42 (by decide) ?_
      refine n_iadd (pc := 43) C dX5_keptChannel_43 ?_
      refine r_calli (cr_V (pc := 44) C (c_X2_widthOf L (by omega) W2) dX5_keptChannel_44 cm_X2_widthOf ml_X5_211 im_X2_widthOf se_X2_widthOf L.1 rfl ⟨⟨Nat.le_of_ble_eq_true rfl, Nat.le_of_ble_eq_true rfl⟩, Nat.le_of_ble_eq_true rfl, Nat.le_of_ble_eq_true rfl⟩ rfl rfl (Nat.le_of_ble_eq_true rfl)) (fun v44 h44 hq44 => ?_)
      obtain ⟨rfl, rfl⟩ := hq44
      refine n_icmp_lt (pc := 47) (tgt := 52) C (by omega) (by omega) dX5_keptChannel_47 (by decide) (fun c47 => ?_) (fun c47 => absurd c47 (by omega))
      refine r_iload_n (pc := 52) C dX5_keptChannel_52 rfl rfl ?_
      refine r_iload_n (pc := 53) C dX5_keptChannel_53 rfl rfl ?_
      refine r_iload (pc := 54) C dX5_keptChannel_54 rfl ?_
      refine r_calli (cr_S (pc := 56) C (c_X5_numberOf _ _ _ _) dX5_keptChannel_56 cm_X5_numberOf ml_X5_252 st_X5_numberOf ⟨⟨Nat.le_of_ble_eq_true rfl, Nat.le_of_ble_eq_true rfl⟩, Nat.le_of_ble_eq_true rfl, Nat.le_of_ble_eq_true rfl⟩ rfl rfl (Nat.le_of_ble_eq_true rfl)) (fun v56 h56 hq56 => ?_)
      obtain ⟨rfl, rfl⟩ := hq56
      exact r_iret (pc := 59) C rfl (Nat.le_of_ble_eq_true rfl) (Nat.le_of_ble_eq_true rfl) ⟨_, rfl, ⟨e0.symm, rfl⟩⟩ dX5_keptChannel_59
    · have e0 : cif (inK t (nI j) (nI g) w u) (nI (16 * (nI g).toNatClampNeg + 4 * w.toNatClampNeg + u.toNatClampNeg)) (-1) = -1 := cif_f hc
      refine r_aload_n (pc := 0) C dX5_keptChannel_0 rfl rfl ?_
      refine r_ifnull (pc := 1) C dX5_keptChannel_1 ?_
      refine r_iload_n (pc := 4) C dX5_keptChannel_4 rfl rfl ?_
      refine n_if_lt (pc := 5) (tgt := 18) C (by omega) dX5_keptChannel_5 (by decide) ?_
      refine r_iload_n (pc := 8) C dX5_keptChannel_8 rfl rfl ?_
      refine r_aload_n (pc := 9) C dX5_keptChannel_9 rfl rfl ?_
      refine r_getIe (pc := 10) C fl_X5_64 E.L.o rfl E.S dX5_keptChannel_10 ?_
      refine r_iconst (pc := 13) (v := (nI 1)) C dX5_keptChannel_13 (by decide) ?_
      refine n_isub (pc := 14) C (by omega) dX5_keptChannel_14 ?_
      refine n_icmp_lt (pc := 15) (tgt := 20) C (by omega) (by omega) dX5_keptChannel_15 (by decide) (fun c15 => ?_) (fun c15 => absurd c15 (by omega))
      refine r_iload_n (pc := 20) C dX5_keptChannel_20 rfl rfl ?_
      refine r_if_lt (pc := 21) (tgt := 50) C dX5_keptChannel_21 (by decide) (fun c21 => ?_) (fun c21 => ?_)
      · refine r_iconst (pc := 50) (v := (-1)) C dX5_keptChannel_50 (by decide) ?_
        exact r_iret (pc := 51) C rfl (Nat.le_of_ble_eq_true rfl) (Nat.le_of_ble_eq_true rfl) ⟨_, rfl, ⟨e0.symm, rfl⟩⟩ dX5_keptChannel_51
      · refine r_iload_n (pc := 24) C dX5_keptChannel_24 rfl rfl ?_
        refine r_aload_n (pc := 25) C dX5_keptChannel_25 rfl rfl ?_
        refine r_iload_n (pc := 26) C dX5_keptChannel_26 rfl rfl ?_
        refine r_calli (cr_V (pc := 27) C (c_X2_widthOf L (by omega) W1) dX5_keptChannel_27 cm_X2_widthOf ml_X5_211 im_X2_widthOf se_X2_widthOf L.1 rfl ⟨⟨Nat.le_of_ble_eq_true rfl, Nat.le_of_ble_eq_true rfl⟩, Nat.le_of_ble_eq_true rfl, Nat.le_of_ble_eq_true rfl⟩ rfl rfl (Nat.le_of_ble_eq_true rfl)) (fun v27 h27 hq27 => ?_)
        obtain ⟨rfl, rfl⟩ := hq27
        refine r_icmp_ge (pc := 30) (tgt := 50) C dX5_keptChannel_30 (by decide) (fun c30 => ?_) (fun c30 => ?_)
        · refine r_iconst (pc := 50) (v := (-1)) C dX5_keptChannel_50 (by decide) ?_
          exact r_iret (pc := 51) C rfl (Nat.le_of_ble_eq_true rfl) (Nat.le_of_ble_eq_true rfl) ⟨_, rfl, ⟨e0.symm, rfl⟩⟩ dX5_keptChannel_51
        · refine r_iload (pc := 33) C dX5_keptChannel_33 rfl ?_
          refine r_if_lt (pc := 35) (tgt := 50) C dX5_keptChannel_35 (by decide) (fun c35 => ?_) (fun c35 => ?_)
          · refine r_iconst (pc := 50) (v := (-1)) C dX5_keptChannel_50 (by decide) ?_
            exact r_iret (pc := 51) C rfl (Nat.le_of_ble_eq_true rfl) (Nat.le_of_ble_eq_true rfl) ⟨_, rfl, ⟨e0.symm, rfl⟩⟩ dX5_keptChannel_51
          · refine r_iload (pc := 38) C dX5_keptChannel_38 rfl ?_
            refine r_aload_n (pc := 40) C dX5_keptChannel_40 rfl rfl ?_
            refine r_iload_n (pc := 41) C dX5_keptChannel_41 rfl rfl ?_
            refine r_iconst (pc := 42) (v := (nI 1)) C dX5_keptChannel_42 (by decide) ?_
            refine n_iadd (pc := 43) C dX5_keptChannel_43 ?_
            refine r_calli (cr_V (pc := 44) C (c_X2_widthOf L (by omega) W2) dX5_keptChannel_44 cm_X2_widthOf ml_X5_211 im_X2_widthOf se_X2_widthOf L.1 rfl ⟨⟨Nat.le_of_ble_eq_true rfl, Nat.le_of_ble_eq_true rfl⟩, Nat.le_of_ble_eq_true rfl, Nat.le_of_ble_eq_true rfl⟩ rfl rfl (Nat.le_of_ble_eq_true rfl)) (fun v44 h44 hq44 => ?_)
            obtain ⟨rfl, rfl⟩ := hq44
            refine r_icmp_lt (pc := 47) (tgt := 52) C dX5_keptChannel_47 (by decide) (fun c47 => absurd c47 (fun q => hc (hK.mpr ⟨(ltI (by omega)).mpr ⟨c21, Int32.not_le.mp c30⟩, (ltI (by omega)).mpr ⟨c35, q⟩⟩))) (fun c47 => ?_)
            refine r_iconst (pc := 50) (v := (-1)) C dX5_keptChannel_50 (by decide) ?_
            exact r_iret (pc := 51) C rfl (Nat.le_of_ble_eq_true rfl) (Nat.le_of_ble_eq_true rfl) ⟨_, rfl, ⟨e0.symm, rfl⟩⟩ dX5_keptChannel_51
  · have e0 : cif (inK t (nI j) z w u) (nI (16 * z.toNatClampNeg + 4 * w.toNatClampNeg + u.toNatClampNeg)) (-1) = -1 := cif_f (fun ⟨j', g', h1, h2, h3, h4, _⟩ => hz ⟨g', by omega, h4⟩)
    refine r_aload_n (pc := 0) C dX5_keptChannel_0 rfl rfl ?_
    refine r_ifnull (pc := 1) C dX5_keptChannel_1 ?_
    refine r_iload_n (pc := 4) C dX5_keptChannel_4 rfl rfl ?_
    refine r_if_lt (pc := 5) (tgt := 18) C dX5_keptChannel_5 (by decide) (fun c5 => ?_) (fun c5 => ?_)
    · refine r_iconst (pc := 18) (v := (-1)) C dX5_keptChannel_18 (by decide) ?_
      exact r_iret (pc := 19) C rfl (Nat.le_of_ble_eq_true rfl) (Nat.le_of_ble_eq_true rfl) ⟨_, rfl, ⟨e0.symm, rfl⟩⟩ dX5_keptChannel_19
    · refine r_iload_n (pc := 8) C dX5_keptChannel_8 rfl rfl ?_
      refine r_aload_n (pc := 9) C dX5_keptChannel_9 rfl rfl ?_
      refine r_getIe (pc := 10) C fl_X5_64 E.L.o rfl E.S dX5_keptChannel_10 ?_
      refine r_iconst (pc := 13) (v := (nI 1)) C dX5_keptChannel_13 (by decide) ?_
      refine n_isub (pc := 14) C (by omega) dX5_keptChannel_14 ?_
      refine r_icmp_lt (pc := 15) (tgt := 20) C dX5_keptChannel_15 (by decide) (fun c15 => absurd c15 (fun q => hz ((ltI (by omega)).mpr ⟨c5, q⟩))) (fun c15 => ?_)
      refine r_iconst (pc := 18) (v := (-1)) C dX5_keptChannel_18 (by decide) ?_
      exact r_iret (pc := 19) C rfl (Nat.le_of_ble_eq_true rfl) (Nat.le_of_ble_eq_true rfl) ⟨_, rfl, ⟨e0.symm, rfl⟩⟩ dX5_keptChannel_19
theorem c_X5_keptChannelN (h : AH) (z w u : Int32) : MA G mX5_keptChannel 1 0 0 [.ref x, .null, .int z, .int w, .int u] h (Oi (fun v h' => v = -1 ∧ h' = h)) := by
  refine MA.intro (lv := [some (.ref x), some .null, some (.int z), some (.int w), some (.int u)]) (by decide) (Nat.le_of_ble_eq_true rfl) rfl (fun F C => ?_)
  refine r_aload_nN (pc := 0) C dX5_keptChannel_0 rfl rfl ?_
  refine r_ifnullN (pc := 1) (tgt := 18) C dX5_keptChannel_1 (by decide) ?_
  refine r_iconst (pc := 18) (v := (-1)) C dX5_keptChannel_18 (by decide) ?_
  exact r_iret (pc := 19) C rfl (Nat.le_of_ble_eq_true rfl) (Nat.le_of_ble_eq_true rfl) ⟨_, rfl, ⟨rfl, rfl⟩⟩ dX5_keptChannel_19
theorem RX.kc (E : RX x m t e h) {j : Nat} (hj : j < tN t 0 4) : ∀ i, i < (tK t j).length → hI h (m + 24 + 7 * j + 5) i = nI ((tK t j).getD i (0, 0)).1 ∧ hI h (m + 24 + 7 * j + 4) i = nI ((tK t j).getD i (0, 0)).2 := fun i hi => ⟨E.k_mf j hj i hi, E.k_mr j hj i hi⟩
theorem noK (B : TB t) {z w u v : Int32} (hz : ¬ inN z (tN t 0 4)) : ¬ inK t z w u v := fun ⟨j, g, h1, h2, _⟩ => hz ⟨j, h1, h2⟩
theorem c_X5_kept (E : RX x m t e h) (B : TB t) (H : Ext t e) (z w u y : Int32) : MA G mX5_kept 2 0 0 [.ref x, .int z, .int w, .int u, .int y] h (Oi (fun v h' => v = spKept_ t z w u y ∧ h' = h)) := by
  have b := B.S
  have b8 := B.marks
  refine MA.intro (lv := [some (.ref x), some (.int z), some (.int w), some (.int u), some (.int y), none, none]) (by decide) (Nat.le_of_ble_eq_true rfl) rfl (fun F C => ?_)
  by_cases hz : inN z (tN t 0 4)
  · obtain ⟨j, hj, rfl⟩ := id hz
    have L := E.L.M hj
    have K := E.k_mo j hj
    have bk := B.klen j
    by_cases hc : inK t (nI j) w u y
    · obtain ⟨j', g, f, q, h1, h2, h3, h4, h5, rfl, rfl, rfl⟩ := inK_n B hc
      have e0 : spKept_ t (nI j) (nI g) (nI f) (nI q) = nI ((tK t j).countP (fun p => decide (p.1 = 16 * g + 4 * f + q))) := (cif_t hc).trans (by rw [cl (by omega), cl (by omega), cl (by omega), cl (by omega)])
      refine r_aload_n (pc := 0) C dX5_kept_0 rfl rfl ?_
      refine r_iload_n (pc := 1) C dX5_kept_1 rfl rfl ?_
      refine r_callq (cr_V (pc := 2) C (c_X5_markAt E B _) dX5_kept_2 cm_X5_markAt ml_X5_124 im_X5_markAt se_X5_markAt E.L.o rfl ⟨⟨Nat.le_of_ble_eq_true rfl, Nat.le_of_ble_eq_true rfl⟩, Nat.le_of_ble_eq_true rfl, Nat.le_of_ble_eq_true rfl⟩ rfl rfl (Nat.le_of_ble_eq_true rfl)) (fun v2 h2 hq2 => ?_)
      obtain ⟨rfl, rfl⟩ := hq2
      rw [mkA_n B hj]
      refine r_astore (pc := 5) (lv' := [_, _, _, _, _, _, _]) C dX5_kept_5 (by decide) rfl rfl ?_
      refine r_aload_n (pc := 7) C dX5_kept_7 rfl rfl ?_
      refine r_aload (pc := 8) C dX5_kept_8 rfl ?_
      refine r_iload_n (pc := 10) C dX5_kept_10 rfl rfl ?_
      refine r_iload_n (pc := 11) C dX5_kept_11 rfl rfl ?_
      refine r_iload (pc := 12) C dX5_kept_12 rfl ?_
      refine r_calli (cr_V (pc := 14) C (c_X5_keptChannel E B H hj _ _ _) dX5_kept_14 cm_X5_keptChannel ml_X5_224 im_X5_keptChannel se_X5_keptChannel E.L.o rfl ⟨⟨Nat.le_of_ble_eq_true rfl, Nat.le_of_ble_eq_true rfl⟩, Nat.le_of_ble_eq_true rfl, Nat.le_of_ble_eq_true rfl⟩ rfl rfl (Nat.le_of_ble_eq_true rfl)) (fun v14 h14 hq14 => ?_)
      obtain ⟨rfl, rfl⟩ := hq14
      rw [cif_t hc, cl (by omega), cl (by omega), cl (by omega)]
      refine r_istore (pc := 17) (lv' := [_, _, _, _, _, _, _]) C dX5_kept_17 (by decide) rfl rfl ?_
      refine r_aload (pc := 19) C dX5_kept_19 rfl ?_
      refine r_ifnull (pc := 21) C dX5_kept_21 ?_
      refine r_iload (pc := 24) C dX5_kept_24 rfl ?_
      refine r_iconst (pc := 26) (v := (-1)) C dX5_kept_26 (by decide) ?_
      refine r_icmp_ne (pc := 27) (tgt := 35) C dX5_kept_27 (by decide) (fun c27 => ?_) (fun c27 => absurd c27 (fun q => nI_m1 (by omega) q))
      refine r_aload (pc := 35) C dX5_kept_35 rfl ?_
      refine r_iload (pc := 37) C dX5_kept_37 rfl ?_
      refine r_calli (cr_V (pc := 39) C (c_X2_rowsFor L K.2.1 bk (by omega) (fun i hi => (E.kc hj i hi).1) (fun p hp => by have := (B.krow hp).1; omega)) dX5_kept_39 cm_X2_rowsFor ml_X5_228 im_X2_rowsFor se_X2_rowsFor L.1 rfl ⟨⟨Nat.le_of_ble_eq_true rfl, Nat.le_of_ble_eq_true rfl⟩, Nat.le_of_ble_eq_true rfl, Nat.le_of_ble_eq_true rfl⟩ rfl rfl (Nat.le_of_ble_eq_true rfl)) (fun v39 h39 hq39 => ?_)
      obtain ⟨rfl, rfl⟩ := hq39
      exact r_iret (pc := 42) C rfl (Nat.le_of_ble_eq_true rfl) (Nat.le_of_ble_eq_true rfl) ⟨_, rfl, ⟨e0.symm, rfl⟩⟩ dX5_kept_42
    · have e0 : spKept_ t (nI j) w u y = -101 := cif_f hc
      refine r_aload_n (pc := 0) C dX5_kept_0 rfl rfl ?_
      refine r_iload_n (pc := 1) C dX5_kept_1 rfl rfl ?_
      refine r_callq (cr_V (pc := 2) C (c_X5_markAt E B _) dX5_kept_2 cm_X5_markAt ml_X5_124 im_X5_markAt se_X5_markAt E.L.o rfl ⟨⟨Nat.le_of_ble_eq_true rfl, Nat.le_of_ble_eq_true rfl⟩, Nat.le_of_ble_eq_true rfl, Nat.le_of_ble_eq_true rfl⟩ rfl rfl (Nat.le_of_ble_eq_true rfl)) (fun v2 h2 hq2 => ?_)
      obtain ⟨rfl, rfl⟩ := hq2
      rw [mkA_n B hj]
      refine r_astore (pc := 5) (lv' := [_, _, _, _, _, _, _]) C dX5_kept_5 (by decide) rfl rfl ?_
      refine r_aload_n (pc := 7) C dX5_kept_7 rfl rfl ?_
      refine r_aload (pc := 8) C dX5_kept_8 rfl ?_
      refine r_iload_n (pc := 10) C dX5_kept_10 rfl rfl ?_
      refine r_iload_n (pc := 11) C dX5_kept_11 rfl rfl ?_
      refine r_iload (pc := 12) C dX5_kept_12 rfl ?_
      refine r_calli (cr_V (pc := 14) C (c_X5_keptChannel E B H hj _ _ _) dX5_kept_14 cm_X5_keptChannel ml_X5_224 im_X5_keptChannel se_X5_keptChannel E.L.o rfl ⟨⟨Nat.le_of_ble_eq_true rfl, Nat.le_of_ble_eq_true rfl⟩, Nat.le_of_ble_eq_true rfl, Nat.le_of_ble_eq_true rfl⟩ rfl rfl (Nat.le_of_ble_eq_true rfl)) (fun v14 h14 hq14 => ?_)
      obtain ⟨rfl, rfl⟩ := hq14
      rw [cif_f hc]
      refine r_istore (pc := 17) (lv' := [_, _, _, _, _, _, _]) C dX5_kept_17 (by decide) rfl rfl ?_
      refine r_aload (pc := 19) C dX5_kept_19 rfl ?_
      refine r_ifnull (pc := 21) C dX5_kept_21 ?_
      refine r_iload (pc := 24) C dX5_kept_24 rfl ?_
      refine r_iconst (pc := 26) (v := (-1)) C dX5_kept_26 (by decide) ?_
      refine r_icmp_ne (pc := 27) (tgt := 35) C dX5_kept_27 (by decide) (fun c27 => absurd c27 (fun q => q rfl)) (fun c27 => ?_)
      refine r_bipush (pc := 30) (v := (-101)) C dX5_kept_30 (by decide) ?_
      refine r_goto (pc := 32) (tgt := 42) C dX5_kept_32 (by decide) ?_
      exact r_iret (pc := 42) C rfl (Nat.le_of_ble_eq_true rfl) (Nat.le_of_ble_eq_true rfl) ⟨_, rfl, ⟨e0.symm, rfl⟩⟩ dX5_kept_42
  · have e0 : spKept_ t z w u y = -101 := cif_f (noK B hz)
    refine r_aload_n (pc := 0) C dX5_kept_0 rfl rfl ?_
    refine r_iload_n (pc := 1) C dX5_kept_1 rfl rfl ?_
    refine r_callq (cr_V (pc := 2) C (c_X5_markAt E B _) dX5_kept_2 cm_X5_markAt ml_X5_124 im_X5_markAt se_X5_markAt E.L.o rfl ⟨⟨Nat.le_of_ble_eq_true rfl, Nat.le_of_ble_eq_true rfl⟩, Nat.le_of_ble_eq_true rfl, Nat.le_of_ble_eq_true rfl⟩ rfl rfl (Nat.le_of_ble_eq_true rfl)) (fun v2 h2 hq2 => ?_)
    obtain ⟨rfl, rfl⟩ := hq2
    rw [show mkA t m z = none from cif_f hz]
    refine r_astoreN (pc := 5) (lv' := [_, _, _, _, _, _, _]) C dX5_kept_5 (by decide) rfl rfl ?_
    refine r_aload_n (pc := 7) C dX5_kept_7 rfl rfl ?_
    refine r_aloadN (pc := 8) C dX5_kept_8 rfl ?_
    refine r_iload_n (pc := 10) C dX5_kept_10 rfl rfl ?_
    refine r_iload_n (pc := 11) C dX5_kept_11 rfl rfl ?_
    refine r_iload (pc := 12) C dX5_kept_12 rfl ?_
    refine r_calli (cr_V (pc := 14) C (c_X5_keptChannelN _ _ _ _) dX5_kept_14 cm_X5_keptChannel ml_X5_224 im_X5_keptChannel se_X5_keptChannel E.L.o rfl ⟨⟨Nat.le_of_ble_eq_true rfl, Nat.le_of_ble_eq_true rfl⟩, Nat.le_of_ble_eq_true rfl, Nat.le_of_ble_eq_true rfl⟩ rfl rfl (Nat.le_of_ble_eq_true rfl)) (fun v14 h14 hq14 => ?_)
    obtain ⟨rfl, rfl⟩ := hq14
    refine r_istore (pc := 17) (lv' := [_, _, _, _, _, _, _]) C dX5_kept_17 (by decide) rfl rfl ?_
    refine r_aloadN (pc := 19) C dX5_kept_19 rfl ?_
    refine r_ifnullN (pc := 21) (tgt := 30) C dX5_kept_21 (by decide) ?_
    refine r_bipush (pc := 30) (v := (-101)) C dX5_kept_30 (by decide) ?_
    refine r_goto (pc := 32) (tgt := 42) C dX5_kept_32 (by decide) ?_
    exact r_iret (pc := 42) C rfl (Nat.le_of_ble_eq_true rfl) (Nat.le_of_ble_eq_true rfl) ⟨_, rfl, ⟨e0.symm, rfl⟩⟩ dX5_kept_42
theorem keyI_o (B : TB t) {l : List (Nat × Nat)} {c : Nat} {y : Int32} (hl : ∀ p ∈ l, p.2 < tN t 0 3) : keyI t (oI (kAtI l c y)) = match kAtI l c y with | some r => nI (tN t 2 r) | none => -1 := by
  cases hk : kAtI l c y with
  | none => exact keyI_m1 B
  | some r =>
    refine keyI_n ?_ B.fed
    unfold kAtI at hk
    by_cases hy : y < 0
    · rw [cif_t hy] at hk; cases hk
    · rw [cif_f hy] at hk; exact hl _ (kAt_mem _ _ hk)
theorem valI_o (B : TB t) {l : List (Nat × Nat)} {c : Nat} {y : Int32} (hl : ∀ p ∈ l, p.2 < tN t 0 3) : valI t (oI (kAtI l c y)) = match kAtI l c y with | some r => tL t 0 r | none => 0 := by
  cases hk : kAtI l c y with
  | none => exact valI_m1 B
  | some r =>
    refine valI_n ?_ B.fed
    unfold kAtI at hk
    by_cases hy : y < 0
    · rw [cif_t hy] at hk; cases hk
    · rw [cif_f hy] at hk; exact hl _ (kAt_mem _ _ hk)
theorem c_X5_keptKey (E : RX x m t e h) (B : TB t) (H : Ext t e) (z w u y i : Int32) : MA G mX5_keptKey 2 0 0 [.ref x, .int z, .int w, .int u, .int y, .int i] h (Oi (fun v h' => v = spKKey t z w u y i ∧ h' = h)) := by
  have b := B.S
  have b8 := B.marks
  have bf := B.fed
  refine MA.intro (lv := [some (.ref x), some (.int z), some (.int w), some (.int u), some (.int y), some (.int i), none, none]) (by decide) (Nat.le_of_ble_eq_true rfl) rfl (fun F C => ?_)
  by_cases hz : inN z (tN t 0 4)
  · obtain ⟨j, hj, rfl⟩ := id hz
    have L := E.L.M hj
    have K := E.k_mo j hj
    have bk := B.klen j
    by_cases hc : inK t (nI j) w u y
    · obtain ⟨j', g, f, q, h1, h2, h3, h4, h5, rfl, rfl, rfl⟩ := inK_n B hc
      have e0 : spKKey t (nI j) (nI g) (nI f) (nI q) i = keyI t (oI (kAtI (tK t j) (16 * g + 4 * f + q) i)) := (cif_t hc).trans (by rw [cl (by omega), cl (by omega), cl (by omega), cl (by omega), keyI_o B (fun p hp => (B.krow hp).2)]; rfl)
      refine r_aload_n (pc := 0) C dX5_keptKey_0 rfl rfl ?_
      refine r_iload_n (pc := 1) C dX5_keptKey_1 rfl rfl ?_
      refine r_callq (cr_V (pc := 2) C (c_X5_markAt E B _) dX5_keptKey_2 cm_X5_markAt ml_X5_124 im_X5_markAt se_X5_markAt E.L.o rfl ⟨⟨Nat.le_of_ble_eq_true rfl, Nat.le_of_ble_eq_true rfl⟩, Nat.le_of_ble_eq_true rfl, Nat.le_of_ble_eq_true rfl⟩ rfl rfl (Nat.le_of_ble_eq_true rfl)) (fun v2 h2 hq2 => ?_)
      obtain ⟨rfl, rfl⟩ := hq2
      rw [mkA_n B hj]
      refine r_astore (pc := 5) (lv' := [_, _, _, _, _, _, _, _]) C dX5_keptKey_5 (by decide) rfl rfl ?_
      refine r_aload_n (pc := 7) C dX5_keptKey_7 rfl rfl ?_
      refine r_aload (pc := 8) C dX5_keptKey_8 rfl ?_
      refine r_iload_n (pc := 10) C dX5_keptKey_10 rfl rfl ?_
      refine r_iload_n (pc := 11) C dX5_keptKey_11 rfl rfl ?_
      refine r_iload (pc := 12) C dX5_keptKey_12 rfl ?_
      refine r_calli (cr_V (pc := 14) C (c_X5_keptChannel E B H hj _ _ _) dX5_keptKey_14 cm_X5_keptChannel ml_X5_224 im_X5_keptChannel se_X5_keptChannel E.L.o rfl ⟨⟨Nat.le_of_ble_eq_true rfl, Nat.le_of_ble_eq_true rfl⟩, Nat.le_of_ble_eq_true rfl, Nat.le_of_ble_eq_true rfl⟩ rfl rfl (Nat.le_of_ble_eq_true rfl)) (fun v14 h14 hq14 => ?_)
      obtain ⟨rfl, rfl⟩ := hq14
      rw [cif_t hc, cl (by omega), cl (by omega), cl (by omega)]
      refine r_istore (pc := 17) (lv' := [_, _, _, _, _, _, _, _]) C dX5_keptKey_17 (by decide) rfl rfl ?_
      refine r_aload (pc := 19) C dX5_keptKey_19 rfl ?_
      refine r_ifnull (pc := 21) C dX5_keptKey_21 ?_
      refine r_iload (pc := 24) C dX5_keptKey_24 rfl ?_
      refine r_iconst (pc := 26) (v := (-1)) C dX5_keptKey_26 (by decide) ?_
      refine r_icmp_ne (pc := 27) (tgt := 35) C dX5_keptKey_27 (by decide) (fun c27 => ?_) (fun c27 => absurd c27 (fun q => nI_m1 (by omega) q))
      refine r_aload_n (pc := 35) C dX5_keptKey_35 rfl rfl ?_
      refine r_getR (pc := 36) C fl_X5_16 E.L.o rfl E.L.r2 dX5_keptKey_36 ?_
      refine r_aload (pc := 39) C dX5_keptKey_39 rfl ?_
      refine r_iload (pc := 41) C dX5_keptKey_41 rfl ?_
      refine r_iload (pc := 43) C dX5_keptKey_43 rfl ?_
      refine r_calli (cr_V (pc := 45) C (c_X2_rowFor L K.2.1 bk (by omega) (E.kc hj) (fun p hp => by have := (B.krow hp).1; omega) _) dX5_keptKey_45 cm_X2_rowFor ml_X5_231 im_X2_rowFor se_X2_rowFor L.1 rfl ⟨⟨Nat.le_of_ble_eq_true rfl, Nat.le_of_ble_eq_true rfl⟩, Nat.le_of_ble_eq_true rfl, Nat.le_of_ble_eq_true rfl⟩ rfl rfl (Nat.le_of_ble_eq_true rfl)) (fun v45 h45 hq45 => ?_)
      obtain ⟨rfl, rfl⟩ := hq45
      refine r_calli (cr_V (pc := 48) C (c_X1_keyOf E.L.I E.K1 bf _) dX5_keptKey_48 cm_X1_keyOf ml_X5_204 im_X1_keyOf se_X1_keyOf E.L.I.1 rfl ⟨⟨Nat.le_of_ble_eq_true rfl, Nat.le_of_ble_eq_true rfl⟩, Nat.le_of_ble_eq_true rfl, Nat.le_of_ble_eq_true rfl⟩ rfl rfl (Nat.le_of_ble_eq_true rfl)) (fun v48 h48 hq48 => ?_)
      obtain ⟨rfl, rfl⟩ := hq48
      exact r_iret (pc := 51) C rfl (Nat.le_of_ble_eq_true rfl) (Nat.le_of_ble_eq_true rfl) ⟨_, rfl, ⟨e0.symm, rfl⟩⟩ dX5_keptKey_51
    · have e0 : spKKey t (nI j) w u y i = -101 := cif_f hc
      refine r_aload_n (pc := 0) C dX5_keptKey_0 rfl rfl ?_
      refine r_iload_n (pc := 1) C dX5_keptKey_1 rfl rfl ?_
      refine r_callq (cr_V (pc := 2) C (c_X5_markAt E B _) dX5_keptKey_2 cm_X5_markAt ml_X5_124 im_X5_markAt se_X5_markAt E.L.o rfl ⟨⟨Nat.le_of_ble_eq_true rfl, Nat.le_of_ble_eq_true rfl⟩, Nat.le_of_ble_eq_true rfl, Nat.le_of_ble_eq_true rfl⟩ rfl rfl (Nat.le_of_ble_eq_true rfl)) (fun v2 h2 hq2 => ?_)
      obtain ⟨rfl, rfl⟩ := hq2
      rw [mkA_n B hj]
      refine r_astore (pc := 5) (lv' := [_, _, _, _, _, _, _, _]) C dX5_keptKey_5 (by decide) rfl rfl ?_
      refine r_aload_n (pc := 7) C dX5_keptKey_7 rfl rfl ?_
      refine r_aload (pc := 8) C dX5_keptKey_8 rfl ?_
      refine r_iload_n (pc := 10) C dX5_keptKey_10 rfl rfl ?_
      refine r_iload_n (pc := 11) C dX5_keptKey_11 rfl rfl ?_
      refine r_iload (pc := 12) C dX5_keptKey_12 rfl ?_
      refine r_calli (cr_V (pc := 14) C (c_X5_keptChannel E B H hj _ _ _) dX5_keptKey_14 cm_X5_keptChannel ml_X5_224 im_X5_keptChannel se_X5_keptChannel E.L.o rfl ⟨⟨Nat.le_of_ble_eq_true rfl, Nat.le_of_ble_eq_true rfl⟩, Nat.le_of_ble_eq_true rfl, Nat.le_of_ble_eq_true rfl⟩ rfl rfl (Nat.le_of_ble_eq_true rfl)) (fun v14 h14 hq14 => ?_)
      obtain ⟨rfl, rfl⟩ := hq14
      rw [cif_f hc]
      refine r_istore (pc := 17) (lv' := [_, _, _, _, _, _, _, _]) C dX5_keptKey_17 (by decide) rfl rfl ?_
      refine r_aload (pc := 19) C dX5_keptKey_19 rfl ?_
      refine r_ifnull (pc := 21) C dX5_keptKey_21 ?_
      refine r_iload (pc := 24) C dX5_keptKey_24 rfl ?_
      refine r_iconst (pc := 26) (v := (-1)) C dX5_keptKey_26 (by decide) ?_
      refine r_icmp_ne (pc := 27) (tgt := 35) C dX5_keptKey_27 (by decide) (fun c27 => absurd c27 (fun q => q rfl)) (fun c27 => ?_)
      refine r_bipush (pc := 30) (v := (-101)) C dX5_keptKey_30 (by decide) ?_
      refine r_goto (pc := 32) (tgt := 51) C dX5_keptKey_32 (by decide) ?_
      exact r_iret (pc := 51) C rfl (Nat.le_of_ble_eq_true rfl) (Nat.le_of_ble_eq_true rfl) ⟨_, rfl, ⟨e0.symm, rfl⟩⟩ dX5_keptKey_51
  · have e0 : spKKey t z w u y i = -101 := cif_f (noK B hz)
    refine r_aload_n (pc := 0) C dX5_keptKey_0 rfl rfl ?_
    refine r_iload_n (pc := 1) C dX5_keptKey_1 rfl rfl ?_
    refine r_callq (cr_V (pc := 2) C (c_X5_markAt E B _) dX5_keptKey_2 cm_X5_markAt ml_X5_124 im_X5_markAt se_X5_markAt E.L.o rfl ⟨⟨Nat.le_of_ble_eq_true rfl, Nat.le_of_ble_eq_true rfl⟩, Nat.le_of_ble_eq_true rfl, Nat.le_of_ble_eq_true rfl⟩ rfl rfl (Nat.le_of_ble_eq_true rfl)) (fun v2 h2 hq2 => ?_)
    obtain ⟨rfl, rfl⟩ := hq2
    rw [show mkA t m z = none from cif_f hz]
    refine r_astoreN (pc := 5) (lv' := [_, _, _, _, _, _, _, _]) C dX5_keptKey_5 (by decide) rfl rfl ?_
    refine r_aload_n (pc := 7) C dX5_keptKey_7 rfl rfl ?_
    refine r_aloadN (pc := 8) C dX5_keptKey_8 rfl ?_
    refine r_iload_n (pc := 10) C dX5_keptKey_10 rfl rfl ?_
    refine r_iload_n (pc := 11) C dX5_keptKey_11 rfl rfl ?_
    refine r_iload (pc := 12) C dX5_keptKey_12 rfl ?_
    refine r_calli (cr_V (pc := 14) C (c_X5_keptChannelN _ _ _ _) dX5_keptKey_14 cm_X5_keptChannel ml_X5_224 im_X5_keptChannel se_X5_keptChannel E.L.o rfl ⟨⟨Nat.le_of_ble_eq_true rfl, Nat.le_of_ble_eq_true rfl⟩, Nat.le_of_ble_eq_true rfl, Nat.le_of_ble_eq_true rfl⟩ rfl rfl (Nat.le_of_ble_eq_true rfl)) (fun v14 h14 hq14 => ?_)
    obtain ⟨rfl, rfl⟩ := hq14
    refine r_istore (pc := 17) (lv' := [_, _, _, _, _, _, _, _]) C dX5_keptKey_17 (by decide) rfl rfl ?_
    refine r_aloadN (pc := 19) C dX5_keptKey_19 rfl ?_
    refine r_ifnullN (pc := 21) (tgt := 30) C dX5_keptKey_21 (by decide) ?_
    refine r_bipush (pc := 30) (v := (-101)) C dX5_keptKey_30 (by decide) ?_
    refine r_goto (pc := 32) (tgt := 51) C dX5_keptKey_32 (by decide) ?_
    exact r_iret (pc := 51) C rfl (Nat.le_of_ble_eq_true rfl) (Nat.le_of_ble_eq_true rfl) ⟨_, rfl, ⟨e0.symm, rfl⟩⟩ dX5_keptKey_51
theorem c_X5_keptValue (E : RX x m t e h) (B : TB t) (H : Ext t e) (z w u y i : Int32) : MA G mX5_keptValue 2 0 0 [.ref x, .int z, .int w, .int u, .int y, .int i] h (Ol (fun v h' => v = spKVal t z w u y i ∧ h' = h)) := by
  have b := B.S
  have b8 := B.marks
  have bf := B.fed
  refine MA.intro (lv := [some (.ref x), some (.int z), some (.int w), some (.int u), some (.int y), some (.int i), none, none]) (by decide) (Nat.le_of_ble_eq_true rfl) rfl (fun F C => ?_)
  by_cases hz : inN z (tN t 0 4)
  · obtain ⟨j, hj, rfl⟩ := id hz
    have L := E.L.M hj
    have K := E.k_mo j hj
    have bk := B.klen j
    by_cases hc : inK t (nI j) w u y
    · obtain ⟨j', g, f, q, h1, h2, h3, h4, h5, rfl, rfl, rfl⟩ := inK_n B hc
      have e0 : spKVal t (nI j) (nI g) (nI f) (nI q) i = valI t (oI (kAtI (tK t j) (16 * g + 4 * f + q) i)) := (cif_t hc).trans (by rw [cl (by omega), cl (by omega), cl (by omega), cl (by omega), valI_o B (fun p hp => (B.krow hp).2)]; rfl)
      refine r_aload_n (pc := 0) C dX5_keptValue_0 rfl rfl ?_
      refine r_iload_n (pc := 1) C dX5_keptValue_1 rfl rfl ?_
      refine r_callq (cr_V (pc := 2) C (c_X5_markAt E B _) dX5_keptValue_2 cm_X5_markAt ml_X5_124 im_X5_markAt se_X5_markAt E.L.o rfl ⟨⟨Nat.le_of_ble_eq_true rfl, Nat.le_of_ble_eq_true rfl⟩, Nat.le_of_ble_eq_true rfl, Nat.le_of_ble_eq_true rfl⟩ rfl rfl (Nat.le_of_ble_eq_true rfl)) (fun v2 h2 hq2 => ?_)
      obtain ⟨rfl, rfl⟩ := hq2
      rw [mkA_n B hj]
      refine r_astore (pc := 5) (lv' := [_, _, _, _, _, _, _, _]) C dX5_keptValue_5 (by decide) rfl rfl ?_
      refine r_aload_n (pc := 7) C dX5_keptValue_7 rfl rfl ?_
      refine r_aload (pc := 8) C dX5_keptValue_8 rfl ?_
      refine r_iload_n (pc := 10) C dX5_keptValue_10 rfl rfl ?_
      refine r_iload_n (pc := 11) C dX5_keptValue_11 rfl rfl ?_
      refine r_iload (pc := 12) C dX5_keptValue_12 rfl ?_
      refine r_calli (cr_V (pc := 14) C (c_X5_keptChannel E B H hj _ _ _) dX5_keptValue_14 cm_X5_keptChannel ml_X5_224 im_X5_keptChannel se_X5_keptChannel E.L.o rfl ⟨⟨Nat.le_of_ble_eq_true rfl, Nat.le_of_ble_eq_true rfl⟩, Nat.le_of_ble_eq_true rfl, Nat.le_of_ble_eq_true rfl⟩ rfl rfl (Nat.le_of_ble_eq_true rfl)) (fun v14 h14 hq14 => ?_)
      obtain ⟨rfl, rfl⟩ := hq14
      rw [cif_t hc, cl (by omega), cl (by omega), cl (by omega)]
      refine r_istore (pc := 17) (lv' := [_, _, _, _, _, _, _, _]) C dX5_keptValue_17 (by decide) rfl rfl ?_
      refine r_aload (pc := 19) C dX5_keptValue_19 rfl ?_
      refine r_ifnull (pc := 21) C dX5_keptValue_21 ?_
      refine r_iload (pc := 24) C dX5_keptValue_24 rfl ?_
      refine r_iconst (pc := 26) (v := (-1)) C dX5_keptValue_26 (by decide) ?_
      refine r_icmp_ne (pc := 27) (tgt := 34) C dX5_keptValue_27 (by decide) (fun c27 => ?_) (fun c27 => absurd c27 (fun q => nI_m1 (by omega) q))
      refine r_aload_n (pc := 34) C dX5_keptValue_34 rfl rfl ?_
      refine r_getR (pc := 35) C fl_X5_16 E.L.o rfl E.L.r2 dX5_keptValue_35 ?_
      refine r_aload (pc := 38) C dX5_keptValue_38 rfl ?_
      refine r_iload (pc := 40) C dX5_keptValue_40 rfl ?_
      refine r_iload (pc := 42) C dX5_keptValue_42 rfl ?_
      refine r_calli (cr_V (pc := 44) C (c_X2_rowFor L K.2.1 bk (by omega) (E.kc hj) (fun p hp => by have := (B.krow hp).1; omega) _) dX5_keptValue_44 cm_X2_rowFor ml_X5_231 im_X2_rowFor se_X2_rowFor L.1 rfl ⟨⟨Nat.le_of_ble_eq_true rfl, Nat.le_of_ble_eq_true rfl⟩, Nat.le_of_ble_eq_true rfl, Nat.le_of_ble_eq_true rfl⟩ rfl rfl (Nat.le_of_ble_eq_true rfl)) (fun v44 h44 hq44 => ?_)
      obtain ⟨rfl, rfl⟩ := hq44
      refine r_calll (cr_V (pc := 47) C (c_X1_valueOf E.L.I E.K1 bf _) dX5_keptValue_47 cm_X1_valueOf ml_X5_207 im_X1_valueOf se_X1_valueOf E.L.I.1 rfl ⟨⟨Nat.le_of_ble_eq_true rfl, Nat.le_of_ble_eq_true rfl⟩, Nat.le_of_ble_eq_true rfl, Nat.le_of_ble_eq_true rfl⟩ rfl rfl (Nat.le_of_ble_eq_true rfl)) (fun v47 h47 hq47 => ?_)
      obtain ⟨rfl, rfl⟩ := hq47
      exact r_lret (pc := 50) C rfl (Nat.le_of_ble_eq_true rfl) (Nat.le_of_ble_eq_true rfl) ⟨_, rfl, ⟨e0.symm, rfl⟩⟩ dX5_keptValue_50
    · have e0 : spKVal t (nI j) w u y i = 0 := cif_f hc
      refine r_aload_n (pc := 0) C dX5_keptValue_0 rfl rfl ?_
      refine r_iload_n (pc := 1) C dX5_keptValue_1 rfl rfl ?_
      refine r_callq (cr_V (pc := 2) C (c_X5_markAt E B _) dX5_keptValue_2 cm_X5_markAt ml_X5_124 im_X5_markAt se_X5_markAt E.L.o rfl ⟨⟨Nat.le_of_ble_eq_true rfl, Nat.le_of_ble_eq_true rfl⟩, Nat.le_of_ble_eq_true rfl, Nat.le_of_ble_eq_true rfl⟩ rfl rfl (Nat.le_of_ble_eq_true rfl)) (fun v2 h2 hq2 => ?_)
      obtain ⟨rfl, rfl⟩ := hq2
      rw [mkA_n B hj]
      refine r_astore (pc := 5) (lv' := [_, _, _, _, _, _, _, _]) C dX5_keptValue_5 (by decide) rfl rfl ?_
      refine r_aload_n (pc := 7) C dX5_keptValue_7 rfl rfl ?_
      refine r_aload (pc := 8) C dX5_keptValue_8 rfl ?_
      refine r_iload_n (pc := 10) C dX5_keptValue_10 rfl rfl ?_
      refine r_iload_n (pc := 11) C dX5_keptValue_11 rfl rfl ?_
      refine r_iload (pc := 12) C dX5_keptValue_12 rfl ?_
      refine r_calli (cr_V (pc := 14) C (c_X5_keptChannel E B H hj _ _ _) dX5_keptValue_14 cm_X5_keptChannel ml_X5_224 im_X5_keptChannel se_X5_keptChannel E.L.o rfl ⟨⟨Nat.le_of_ble_eq_true rfl, Nat.le_of_ble_eq_true rfl⟩, Nat.le_of_ble_eq_true rfl, Nat.le_of_ble_eq_true rfl⟩ rfl rfl (Nat.le_of_ble_eq_true rfl)) (fun v14 h14 hq14 => ?_)
      obtain ⟨rfl, rfl⟩ := hq14
      rw [cif_f hc]
      refine r_istore (pc := 17) (lv' := [_, _, _, _, _, _, _, _]) C dX5_keptValue_17 (by decide) rfl rfl ?_
      refine r_aload (pc := 19) C dX5_keptValue_19 rfl ?_
      refine r_ifnull (pc := 21) C dX5_keptValue_21 ?_
      refine r_iload (pc := 24) C dX5_keptValue_24 rfl ?_
      refine r_iconst (pc := 26) (v := (-1)) C dX5_keptValue_26 (by decide) ?_
      refine r_icmp_ne (pc := 27) (tgt := 34) C dX5_keptValue_27 (by decide) (fun c27 => absurd c27 (fun q => q rfl)) (fun c27 => ?_)
      refine r_lconst (pc := 30) (v := 0) C dX5_keptValue_30 (by decide) ?_
      refine r_goto (pc := 31) (tgt := 50) C dX5_keptValue_31 (by decide) ?_
      exact r_lret (pc := 50) C rfl (Nat.le_of_ble_eq_true rfl) (Nat.le_of_ble_eq_true rfl) ⟨_, rfl, ⟨e0.symm, rfl⟩⟩ dX5_keptValue_50
  · have e0 : spKVal t z w u y i = 0 := cif_f (noK B hz)
    refine r_aload_n (pc := 0) C dX5_keptValue_0 rfl rfl ?_
    refine r_iload_n (pc := 1) C dX5_keptValue_1 rfl rfl ?_
    refine r_callq (cr_V (pc := 2) C (c_X5_markAt E B _) dX5_keptValue_2 cm_X5_markAt ml_X5_124 im_X5_markAt se_X5_markAt E.L.o rfl ⟨⟨Nat.le_of_ble_eq_true rfl, Nat.le_of_ble_eq_true rfl⟩, Nat.le_of_ble_eq_true rfl, Nat.le_of_ble_eq_true rfl⟩ rfl rfl (Nat.le_of_ble_eq_true rfl)) (fun v2 h2 hq2 => ?_)
    obtain ⟨rfl, rfl⟩ := hq2
    rw [show mkA t m z = none from cif_f hz]
    refine r_astoreN (pc := 5) (lv' := [_, _, _, _, _, _, _, _]) C dX5_keptValue_5 (by decide) rfl rfl ?_
    refine r_aload_n (pc := 7) C dX5_keptValue_7 rfl rfl ?_
    refine r_aloadN (pc := 8) C dX5_keptValue_8 rfl ?_
    refine r_iload_n (pc := 10) C dX5_keptValue_10 rfl rfl ?_
    refine r_iload_n (pc := 11) C dX5_keptValue_11 rfl rfl ?_
    refine r_iload (pc := 12) C dX5_keptValue_12 rfl ?_
    refine r_calli (cr_V (pc := 14) C (c_X5_keptChannelN _ _ _ _) dX5_keptValue_14 cm_X5_keptChannel ml_X5_224 im_X5_keptChannel se_X5_keptChannel E.L.o rfl ⟨⟨Nat.le_of_ble_eq_true rfl, Nat.le_of_ble_eq_true rfl⟩, Nat.le_of_ble_eq_true rfl, Nat.le_of_ble_eq_true rfl⟩ rfl rfl (Nat.le_of_ble_eq_true rfl)) (fun v14 h14 hq14 => ?_)
    obtain ⟨rfl, rfl⟩ := hq14
    refine r_istore (pc := 17) (lv' := [_, _, _, _, _, _, _, _]) C dX5_keptValue_17 (by decide) rfl rfl ?_
    refine r_aloadN (pc := 19) C dX5_keptValue_19 rfl ?_
    refine r_ifnullN (pc := 21) (tgt := 30) C dX5_keptValue_21 (by decide) ?_
    refine r_lconst (pc := 30) (v := 0) C dX5_keptValue_30 (by decide) ?_
    refine r_goto (pc := 31) (tgt := 50) C dX5_keptValue_31 (by decide) ?_
    exact r_lret (pc := 50) C rfl (Nat.le_of_ble_eq_true rfl) (Nat.le_of_ble_eq_true rfl) ⟨_, rfl, ⟨e0.symm, rfl⟩⟩ dX5_keptValue_50
/-- MANY of stage 0, of the first n KEYS together -/
def msum (t : TS) : Nat → Nat
  | 0 => 0
  | n + 1 => msum t n + tN t 3 n
theorem rowsRead_l {F : FX} {Q : State → Prop} (C : CX G F mX5_rowsRead (Rm 3 0 0)) (E : RX x m t e h) (kk : ∀ x2, WA G F mX5_rowsRead h 0 0 Q 28 [some (.ref x), some (.int (nI (msum t 16))), some (.int x2)] []) :
    ∀ (n k : Nat), k + n = 16 → WA G F mX5_rowsRead h 0 0 Q 4 [some (.ref x), some (.int (nI (msum t k))), some (.int (nI k))] [] := by
  intro n
  induction n with
  | zero =>
    intro k hk
    obtain rfl : k = 16 := by omega
    refine r_iload_n (pc := 4) C dX5_rowsRead_4 rfl rfl ?_
    refine r_bipush (pc := 5) (v := (nI 16)) C dX5_rowsRead_5 (by decide) ?_
    refine n_icmp_ge (pc := 7) (tgt := 28) C (by omega) (by omega) dX5_rowsRead_7 (by decide) (fun c7 => ?_) (fun c7 => absurd c7 (by omega))
    exact kk _
  | succ n ih =>
    intro k hk
    have w := ih (k + 1) (by omega)
    rw [show msum t (k + 1) = msum t k + tN t 3 k from rfl] at w
    refine r_iload_n (pc := 4) C dX5_rowsRead_4 rfl rfl ?_
    refine r_bipush (pc := 5) (v := (nI 16)) C dX5_rowsRead_5 (by decide) ?_
    refine n_icmp_ge (pc := 7) (tgt := 28) C (by omega) (by omega) dX5_rowsRead_7 (by decide) (fun c7 => absurd c7 (by omega)) (fun c7 => ?_)
    refine r_iload_n (pc := 10) C dX5_rowsRead_10 rfl rfl ?_
    refine r_aload_n (pc := 11) C dX5_rowsRead_11 rfl rfl ?_
    refine r_getR (pc := 12) C fl_X5_23 E.L.o rfl E.L.r3 dX5_rowsRead_12 ?_
    refine r_iconst (pc := 15) (v := (nI 0)) C dX5_rowsRead_15 (by decide) ?_
    refine r_iload_n (pc := 16) C dX5_rowsRead_16 rfl rfl ?_
    refine r_calli (cr_V (pc := 17) C (c_X3_rowsOf E.L.T (s := 0) (k := k) (v := nI (tN t 3 k)) (by decide) (by omega) (by rw [Nat.mul_zero, Nat.zero_add]; exact E.k_many k (by omega))) dX5_rowsRead_17 cm_X3_rowsOf ml_X5_167 im_X3_rowsOf se_X3_rowsOf E.L.T.1 rfl ⟨⟨Nat.le_of_ble_eq_true rfl, Nat.le_of_ble_eq_true rfl⟩, Nat.le_of_ble_eq_true rfl, Nat.le_of_ble_eq_true rfl⟩ rfl rfl (Nat.le_of_ble_eq_true rfl)) (fun v17 h17 hq17 => ?_)
    obtain ⟨rfl, rfl⟩ := hq17
    refine n_iadd (pc := 20) C dX5_rowsRead_20 ?_
    refine r_istore_n (pc := 21) (lv' := [_, _, _]) C dX5_rowsRead_21 rfl (by decide) rfl rfl ?_
    refine n_iinc (pc := 22) (lv' := [_, _, _]) C dX5_rowsRead_22 rfl (by decide) rfl rfl ?_
    refine r_goto (pc := 25) (tgt := 4) C dX5_rowsRead_25 (by decide) ?_
    exact w
theorem c_X5_rowsRead (E : RX x m t e h) : MA G mX5_rowsRead 3 0 0 [.ref x] h (Oi (fun v h' => v = nI (msum t 16) ∧ h' = h)) := by
  refine MA.intro (lv := [some (.ref x), none, none]) (by decide) (Nat.le_of_ble_eq_true rfl) rfl (fun F C => ?_)
  refine r_iconst (pc := 0) (v := (nI 0)) C dX5_rowsRead_0 (by decide) ?_
  refine r_istore_n (pc := 1) (lv' := [_, _, _]) C dX5_rowsRead_1 rfl (by decide) rfl rfl ?_
  refine r_iconst (pc := 2) (v := (nI 0)) C dX5_rowsRead_2 (by decide) ?_
  refine r_istore_n (pc := 3) (lv' := [_, _, _]) C dX5_rowsRead_3 rfl (by decide) rfl rfl ?_
  refine rowsRead_l C E (fun x2 => ?_) 16 0 rfl
  refine r_iload_n (pc := 28) C dX5_rowsRead_28 rfl rfl ?_
  exact r_iret (pc := 29) C rfl (Nat.le_of_ble_eq_true rfl) (Nat.le_of_ble_eq_true rfl) ⟨_, rfl, ⟨rfl, rfl⟩⟩ dX5_rowsRead_29
theorem rowsIn_l {F : FX} {Q : State → Prop} (C : CX G F mX5_rowsInChannels (Rm 0 0 0)) (E : RX x m t e h) (B : TB t) (kk : ∀ x2, WA G F mX5_rowsInChannels h 0 0 Q 31 [some (.ref x), some (.int (nI (hsum t (16 * (tN t 0 0 - 1))))), some (.int x2)] []) :
    ∀ (n c : Nat), c + n = 16 * (tN t 0 0 - 1) → WA G F mX5_rowsInChannels h 0 0 Q 4 [some (.ref x), some (.int (nI (hsum t c))), some (.int (nI c))] [] := by
  have b := B.S
  intro n
  induction n with
  | zero =>
    intro c hc
    obtain rfl : c = 16 * (tN t 0 0 - 1) := by omega
    refine r_iload_n (pc := 4) C dX5_rowsInChannels_4 rfl rfl ?_
    refine r_aload_n (pc := 5) C dX5_rowsInChannels_5 rfl rfl ?_
    refine r_getR (pc := 6) C fl_X5_75 E.L.o rfl E.L.r4 dX5_rowsInChannels_6 ?_
    refine r_alen (pc := 9) C E.L.s4 (by decide) (by decide) dX5_rowsInChannels_9 ?_
    refine n_icmp_ge (pc := 10) (tgt := 31) C (by omega) (by omega) dX5_rowsInChannels_10 (by decide) (fun c10 => ?_) (fun c10 => absurd c10 (by omega))
    exact kk _
  | succ n ih =>
    intro c hc
    have w := ih (c + 1) (by omega)
    rw [show hsum t (c + 1) = hsum t c + (tC t c).length from rfl] at w
    have hcc : c < 16 * (tN t 0 0 - 1) := by omega
    refine r_iload_n (pc := 4) C dX5_rowsInChannels_4 rfl rfl ?_
    refine r_aload_n (pc := 5) C dX5_rowsInChannels_5 rfl rfl ?_
    refine r_getR (pc := 6) C fl_X5_75 E.L.o rfl E.L.r4 dX5_rowsInChannels_6 ?_
    refine r_alen (pc := 9) C E.L.s4 (by decide) (by decide) dX5_rowsInChannels_9 ?_
    refine n_icmp_ge (pc := 10) (tgt := 31) C (by omega) (by omega) dX5_rowsInChannels_10 (by decide) (fun c10 => absurd c10 (by omega)) (fun c10 => ?_)
    refine r_iload_n (pc := 13) C dX5_rowsInChannels_13 rfl rfl ?_
    refine r_aload_n (pc := 14) C dX5_rowsInChannels_14 rfl rfl ?_
    refine r_getR (pc := 15) C fl_X5_75 E.L.o rfl E.L.r4 dX5_rowsInChannels_15 ?_
    refine r_iload_n (pc := 18) C dX5_rowsInChannels_18 rfl rfl ?_
    refine n_aald (pc := 19) C E.L.s4 (by decide) (by omega) (E.L.ch hcc).1 dX5_rowsInChannels_19 ?_ (by omega)
    refine r_getIe (pc := 20) C fl_X5_189 (E.L.ch hcc).2.1 rfl (E.rows B hcc) dX5_rowsInChannels_20 ?_
    refine n_iadd (pc := 23) C dX5_rowsInChannels_23 ?_
    refine r_istore_n (pc := 24) (lv' := [_, _, _]) C dX5_rowsInChannels_24 rfl (by decide) rfl rfl ?_
    refine n_iinc (pc := 25) (lv' := [_, _, _]) C dX5_rowsInChannels_25 rfl (by decide) rfl rfl ?_
    refine r_goto (pc := 28) (tgt := 4) C dX5_rowsInChannels_28 (by decide) ?_
    exact w
theorem c_X5_rowsInChannels (E : RX x m t e h) (B : TB t) : MA G mX5_rowsInChannels 0 0 0 [.ref x] h (Oi (fun v h' => v = nI (hsum t (16 * (tN t 0 0 - 1))) ∧ h' = h)) := by
  refine MA.intro (lv := [some (.ref x), none, none]) (by decide) (Nat.le_of_ble_eq_true rfl) rfl (fun F C => ?_)
  refine r_iconst (pc := 0) (v := (nI 0)) C dX5_rowsInChannels_0 (by decide) ?_
  refine r_istore_n (pc := 1) (lv' := [_, _, _]) C dX5_rowsInChannels_1 rfl (by decide) rfl rfl ?_
  refine r_iconst (pc := 2) (v := (nI 0)) C dX5_rowsInChannels_2 (by decide) ?_
  refine r_istore_n (pc := 3) (lv' := [_, _, _]) C dX5_rowsInChannels_3 rfl (by decide) rfl rfl ?_
  refine rowsIn_l C E B (fun x2 => ?_) (16 * (tN t 0 0 - 1)) 0 (Nat.zero_add _)
  refine r_iload_n (pc := 31) C dX5_rowsInChannels_31 rfl rfl ?_
  exact r_iret (pc := 32) C rfl (Nat.le_of_ble_eq_true rfl) (Nat.le_of_ble_eq_true rfl) ⟨_, rfl, ⟨rfl, rfl⟩⟩ dX5_rowsInChannels_32
theorem c_X5_about (E : RX x m t e h) (B : TB t) (hrd : rdC t (tN t 0 3) = msum t 16) (hhs : hsum t (16 * (tN t 0 0 - 1)) = hsum t 48) (y : Int32) : MA G mX5_about 4 0 0 [.ref x, .int y] h (Oi (fun v h' => v = spAbout t y ∧ h' = h)) := by
  have b := B.S
  refine MA.intro (lv := [some (.ref x), some (.int y)]) (by decide) (Nat.le_of_ble_eq_true rfl) rfl (fun F C => ?_)
  by_cases hy : nI 10 ≤ y
  · obtain ⟨k, hk1, hk2, rfl⟩ := ge10 hy
    have e1 : spAbout t (nI k) = cif (nI 10 ≤ nI k ∧ inN (nI (k - 10)) (tN t 0 0)) (nI (tN t 1 (k - 10))) (-102) := by
      unfold spAbout
      rw [(sw_ge hy).2, sub10 hk1, cl (by omega)]
      rfl
    by_cases hs : k - 10 < tN t 0 0
    · rw [cif_t ⟨hy, inN_ok hs⟩] at e1
      refine r_iload_n (pc := 0) C dX5_about_0 rfl rfl ?_
      refine r_bipush (pc := 1) (v := (nI 10)) C dX5_about_1 (by decide) ?_
      refine n_icmp_lt (pc := 3) (tgt := 31) C (by omega) (by omega) dX5_about_3 (by decide) (fun c3 => absurd c3 (by omega)) (fun c3 => ?_)
      refine r_aload_n (pc := 6) C dX5_about_6 rfl rfl ?_
      refine r_iload_n (pc := 7) C dX5_about_7 rfl rfl ?_
      refine r_bipush (pc := 8) (v := (nI 10)) C dX5_about_8 (by decide) ?_
      refine n_isub (pc := 10) C (by omega) dX5_about_10 ?_
      refine r_calli (cr_V (pc := 11) C (c_X5_isStage E B _) dX5_about_11 cm_X5_isStage ml_X5_89 im_X5_isStage se_X5_isStage E.L.o rfl ⟨⟨Nat.le_of_ble_eq_true rfl, Nat.le_of_ble_eq_true rfl⟩, Nat.le_of_ble_eq_true rfl, Nat.le_of_ble_eq_true rfl⟩ rfl rfl (Nat.le_of_ble_eq_true rfl)) (fun v11 h11 hq11 => ?_)
      obtain ⟨rfl, rfl⟩ := hq11
      refine b_if_eq (pc := 14) (tgt := 28) C dX5_about_14 (by decide) (fun c14 => absurd c14 (fun q => q (inN_ok hs))) (fun c14 => ?_)
      refine r_aload_n (pc := 17) C dX5_about_17 rfl rfl ?_
      refine r_iload_n (pc := 18) C dX5_about_18 rfl rfl ?_
      refine r_bipush (pc := 19) (v := (nI 10)) C dX5_about_19 (by decide) ?_
      refine n_isub (pc := 21) C (by omega) dX5_about_21 ?_
      refine r_calli (cr_V (pc := 22) C (c_X5_widthOf E B _) dX5_about_22 cm_X5_widthOf ml_X5_110 im_X5_widthOf se_X5_widthOf E.L.o rfl ⟨⟨Nat.le_of_ble_eq_true rfl, Nat.le_of_ble_eq_true rfl⟩, Nat.le_of_ble_eq_true rfl, Nat.le_of_ble_eq_true rfl⟩ rfl rfl (Nat.le_of_ble_eq_true rfl)) (fun v22 h22 hq22 => ?_)
      obtain ⟨rfl, rfl⟩ := hq22
      refine r_goto (pc := 25) (tgt := 30) C dX5_about_25 (by decide) ?_
      exact r_iret (pc := 30) C rfl (Nat.le_of_ble_eq_true rfl) (Nat.le_of_ble_eq_true rfl) ⟨_, rfl, ⟨by rw [e1, wdI_n B hs], rfl⟩⟩ dX5_about_30
    · rw [cif_f (fun q => hs (inN_lt (by omega) (by omega) q.2))] at e1
      refine r_iload_n (pc := 0) C dX5_about_0 rfl rfl ?_
      refine r_bipush (pc := 1) (v := (nI 10)) C dX5_about_1 (by decide) ?_
      refine n_icmp_lt (pc := 3) (tgt := 31) C (by omega) (by omega) dX5_about_3 (by decide) (fun c3 => absurd c3 (by omega)) (fun c3 => ?_)
      refine r_aload_n (pc := 6) C dX5_about_6 rfl rfl ?_
      refine r_iload_n (pc := 7) C dX5_about_7 rfl rfl ?_
      refine r_bipush (pc := 8) (v := (nI 10)) C dX5_about_8 (by decide) ?_
      refine n_isub (pc := 10) C (by omega) dX5_about_10 ?_
      refine r_calli (cr_V (pc := 11) C (c_X5_isStage E B _) dX5_about_11 cm_X5_isStage ml_X5_89 im_X5_isStage se_X5_isStage E.L.o rfl ⟨⟨Nat.le_of_ble_eq_true rfl, Nat.le_of_ble_eq_true rfl⟩, Nat.le_of_ble_eq_true rfl, Nat.le_of_ble_eq_true rfl⟩ rfl rfl (Nat.le_of_ble_eq_true rfl)) (fun v11 h11 hq11 => ?_)
      obtain ⟨rfl, rfl⟩ := hq11
      refine b_if_eq (pc := 14) (tgt := 28) C dX5_about_14 (by decide) (fun c14 => ?_) (fun c14 => absurd c14 (fun q => hs (inN_lt (by omega) (by omega) q)))
      refine r_bipush (pc := 28) (v := (-102)) C dX5_about_28 (by decide) ?_
      exact r_iret (pc := 30) C rfl (Nat.le_of_ble_eq_true rfl) (Nat.le_of_ble_eq_true rfl) ⟨_, rfl, ⟨e1.symm, rfl⟩⟩ dX5_about_30
  · skip
    refine r_iload_n (pc := 0) C dX5_about_0 rfl rfl ?_
    refine r_bipush (pc := 1) (v := (nI 10)) C dX5_about_1 (by decide) ?_
    refine r_icmp_lt (pc := 3) (tgt := 31) C dX5_about_3 (by decide) (fun c3 => ?_) (fun c3 => absurd c3 (fun q => q (Int32.not_le.mp hy)))
    refine r_iload_n (pc := 31) C dX5_about_31 rfl rfl ?_
    rcases sw9 y with rfl | rfl | rfl | rfl | rfl | rfl | rfl | rfl | rfl | rfl | hsw32
    · refine r_tableIn (pc := 32) (tgt := 88) (off := 56) C dX5_about_32 (by decide) (by decide) (by decide) (by decide) ?_
      refine r_aload_n (pc := 88) C dX5_about_88 rfl rfl ?_
      refine r_getIe (pc := 89) C fl_X5_64 E.L.o rfl E.S dX5_about_89 ?_
      exact r_iret (pc := 92) C rfl (Nat.le_of_ble_eq_true rfl) (Nat.le_of_ble_eq_true rfl) ⟨_, rfl, ⟨rfl, rfl⟩⟩ dX5_about_92
    · refine r_tableIn (pc := 32) (tgt := 93) (off := 61) C dX5_about_32 (by decide) (by decide) (by decide) (by decide) ?_
      refine r_aload_n (pc := 93) C dX5_about_93 rfl rfl ?_
      refine r_getR (pc := 94) C fl_X5_16 E.L.o rfl E.L.r2 dX5_about_94 ?_
      refine r_getIe (pc := 97) C fl_X5_157 E.L.I.1 rfl E.k_fed dX5_about_97 ?_
      exact r_iret (pc := 100) C rfl (Nat.le_of_ble_eq_true rfl) (Nat.le_of_ble_eq_true rfl) ⟨_, rfl, ⟨rfl, rfl⟩⟩ dX5_about_100
    · refine r_tableIn (pc := 32) (tgt := 101) (off := 69) C dX5_about_32 (by decide) (by decide) (by decide) (by decide) ?_
      refine r_aload_n (pc := 101) C dX5_about_101 rfl rfl ?_
      refine r_calli (cr_V (pc := 102) C (c_X5_rowsRead E) dX5_about_102 cm_X5_rowsRead ml_X5_160 im_X5_rowsRead se_X5_rowsRead E.L.o rfl ⟨⟨Nat.le_of_ble_eq_true rfl, Nat.le_of_ble_eq_true rfl⟩, Nat.le_of_ble_eq_true rfl, Nat.le_of_ble_eq_true rfl⟩ rfl rfl (Nat.le_of_ble_eq_true rfl)) (fun v102 h102 hq102 => ?_)
      obtain ⟨rfl, rfl⟩ := hq102
      exact r_iret (pc := 105) C rfl (Nat.le_of_ble_eq_true rfl) (Nat.le_of_ble_eq_true rfl) ⟨_, rfl, ⟨by rw [← hrd]; rfl, rfl⟩⟩ dX5_about_105
    · refine r_tableIn (pc := 32) (tgt := 106) (off := 74) C dX5_about_32 (by decide) (by decide) (by decide) (by decide) ?_
      refine r_aload_n (pc := 106) C dX5_about_106 rfl rfl ?_
      refine r_getIe (pc := 107) C fl_X5_43 E.L.o rfl E.turns dX5_about_107 ?_
      exact r_iret (pc := 110) C rfl (Nat.le_of_ble_eq_true rfl) (Nat.le_of_ble_eq_true rfl) ⟨_, rfl, ⟨rfl, rfl⟩⟩ dX5_about_110
    · refine r_tableIn (pc := 32) (tgt := 111) (off := 79) C dX5_about_32 (by decide) (by decide) (by decide) (by decide) ?_
      refine r_aload_n (pc := 111) C dX5_about_111 rfl rfl ?_
      refine r_getIe (pc := 112) C fl_X5_36 E.L.o rfl E.marks dX5_about_112 ?_
      exact r_iret (pc := 115) C rfl (Nat.le_of_ble_eq_true rfl) (Nat.le_of_ble_eq_true rfl) ⟨_, rfl, ⟨rfl, rfl⟩⟩ dX5_about_115
    · refine r_tableIn (pc := 32) (tgt := 116) (off := 84) C dX5_about_32 (by decide) (by decide) (by decide) (by decide) ?_
      refine r_aload_n (pc := 116) C dX5_about_116 rfl rfl ?_
      refine r_getIe (pc := 117) C fl_X5_40 E.L.o rfl E.uw dX5_about_117 ?_
      exact r_iret (pc := 120) C rfl (Nat.le_of_ble_eq_true rfl) (Nat.le_of_ble_eq_true rfl) ⟨_, rfl, ⟨rfl, rfl⟩⟩ dX5_about_120
    · refine r_tableIn (pc := 32) (tgt := 121) (off := 89) C dX5_about_32 (by decide) (by decide) (by decide) (by decide) ?_
      refine r_aload_n (pc := 121) C dX5_about_121 rfl rfl ?_
      refine r_calli (cr_V (pc := 122) C (c_X5_rowsInChannels E B) dX5_about_122 cm_X5_rowsInChannels ml_X5_164 im_X5_rowsInChannels se_X5_rowsInChannels E.L.o rfl ⟨⟨Nat.le_of_ble_eq_true rfl, Nat.le_of_ble_eq_true rfl⟩, Nat.le_of_ble_eq_true rfl, Nat.le_of_ble_eq_true rfl⟩ rfl rfl (Nat.le_of_ble_eq_true rfl)) (fun v122 h122 hq122 => ?_)
      obtain ⟨rfl, rfl⟩ := hq122
      exact r_iret (pc := 125) C rfl (Nat.le_of_ble_eq_true rfl) (Nat.le_of_ble_eq_true rfl) ⟨_, rfl, ⟨by rw [hhs]; rfl, rfl⟩⟩ dX5_about_125
    · refine r_tableIn (pc := 32) (tgt := 126) (off := 94) C dX5_about_32 (by decide) (by decide) (by decide) (by decide) ?_
      refine r_aload_n (pc := 126) C dX5_about_126 rfl rfl ?_
      refine r_getIe (pc := 127) C fl_X5_46 E.L.o rfl E.cap dX5_about_127 ?_
      exact r_iret (pc := 130) C rfl (Nat.le_of_ble_eq_true rfl) (Nat.le_of_ble_eq_true rfl) ⟨_, rfl, ⟨rfl, rfl⟩⟩ dX5_about_130
    · refine r_tableIn (pc := 32) (tgt := 131) (off := 99) C dX5_about_32 (by decide) (by decide) (by decide) (by decide) ?_
      refine r_aload_n (pc := 131) C dX5_about_131 rfl rfl ?_
      refine r_getIe (pc := 132) C fl_X5_49 E.L.o rfl E.bnd dX5_about_132 ?_
      exact r_iret (pc := 135) C rfl (Nat.le_of_ble_eq_true rfl) (Nat.le_of_ble_eq_true rfl) ⟨_, rfl, ⟨rfl, rfl⟩⟩ dX5_about_135
    · refine r_tableIn (pc := 32) (tgt := 136) (off := 104) C dX5_about_32 (by decide) (by decide) (by decide) (by decide) ?_
      refine r_aload_n (pc := 136) C dX5_about_136 rfl rfl ?_
      refine r_getIe (pc := 137) C fl_X5_52 E.L.o rfl E.lim dX5_about_137 ?_
      exact r_iret (pc := 140) C rfl (Nat.le_of_ble_eq_true rfl) (Nat.le_of_ble_eq_true rfl) ⟨_, rfl, ⟨rfl, rfl⟩⟩ dX5_about_140
    · refine r_tableOut (pc := 32) (tgt := 141) C dX5_about_32 hsw32 (by decide) ?_
      refine r_bipush (pc := 141) (v := (-102)) C dX5_about_141 (by decide) ?_
      exact r_iret (pc := 143) C rfl (Nat.le_of_ble_eq_true rfl) (Nat.le_of_ble_eq_true rfl) ⟨_, rfl, ⟨by unfold spAbout; rw [swN_out hsw32]; exact (cif_f (fun q => hy q.1)).symm, rfl⟩⟩ dX5_about_143
theorem cnt_feed {k' k n : Nat} {v : Int64} : ∀ i, i ≤ n → cnt (uN (uL (uN t 2 n k) 0 n v) 0 3 (n + 1)) k' i = cnt t k' i := by
  intro i
  induction i with
  | zero => intro _; rfl
  | succ i ih =>
    intro hi
    unfold cnt
    rw [ih (by omega)]
    show _ + (if tN (uN t 2 n k) 2 i = k' then 1 else 0) = _
    have e : tN (uN t 2 n k) 2 i = tN t 2 i := by rw [tN_uN, if_neg (by omega)]
    rw [e]
theorem c_X5_feed (E : RX x m t e h) (B : TB t) (H : Ext t e) (hM : ∀ k, k < 16 → tN t 3 k ≤ cnt t k (tN t 0 3)) (z : Int32) (v : Int64) : MA G mX5_feed 2 0 0 [.ref x, .int z, .long v] h (Oi (XP x m h (spFeed t z v))) := by
  have b := E.L.b
  have bf := B.fed
  refine MA.intro (lv := [some (.ref x), some (.int z), some (.long v), none]) (by decide) (Nat.le_of_ble_eq_true rfl) rfl (fun F C => ?_)
  by_cases hz : inN z 16
  · obtain ⟨k, hk, rfl⟩ := id hz
    by_cases hf : tN t 0 3 = 200
    · have e0 : spFeed t (nI k) v = (-104, t) := (cif_t (kcl.mpr hz)).trans (cif_t hf)
      refine r_iload_n (pc := 0) C dX5_feed_0 rfl rfl ?_
      refine r_calli (cr_S (pc := 1) C (c_X5_isKey _ _) dX5_feed_1 cm_X5_isKey ml_X5_96 st_X5_isKey ⟨⟨Nat.le_of_ble_eq_true rfl, Nat.le_of_ble_eq_true rfl⟩, Nat.le_of_ble_eq_true rfl, Nat.le_of_ble_eq_true rfl⟩ rfl rfl (Nat.le_of_ble_eq_true rfl)) (fun v1 h1 hq1 => ?_)
      obtain ⟨rfl, rfl⟩ := hq1
      refine b_if_ne (pc := 4) (tgt := 10) C dX5_feed_4 (by decide) (fun c4 => ?_) (fun c4 => absurd c4 (fun q => q hz))
      refine r_aload_n (pc := 10) C dX5_feed_10 rfl rfl ?_
      refine r_getR (pc := 11) C fl_X5_16 E.L.o rfl E.L.r2 dX5_feed_11 ?_
      refine r_iload_n (pc := 14) C dX5_feed_14 rfl rfl ?_
      refine r_lload_n (pc := 15) C dX5_feed_15 rfl rfl ?_
      refine r_calli (cr_V (pc := 16) C (c_X1_appendF E.L.I E.k_fed hf) dX5_feed_16 cm_X1_append ml_X5_99 im_X1_append se_X1_append E.L.I.1 rfl ⟨⟨Nat.le_of_ble_eq_true rfl, Nat.le_of_ble_eq_true rfl⟩, Nat.le_of_ble_eq_true rfl, Nat.le_of_ble_eq_true rfl⟩ rfl rfl (Nat.le_of_ble_eq_true rfl)) (fun v16 h16 hq16 => ?_)
      obtain ⟨rfl, rfl⟩ := hq16
      exact r_iret (pc := 19) C rfl (Nat.le_of_ble_eq_true rfl) (Nat.le_of_ble_eq_true rfl) ⟨_, rfl, (xp e0 E H Fq.rf)⟩ dX5_feed_19
    · have e0 : spFeed t (nI k) v = (nI (tN t 0 3), uN (uL (uN t 2 (tN t 0 3) k) 0 (tN t 0 3) v) 0 3 (tN t 0 3 + 1)) := (cif_t (kcl.mpr hz)).trans ((cif_f hf).trans (by rw [cl (by omega)]))
      have hu := H.2.1 k
      have E1 := ((E.p_key (tN t 0 3) k).p_val (tN t 0 3) v).p_fed (tN t 0 3 + 1)
      have fq1 : Fq (Px m) h (pI (pL (pI h (x + 2 + 1) (tN t 0 3) (nI k)) (x + 2 + 2) (tN t 0 3) v) (x + 2) 3 (nI (tN t 0 3 + 1))) := ((Fq.rf.pI (Or.inl (by omega))).pL (Or.inl (by omega))).pI (Or.inl (by omega))
      obtain ⟨a1, a2, a3, a4, a5, a6, a7, a8⟩ := H
      have hcn : cnt (uN (uL (uN t 2 (tN t 0 3) k) 0 (tN t 0 3) v) 0 3 (tN t 0 3 + 1)) k (tN t 0 3 + 1) = cnt t k (tN t 0 3) + 1 := by
        show cnt _ k (tN t 0 3) + (if tN (uN t 2 (tN t 0 3) k) 2 (tN t 0 3) = k then 1 else 0) = _
        rw [cnt_feed _ (Nat.le_refl _), (show tN (uN t 2 (tN t 0 3) k) 2 (tN t 0 3) = k by rw [tN_uN, if_pos ⟨rfl, rfl⟩]), if_pos rfl]
      have hcn' : ∀ k', k' ≠ k → cnt (uN (uL (uN t 2 (tN t 0 3) k) 0 (tN t 0 3) v) 0 3 (tN t 0 3 + 1)) k' (tN t 0 3 + 1) = cnt t k' (tN t 0 3) := by
        intro k' hk'
        show cnt _ k' (tN t 0 3) + (if tN (uN t 2 (tN t 0 3) k) 2 (tN t 0 3) = k' then 1 else 0) = _
        rw [cnt_feed _ (Nat.le_refl _), (show tN (uN t 2 (tN t 0 3) k) 2 (tN t 0 3) = k by rw [tN_uN, if_pos ⟨rfl, rfl⟩]), if_neg (fun z => hk' z.symm), Nat.add_zero]
      have hold : ∀ k', k' < 16 → ∀ r, xN e 0 k' = r + 1 → r < tN t 0 3 + 1 ∧ tN (uN t 2 (tN t 0 3) k) 2 r = k' ∧ cnt (uN (uL (uN t 2 (tN t 0 3) k) 0 (tN t 0 3) v) 0 3 (tN t 0 3 + 1)) k' r = tN t 3 k' := by
        intro k' hk' r hr
        obtain ⟨q1, q2, q3⟩ := (a1 k' hk').2 r hr
        refine ⟨by omega, ?_, ?_⟩
        · rw [tN_uN, if_neg (by omega)]; exact q2
        · rw [cnt_feed _ (by omega)]; exact q3
      have hE : ∃ e', (xN e 0 k = 0 → e' = vN e 0 k (tN t 0 3 + 1)) ∧ (xN e 0 k ≠ 0 → e' = e) ∧ Ext (uN (uL (uN t 2 (tN t 0 3) k) 0 (tN t 0 3) v) 0 3 (tN t 0 3 + 1)) e' := by
        by_cases h0 : xN e 0 k = 0
        · refine ⟨vN e 0 k (tN t 0 3 + 1), fun _ => rfl, fun z => absurd h0 z, fun k' hk' => ?_, fun k' => ?_, a3, ?_, ?_, a6, ?_, a8⟩
          · rw [xN_vN]
            by_cases hkk : k' = k
            · rw [if_pos ⟨rfl, hkk⟩, hkk]
              refine ⟨fun z => by omega, fun r hr => ?_⟩
              obtain rfl : r = tN t 0 3 := by omega
              refine ⟨Nat.lt_succ_self _, ?_, ?_⟩
              · show tN (uN t 2 (tN t 0 3) k) 2 (tN t 0 3) = k
                rw [tN_uN, if_pos ⟨rfl, rfl⟩]
              · show cnt _ k (tN t 0 3) = tN t 3 k
                rw [cnt_feed _ (Nat.le_refl _)]
                have := (a1 k hk).1 h0
                have := hM k hk
                omega
            · rw [if_neg (fun z => hkk z.2)]
              exact ⟨fun z => by show cnt _ k' (tN t 0 3 + 1) ≤ tN t 3 k'; rw [hcn' k' hkk]; exact (a1 k' hk').1 z, hold k' hk'⟩
          · rw [xN_vN]
            split
            · omega
            · exact a2 k'
          · intro s q hs hq; rw [cmN_cg (t := t) (t' := uN (uL (uN t 2 (tN t 0 3) k) 0 (tN t 0 3) v) 0 3 (tN t 0 3 + 1)) rfl]; exact a4 s q hs hq
          · intro j hj; rw [lsN_cg (t := t) (t' := uN (uL (uN t 2 (tN t 0 3) k) 0 (tN t 0 3) v) 0 3 (tN t 0 3 + 1)) rfl]; exact a5 j hj
          · exact a7
        · refine ⟨e, fun z => absurd z h0, fun _ => rfl, fun k' hk' => ⟨fun z => ?_, hold k' hk'⟩, a2, a3, ?_, ?_, a6, a7, a8⟩
          · show cnt _ k' (tN t 0 3 + 1) ≤ tN t 3 k'
            rw [hcn' k' (fun q => h0 (q ▸ z))]; exact (a1 k' hk').1 z
          · intro s q hs hq; rw [cmN_cg (t := t) (t' := uN (uL (uN t 2 (tN t 0 3) k) 0 (tN t 0 3) v) 0 3 (tN t 0 3 + 1)) rfl]; exact a4 s q hs hq
          · intro j hj; rw [lsN_cg (t := t) (t' := uN (uL (uN t 2 (tN t 0 3) k) 0 (tN t 0 3) v) 0 3 (tN t 0 3 + 1)) rfl]; exact a5 j hj
      obtain ⟨e', g1, g2, g3⟩ := hE
      refine r_iload_n (pc := 0) C dX5_feed_0 rfl rfl ?_
      refine r_calli (cr_S (pc := 1) C (c_X5_isKey _ _) dX5_feed_1 cm_X5_isKey ml_X5_96 st_X5_isKey ⟨⟨Nat.le_of_ble_eq_true rfl, Nat.le_of_ble_eq_true rfl⟩, Nat.le_of_ble_eq_true rfl, Nat.le_of_ble_eq_true rfl⟩ rfl rfl (Nat.le_of_ble_eq_true rfl)) (fun v1 h1 hq1 => ?_)
      obtain ⟨rfl, rfl⟩ := hq1
      refine b_if_ne (pc := 4) (tgt := 10) C dX5_feed_4 (by decide) (fun c4 => ?_) (fun c4 => absurd c4 (fun q => q hz))
      refine r_aload_n (pc := 10) C dX5_feed_10 rfl rfl ?_
      refine r_getR (pc := 11) C fl_X5_16 E.L.o rfl E.L.r2 dX5_feed_11 ?_
      refine r_iload_n (pc := 14) C dX5_feed_14 rfl rfl ?_
      refine r_lload_n (pc := 15) C dX5_feed_15 rfl rfl ?_
      refine r_calli (cr_V (pc := 16) C (c_X1_append (t := t) E.L.I E.k_fed (by omega) hk (E.k_unr k hk) hu) dX5_feed_16 cm_X1_append ml_X5_99 im_X1_append se_X1_append E.L.I.1 rfl ⟨⟨Nat.le_of_ble_eq_true rfl, Nat.le_of_ble_eq_true rfl⟩, Nat.le_of_ble_eq_true rfl, Nat.le_of_ble_eq_true rfl⟩ rfl rfl (Nat.le_of_ble_eq_true rfl)) (fun v16 h16 hq16 => ?_)
      obtain ⟨rfl, rfl⟩ := hq16
      by_cases h0 : xN e 0 k = 0
      · rw [if_pos h0]
        rw [g1 h0] at g3
        exact r_iret (pc := 19) C rfl (Nat.le_refl _) (Nat.le_refl _) ⟨_, rfl, xp e0 (E1.p_unr k (tN t 0 3 + 1) (nI_pred _).symm) g3 (fq1.pI (Or.inl (by omega)))⟩ dX5_feed_19
      rw [if_neg h0]
      rw [g2 h0] at g3
      exact r_iret (pc := 19) C rfl (Nat.le_of_ble_eq_true rfl) (Nat.le_of_ble_eq_true rfl) ⟨_, rfl, (xp e0 E1 g3 fq1)⟩ dX5_feed_19
  · have e0 : spFeed t z v = (-102, t) := cif_f (fun q => hz (kcl.mp q))
    refine r_iload_n (pc := 0) C dX5_feed_0 rfl rfl ?_
    refine r_calli (cr_S (pc := 1) C (c_X5_isKey _ _) dX5_feed_1 cm_X5_isKey ml_X5_96 st_X5_isKey ⟨⟨Nat.le_of_ble_eq_true rfl, Nat.le_of_ble_eq_true rfl⟩, Nat.le_of_ble_eq_true rfl, Nat.le_of_ble_eq_true rfl⟩ rfl rfl (Nat.le_of_ble_eq_true rfl)) (fun v1 h1 hq1 => ?_)
    obtain ⟨rfl, rfl⟩ := hq1
    refine b_if_ne (pc := 4) (tgt := 10) C dX5_feed_4 (by decide) (fun c4 => absurd c4 hz) (fun c4 => ?_)
    refine r_bipush (pc := 7) (v := (-102)) C dX5_feed_7 (by decide) ?_
    exact r_iret (pc := 9) C rfl (Nat.le_of_ble_eq_true rfl) (Nat.le_of_ble_eq_true rfl) ⟨_, rfl, (xp e0 E H Fq.rf)⟩ dX5_feed_9
end CA59
