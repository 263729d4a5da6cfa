/-! ===== the class: what it tells of channels and marks ===== -/
section CA58
variable {G : GP} {x m : Nat} {t : TS} {e : ES} {h : AH}
theorem RX.K1 (E : RX x m t e h) : X1K (x + 2) t h := ⟨E.k_fed, E.k_key, E.k_val⟩
theorem c_X5_channel (E : RX x m t e h) (B : TB t) (H : Ext t e) (hw : ∀ q, tN t 7 q ≠ 0 → tN t 0 5 ≠ 0) (z w u y : Int32) : MA G mX5_channel 2 0 0 [.ref x, .int z, .int w, .int u, .int y] h (Oi (fun v h' => v = spChan t z w u y ∧ h' = h)) := by
  have b := B.S
  refine MA.intro (lv := [some (.ref x), some (.int z), some (.int w), some (.int u), some (.int y), none]) (by decide) (Nat.le_of_ble_eq_true rfl) rfl (fun F C => ?_)
  by_cases hc : inC t z w u
  · obtain ⟨g, hg, rfl, ⟨f, hf, rfl⟩, q, hq, rfl⟩ := id hc
    have b1 := B.P (s := g) (by omega)
    have b2 := B.P (s := g + 1) (by omega)
    have hcc : 16 * g + 4 * f + q < 16 * (tN t 0 0 - 1) := by omega
    have hi : 4 * (g + 1) + q < 4 * tN t 0 0 := by omega
    have K := E.k_ch _ hcc
    have L := E.L.ch hcc
    have b3 := B.bool (16 * g + 4 * f + q)
    have b4 := H.cm B (s := g + 1) (q := q) (by omega) (by omega)
    have H7 := (H.2.2.2.2.2.2.1 (g + 1) q (by omega) (by omega)).1
    have e0 : spChan t (nI g) (nI f) (nI q) y = (match swN 3 y with
      | 0 => nI (tC t (16 * g + 4 * f + q)).length
      | 1 => nI (tN t 4 (16 * g + 4 * f + q)) - 1
      | 2 => nI (tN t 5 (16 * g + 4 * f + q))
      | 3 => bI (shut t (g + 1) q (16 * g + 4 * f + q))
      | _ => -102) := (cif_t hc).trans (by rw [cl (by omega), cl (by omega), cl (by omega)]; rfl)
    refine r_aload_n (pc := 0) C dX5_channel_0 rfl rfl ?_
    refine r_iload_n (pc := 1) C dX5_channel_1 rfl rfl ?_
    refine r_iload_n (pc := 2) C dX5_channel_2 rfl rfl ?_
    refine r_iload_n (pc := 3) C dX5_channel_3 rfl rfl ?_
    refine r_callq (cr_V (pc := 4) C (c_X5_channelAt E B _ _ _) dX5_channel_4 cm_X5_channelAt ml_X5_185 im_X5_channelAt se_X5_channelAt E.L.o rfl ⟨⟨Nat.le_of_ble_eq_true rfl, Nat.le_of_ble_eq_true rfl⟩, Nat.le_of_ble_eq_true rfl, Nat.le_of_ble_eq_true rfl⟩ rfl rfl (Nat.le_of_ble_eq_true rfl)) (fun v4 h4 hq4 => ?_)
    obtain ⟨rfl, rfl⟩ := hq4
    rw [chA_n B hg hf hq]
    refine r_astore (pc := 7) (lv' := [_, _, _, _, _, _]) C dX5_channel_7 (by decide) rfl rfl ?_
    refine r_aload (pc := 9) C dX5_channel_9 rfl ?_
    refine r_ifnonnull (pc := 11) (tgt := 17) C dX5_channel_11 (by decide) ?_
    refine r_iload (pc := 17) C dX5_channel_17 rfl ?_
    rcases sw3 y with rfl | rfl | rfl | rfl | hsw19
    · refine r_tableIn (pc := 19) (tgt := 48) (off := 29) C dX5_channel_19 (by decide) (by decide) (by decide) (by decide) ?_
      refine r_aload (pc := 48) C dX5_channel_48 rfl ?_
      refine r_getIe (pc := 50) C fl_X5_189 L.2.1 rfl K.2.2.2.1 dX5_channel_50 ?_
      exact r_iret (pc := 53) C rfl (Nat.le_of_ble_eq_true rfl) (Nat.le_of_ble_eq_true rfl) ⟨_, rfl, ⟨e0.symm, rfl⟩⟩ dX5_channel_53
    · refine r_tableIn (pc := 19) (tgt := 54) (off := 35) C dX5_channel_19 (by decide) (by decide) (by decide) (by decide) ?_
      refine r_aload (pc := 54) C dX5_channel_54 rfl ?_
      refine r_getIe (pc := 56) C fl_X5_192 L.2.1 rfl K.2.2.2.2.1 dX5_channel_56 ?_
      exact r_iret (pc := 59) C rfl (Nat.le_of_ble_eq_true rfl) (Nat.le_of_ble_eq_true rfl) ⟨_, rfl, ⟨e0.symm, rfl⟩⟩ dX5_channel_59
    · refine r_tableIn (pc := 19) (tgt := 60) (off := 41) C dX5_channel_19 (by decide) (by decide) (by decide) (by decide) ?_
      refine r_aload (pc := 60) C dX5_channel_60 rfl ?_
      refine r_getIe (pc := 62) C fl_X5_195 L.2.1 rfl K.2.2.2.2.2.1 dX5_channel_62 ?_
      refine n_if_eq (pc := 65) (tgt := 72) C (by omega) dX5_channel_65 (by decide) (fun c65 => ?_) (fun c65 => ?_)
      · refine r_iconst (pc := 72) (v := (nI 0)) C dX5_channel_72 (by decide) ?_
        exact r_iret (pc := 73) C rfl (Nat.le_of_ble_eq_true rfl) (Nat.le_of_ble_eq_true rfl) ⟨_, rfl, ⟨e0.symm ▸ (show _ = nI (tN t 5 (16 * g + 4 * f + q)) from (by first | rw [c65] | rw [show tN t 5 (16 * g + 4 * f + q) = 1 by omega])), rfl⟩⟩ dX5_channel_73
      · refine r_iconst (pc := 68) (v := (nI 1)) C dX5_channel_68 (by decide) ?_
        refine r_goto (pc := 69) (tgt := 73) C dX5_channel_69 (by decide) ?_
        exact r_iret (pc := 73) C rfl (Nat.le_of_ble_eq_true rfl) (Nat.le_of_ble_eq_true rfl) ⟨_, rfl, ⟨e0.symm ▸ (show _ = nI (tN t 5 (16 * g + 4 * f + q)) from (by first | rw [c65] | rw [show tN t 5 (16 * g + 4 * f + q) = 1 by omega])), rfl⟩⟩ dX5_channel_73
    · refine r_tableIn (pc := 19) (tgt := 74) (off := 55) C dX5_channel_19 (by decide) (by decide) (by decide) (by decide) ?_
      refine r_aload (pc := 74) C dX5_channel_74 rfl ?_
      refine r_aload_n (pc := 76) C dX5_channel_76 rfl rfl ?_
      refine r_iload_n (pc := 77) C dX5_channel_77 rfl rfl ?_
      refine r_iconst (pc := 78) (v := (nI 1)) C dX5_channel_78 (by decide) ?_
      refine n_iadd (pc := 79) C dX5_channel_79 ?_
      refine r_iload_n (pc := 80) C dX5_channel_80 rfl rfl ?_
      refine r_callq (cr_V (pc := 81) C (c_X5_taskAt E B _ _) dX5_channel_81 cm_X5_taskAt ml_X5_103 im_X5_taskAt se_X5_taskAt E.L.o rfl ⟨⟨Nat.le_of_ble_eq_true rfl, Nat.le_of_ble_eq_true rfl⟩, Nat.le_of_ble_eq_true rfl, Nat.le_of_ble_eq_true rfl⟩ rfl rfl (Nat.le_of_ble_eq_true rfl)) (fun v81 h81 hq81 => ?_)
      obtain ⟨rfl, rfl⟩ := hq81
      rw [tkA_n B (s := g + 1) (by omega) hq]
      refine r_calli (cr_S (pc := 84) C (c_X5_isShut E B hcc hi (by omega)) dX5_channel_84 cm_X5_isShut ml_X5_197 st_X5_isShut ⟨⟨Nat.le_of_ble_eq_true rfl, Nat.le_of_ble_eq_true rfl⟩, Nat.le_of_ble_eq_true rfl, Nat.le_of_ble_eq_true rfl⟩ rfl rfl (Nat.le_of_ble_eq_true rfl)) (fun v84 h84 hq84 => ?_)
      obtain ⟨rfl, rfl⟩ := hq84
      refine b_if_eq (pc := 87) (tgt := 94) C dX5_channel_87 (by decide) (fun c87 => ?_) (fun c87 => ?_)
      · refine r_iconst (pc := 94) (v := (nI 0)) C dX5_channel_94 (by decide) ?_
        exact r_iret (pc := 95) C rfl (Nat.le_of_ble_eq_true rfl) (Nat.le_of_ble_eq_true rfl) ⟨_, rfl, ⟨e0.symm ▸ (show _ = bI (shut t (g + 1) q (16 * g + 4 * f + q)) from (by first | exact tt1 ⟨hw _ (H7.mpr c87.2), H7.mpr c87.2, c87.1⟩ | exact ff0 (fun z => c87 ⟨z.2.2, H7.mp z.2.1⟩))), rfl⟩⟩ dX5_channel_95
      · refine r_iconst (pc := 90) (v := (nI 1)) C dX5_channel_90 (by decide) ?_
        refine r_goto (pc := 91) (tgt := 95) C dX5_channel_91 (by decide) ?_
        exact r_iret (pc := 95) C rfl (Nat.le_of_ble_eq_true rfl) (Nat.le_of_ble_eq_true rfl) ⟨_, rfl, ⟨e0.symm ▸ (show _ = bI (shut t (g + 1) q (16 * g + 4 * f + q)) from (by first | exact tt1 ⟨hw _ (H7.mpr c87.2), H7.mpr c87.2, c87.1⟩ | exact ff0 (fun z => c87 ⟨z.2.2, H7.mp z.2.1⟩))), rfl⟩⟩ dX5_channel_95
    · refine r_tableOut (pc := 19) (tgt := 96) C dX5_channel_19 hsw19 (by decide) ?_
      refine r_bipush (pc := 96) (v := (-102)) C dX5_channel_96 (by decide) ?_
      exact r_iret (pc := 98) C rfl (Nat.le_of_ble_eq_true rfl) (Nat.le_of_ble_eq_true rfl) ⟨_, rfl, ⟨by rw [e0, swN_out hsw19]; rfl, rfl⟩⟩ dX5_channel_98
  · have e0 : spChan t z w u y = -101 := cif_f hc
    refine r_aload_n (pc := 0) C dX5_channel_0 rfl rfl ?_
    refine r_iload_n (pc := 1) C dX5_channel_1 rfl rfl ?_
    refine r_iload_n (pc := 2) C dX5_channel_2 rfl rfl ?_
    refine r_iload_n (pc := 3) C dX5_channel_3 rfl rfl ?_
    refine r_callq (cr_V (pc := 4) C (c_X5_channelAt E B _ _ _) dX5_channel_4 cm_X5_channelAt ml_X5_185 im_X5_channelAt se_X5_channelAt E.L.o rfl ⟨⟨Nat.le_of_ble_eq_true rfl, Nat.le_of_ble_eq_true rfl⟩, Nat.le_of_ble_eq_true rfl, Nat.le_of_ble_eq_true rfl⟩ rfl rfl (Nat.le_of_ble_eq_true rfl)) (fun v4 h4 hq4 => ?_)
    obtain ⟨rfl, rfl⟩ := hq4
    rw [show chA t x z w u = none from cif_f hc]
    refine r_astoreN (pc := 7) (lv' := [_, _, _, _, _, _]) C dX5_channel_7 (by decide) rfl rfl ?_
    refine r_aloadN (pc := 9) C dX5_channel_9 rfl ?_
    refine r_ifnonnullN (pc := 11) C dX5_channel_11 ?_
    refine r_bipush (pc := 14) (v := (-101)) C dX5_channel_14 (by decide) ?_
    exact r_iret (pc := 16) C rfl (Nat.le_of_ble_eq_true rfl) (Nat.le_of_ble_eq_true rfl) ⟨_, rfl, ⟨e0.symm, rfl⟩⟩ dX5_channel_16
theorem keyI_m1 (B : TB t) : keyI t (-1) = -1 := cif_f (m1_no (by have := B.fed; omega))
theorem valI_m1 (B : TB t) : valI t (-1) = 0 := cif_f (m1_no (by have := B.fed; omega))
theorem c_X5_key (E : RX x m t e h) (B : TB t) (z w u y : Int32) : MA G mX5_key 2 0 0 [.ref x, .int z, .int w, .int u, .int y] h (Oi (fun v h' => v = spKey t z w u y ∧ h' = h)) := by
  have b := B.S
  have bf := B.fed
  refine MA.intro (lv := [some (.ref x), some (.int z), some (.int w), some (.int u), some (.int y), none]) (by decide) (Nat.le_of_ble_eq_true rfl) rfl (fun F C => ?_)
  by_cases hc : inC t z w u
  · obtain ⟨g, hg, rfl, ⟨f, hf, rfl⟩, q, hq, rfl⟩ := id hc
    have b1 := B.P (s := g) (by omega)
    have b2 := B.P (s := g + 1) (by omega)
    have hcc : 16 * g + 4 * f + q < 16 * (tN t 0 0 - 1) := by omega
    have K := E.k_ch _ hcc
    have L := E.L.ch hcc
    have bl := B.len (16 * g + 4 * f + q)
    have hr : ∀ r ∈ tC t (16 * g + 4 * f + q), r < 200 := fun r hr => by have := B.row hr; omega
    have e0 : spKey t (nI g) (nI f) (nI q) y = keyI t (cif (inN y (tC t (16 * g + 4 * f + q)).length) (nI ((tC t (16 * g + 4 * f + q)).getD y.toNatClampNeg 0)) (-1)) := by
      refine (cif_t hc).trans ?_
      rw [cl (by omega), cl (by omega), cl (by omega)]
      by_cases hy : inN y (tC t (16 * g + 4 * f + q)).length
      · rw [cif_t hy, cif_t hy]
        obtain ⟨i, hi, rfl⟩ := hy
        rw [cl (by omega), keyI_n (B.row (getD_mem hi)) bf]
      · rw [cif_f hy, cif_f hy, keyI_m1 B]
    refine r_aload_n (pc := 0) C dX5_key_0 rfl rfl ?_
    refine r_iload_n (pc := 1) C dX5_key_1 rfl rfl ?_
    refine r_iload_n (pc := 2) C dX5_key_2 rfl rfl ?_
    refine r_iload_n (pc := 3) C dX5_key_3 rfl rfl ?_
    refine r_callq (cr_V (pc := 4) C (c_X5_channelAt E B _ _ _) dX5_key_4 cm_X5_channelAt ml_X5_185 im_X5_channelAt se_X5_channelAt E.L.o rfl ⟨⟨Nat.le_of_ble_eq_true rfl, Nat.le_of_ble_eq_true rfl⟩, Nat.le_of_ble_eq_true rfl, Nat.le_of_ble_eq_true rfl⟩ rfl rfl (Nat.le_of_ble_eq_true rfl)) (fun v4 h4 hq4 => ?_)
    obtain ⟨rfl, rfl⟩ := hq4
    rw [chA_n B hg hf hq]
    refine r_astore (pc := 7) (lv' := [_, _, _, _, _, _]) C dX5_key_7 (by decide) rfl rfl ?_
    refine r_aload (pc := 9) C dX5_key_9 rfl ?_
    refine r_ifnonnull (pc := 11) (tgt := 19) C dX5_key_11 (by decide) ?_
    refine r_aload_n (pc := 19) C dX5_key_19 rfl rfl ?_
    refine r_getR (pc := 20) C fl_X5_16 E.L.o rfl E.L.r2 dX5_key_20 ?_
    refine r_aload (pc := 23) C dX5_key_23 rfl ?_
    refine r_iload (pc := 25) C dX5_key_25 rfl ?_
    refine r_calli (cr_V (pc := 27) C (c_X0_rowAt L.2.1 L.2.2 E.L.sb K.2.1 K.2.2.2.1 (E.k_beh _ hcc) hr bl _) dX5_key_27 cm_X0_rowAt ml_X5_201 im_X0_rowAt se_X0_rowAt L.2.1 rfl ⟨⟨Nat.le_of_ble_eq_true rfl, Nat.le_of_ble_eq_true rfl⟩, Nat.le_of_ble_eq_true rfl, Nat.le_of_ble_eq_true rfl⟩ rfl rfl (Nat.le_of_ble_eq_true rfl)) (fun v27 h27 hq27 => ?_)
    obtain ⟨rfl, rfl⟩ := hq27
    refine r_calli (cr_V (pc := 30) C (c_X1_keyOf E.L.I E.K1 bf _) dX5_key_30 cm_X1_keyOf ml_X5_204 im_X1_keyOf se_X1_keyOf E.L.I.1 rfl ⟨⟨Nat.le_of_ble_eq_true rfl, Nat.le_of_ble_eq_true rfl⟩, Nat.le_of_ble_eq_true rfl, Nat.le_of_ble_eq_true rfl⟩ rfl rfl (Nat.le_of_ble_eq_true rfl)) (fun v30 h30 hq30 => ?_)
    obtain ⟨rfl, rfl⟩ := hq30
    exact r_iret (pc := 33) C rfl (Nat.le_of_ble_eq_true rfl) (Nat.le_of_ble_eq_true rfl) ⟨_, rfl, ⟨e0.symm, rfl⟩⟩ dX5_key_33
  · have e0 : spKey t z w u y = -101 := cif_f hc
    refine r_aload_n (pc := 0) C dX5_key_0 rfl rfl ?_
    refine r_iload_n (pc := 1) C dX5_key_1 rfl rfl ?_
    refine r_iload_n (pc := 2) C dX5_key_2 rfl rfl ?_
    refine r_iload_n (pc := 3) C dX5_key_3 rfl rfl ?_
    refine r_callq (cr_V (pc := 4) C (c_X5_channelAt E B _ _ _) dX5_key_4 cm_X5_channelAt ml_X5_185 im_X5_channelAt se_X5_channelAt E.L.o rfl ⟨⟨Nat.le_of_ble_eq_true rfl, Nat.le_of_ble_eq_true rfl⟩, Nat.le_of_ble_eq_true rfl, Nat.le_of_ble_eq_true rfl⟩ rfl rfl (Nat.le_of_ble_eq_true rfl)) (fun v4 h4 hq4 => ?_)
    obtain ⟨rfl, rfl⟩ := hq4
    rw [show chA t x z w u = none from cif_f hc]
    refine r_astoreN (pc := 7) (lv' := [_, _, _, _, _, _]) C dX5_key_7 (by decide) rfl rfl ?_
    refine r_aloadN (pc := 9) C dX5_key_9 rfl ?_
    refine r_ifnonnullN (pc := 11) C dX5_key_11 ?_
    refine r_bipush (pc := 14) (v := (-101)) C dX5_key_14 (by decide) ?_
    refine r_goto (pc := 16) (tgt := 33) C dX5_key_16 (by decide) ?_
    exact r_iret (pc := 33) C rfl (Nat.le_of_ble_eq_true rfl) (Nat.le_of_ble_eq_true rfl) ⟨_, rfl, ⟨e0.symm, rfl⟩⟩ dX5_key_33
theorem c_X5_value (E : RX x m t e h) (B : TB t) (z w u y : Int32) : MA G mX5_value 2 0 0 [.ref x, .int z, .int w, .int u, .int y] h (Ol (fun v h' => v = spVal t z w u y ∧ h' = h)) := by
  have b := B.S
  have bf := B.fed
  refine MA.intro (lv := [some (.ref x), some (.int z), some (.int w), some (.int u), some (.int y), none]) (by decide) (Nat.le_of_ble_eq_true rfl) rfl (fun F C => ?_)
  by_cases hc : inC t z w u
  · obtain ⟨g, hg, rfl, ⟨f, hf, rfl⟩, q, hq, rfl⟩ := id hc
    have b1 := B.P (s := g) (by omega)
    have b2 := B.P (s := g + 1) (by omega)
    have hcc : 16 * g + 4 * f + q < 16 * (tN t 0 0 - 1) := by omega
    have K := E.k_ch _ hcc
    have L := E.L.ch hcc
    have bl := B.len (16 * g + 4 * f + q)
    have hr : ∀ r ∈ tC t (16 * g + 4 * f + q), r < 200 := fun r hr => by have := B.row hr; omega
    have e0 : spVal t (nI g) (nI f) (nI q) y = valI t (cif (inN y (tC t (16 * g + 4 * f + q)).length) (nI ((tC t (16 * g + 4 * f + q)).getD y.toNatClampNeg 0)) (-1)) := by
      refine (cif_t hc).trans ?_
      rw [cl (by omega), cl (by omega), cl (by omega)]
      by_cases hy : inN y (tC t (16 * g + 4 * f + q)).length
      · rw [cif_t hy, cif_t hy]
        obtain ⟨i, hi, rfl⟩ := hy
        rw [cl (by omega), valI_n (B.row (getD_mem hi)) bf]
      · rw [cif_f hy, cif_f hy, valI_m1 B]
    refine r_aload_n (pc := 0) C dX5_value_0 rfl rfl ?_
    refine r_iload_n (pc := 1) C dX5_value_1 rfl rfl ?_
    refine r_iload_n (pc := 2) C dX5_value_2 rfl rfl ?_
    refine r_iload_n (pc := 3) C dX5_value_3 rfl rfl ?_
    refine r_callq (cr_V (pc := 4) C (c_X5_channelAt E B _ _ _) dX5_value_4 cm_X5_channelAt ml_X5_185 im_X5_channelAt se_X5_channelAt E.L.o rfl ⟨⟨Nat.le_of_ble_eq_true rfl, Nat.le_of_ble_eq_true rfl⟩, Nat.le_of_ble_eq_true rfl, Nat.le_of_ble_eq_true rfl⟩ rfl rfl (Nat.le_of_ble_eq_true rfl)) (fun v4 h4 hq4 => ?_)
    obtain ⟨rfl, rfl⟩ := hq4
    rw [chA_n B hg hf hq]
    refine r_astore (pc := 7) (lv' := [_, _, _, _, _, _]) C dX5_value_7 (by decide) rfl rfl ?_
    refine r_aload (pc := 9) C dX5_value_9 rfl ?_
    refine r_ifnonnull (pc := 11) (tgt := 18) C dX5_value_11 (by decide) ?_
    refine r_aload_n (pc := 18) C dX5_value_18 rfl rfl ?_
    refine r_getR (pc := 19) C fl_X5_16 E.L.o rfl E.L.r2 dX5_value_19 ?_
    refine r_aload (pc := 22) C dX5_value_22 rfl ?_
    refine r_iload (pc := 24) C dX5_value_24 rfl ?_
    refine r_calli (cr_V (pc := 26) C (c_X0_rowAt L.2.1 L.2.2 E.L.sb K.2.1 K.2.2.2.1 (E.k_beh _ hcc) hr bl _) dX5_value_26 cm_X0_rowAt ml_X5_201 im_X0_rowAt se_X0_rowAt L.2.1 rfl ⟨⟨Nat.le_of_ble_eq_true rfl, Nat.le_of_ble_eq_true rfl⟩, Nat.le_of_ble_eq_true rfl, Nat.le_of_ble_eq_true rfl⟩ rfl rfl (Nat.le_of_ble_eq_true rfl)) (fun v26 h26 hq26 => ?_)
    obtain ⟨rfl, rfl⟩ := hq26
    refine r_calll (cr_V (pc := 29) C (c_X1_valueOf E.L.I E.K1 bf _) dX5_value_29 cm_X1_valueOf ml_X5_207 im_X1_valueOf se_X1_valueOf E.L.I.1 rfl ⟨⟨Nat.le_of_ble_eq_true rfl, Nat.le_of_ble_eq_true rfl⟩, Nat.le_of_ble_eq_true rfl, Nat.le_of_ble_eq_true rfl⟩ rfl rfl (Nat.le_of_ble_eq_true rfl)) (fun v29 h29 hq29 => ?_)
    obtain ⟨rfl, rfl⟩ := hq29
    exact r_lret (pc := 32) C rfl (Nat.le_of_ble_eq_true rfl) (Nat.le_of_ble_eq_true rfl) ⟨_, rfl, ⟨e0.symm, rfl⟩⟩ dX5_value_32
  · have e0 : spVal t z w u y = 0 := cif_f hc
    refine r_aload_n (pc := 0) C dX5_value_0 rfl rfl ?_
    refine r_iload_n (pc := 1) C dX5_value_1 rfl rfl ?_
    refine r_iload_n (pc := 2) C dX5_value_2 rfl rfl ?_
    refine r_iload_n (pc := 3) C dX5_value_3 rfl rfl ?_
    refine r_callq (cr_V (pc := 4) C (c_X5_channelAt E B _ _ _) dX5_value_4 cm_X5_channelAt ml_X5_185 im_X5_channelAt se_X5_channelAt E.L.o rfl ⟨⟨Nat.le_of_ble_eq_true rfl, Nat.le_of_ble_eq_true rfl⟩, Nat.le_of_ble_eq_true rfl, Nat.le_of_ble_eq_true rfl⟩ rfl rfl (Nat.le_of_ble_eq_true rfl)) (fun v4 h4 hq4 => ?_)
    obtain ⟨rfl, rfl⟩ := hq4
    rw [show chA t x z w u = none from cif_f hc]
    refine r_astoreN (pc := 7) (lv' := [_, _, _, _, _, _]) C dX5_value_7 (by decide) rfl rfl ?_
    refine r_aloadN (pc := 9) C dX5_value_9 rfl ?_
    refine r_ifnonnullN (pc := 11) C dX5_value_11 ?_
    refine r_lconst (pc := 14) (v := 0) C dX5_value_14 (by decide) ?_
    refine r_goto (pc := 15) (tgt := 32) C dX5_value_15 (by decide) ?_
    exact r_lret (pc := 32) C rfl (Nat.le_of_ble_eq_true rfl) (Nat.le_of_ble_eq_true rfl) ⟨_, rfl, ⟨e0.symm, rfl⟩⟩ dX5_value_32
theorem sw_ge {y : Int32} (hy : nI 10 ≤ y) : swN 3 y = 4 ∧ swN 9 y = 10 := by
  obtain ⟨k, h1, h2, rfl⟩ := ge10 hy
  have e : (nI k).toInt = (k : Int) := nI_toInt h2
  exact ⟨swN_out (Or.inr (by rw [e]; omega)), swN_out (Or.inr (by rw [e]; omega))⟩
theorem c_X5_marked (E : RX x m t e h) (B : TB t) (H : Ext t e) (hst : ∀ j, j < tN t 0 4 → (tN t 9 j = 0 ↔ tN t 0 5 = j + 1)) (z y : Int32) : MA G mX5_marked 1 0 0 [.ref x, .int z, .int y] h (Oi (fun v h' => v = spMarked t z y ∧ h' = h)) := by
  have b := B.S
  have b8 := B.marks
  refine MA.intro (lv := [some (.ref x), some (.int z), some (.int y), none, none]) (by decide) (Nat.le_of_ble_eq_true rfl) rfl (fun F C => ?_)
  by_cases hz : inN z (tN t 0 4)
  · obtain ⟨j, hj, rfl⟩ := id hz
    have K := E.k_mo j hj
    have L := E.L.M hj
    have b9 := B.stat j
    have e0 : spMarked t (nI j) y = (match swN 3 y with
      | 0 => nI (tN t 9 j)
      | 1 => nI (tK t j).length
      | 2 => nI (lsN t j 48)
      | 3 => if tN t 0 5 = j + 1 then tI t 0 1 - tI t 2 j else tI t 3 j
      | _ => cif (nI 10 ≤ y ∧ inN (y - nI 10) (tN t 0 0)) (nI (tN t 10 (4 * j + (y - nI 10).toNatClampNeg))) (-102)) := (cif_t hz).trans (by rw [cl (by omega)]; rfl)
    by_cases hy : nI 10 ≤ y
    · obtain ⟨k, hk1, hk2, rfl⟩ := ge10 hy
      rw [(sw_ge hy).1, sub10 hk1, cl (by omega)] at e0
      have e1 : spMarked t (nI j) (nI k) = cif (nI 10 ≤ nI k ∧ inN (nI (k - 10)) (tN t 0 0)) (nI (tN t 10 (4 * j + (k - 10)))) (-102) := e0
      by_cases hs : k - 10 < tN t 0 0
      · rw [cif_t ⟨hy, inN_ok hs⟩] at e1
        have H6 := H.2.2.2.2.2.1 j hj (k - 10) hs
        refine r_aload_n (pc := 0) C dX5_marked_0 rfl rfl ?_
        refine r_iload_n (pc := 1) C dX5_marked_1 rfl rfl ?_
        refine r_callq (cr_V (pc := 2) C (c_X5_markAt E B _) dX5_marked_2 cm_X5_markAt ml_X5_124 im_X5_markAt se_X5_markAt E.L.o rfl ⟨⟨Nat.le_of_ble_eq_true rfl, Nat.le_of_ble_eq_true rfl⟩, Nat.le_of_ble_eq_true rfl, Nat.le_of_ble_eq_true rfl⟩ rfl rfl (Nat.le_of_ble_eq_true rfl)) (fun v2 h2 hq2 => ?_)
        obtain ⟨rfl, rfl⟩ := hq2
        rw [mkA_n B hj]
        refine r_astore_n (pc := 5) (lv' := [_, _, _, _, _]) C dX5_marked_5 rfl (by decide) rfl rfl ?_
        refine r_aload_n (pc := 6) C dX5_marked_6 rfl rfl ?_
        refine r_ifnonnull (pc := 7) (tgt := 13) C dX5_marked_7 (by decide) ?_
        refine r_iload_n (pc := 13) C dX5_marked_13 rfl rfl ?_
        refine r_bipush (pc := 14) (v := (nI 10)) C dX5_marked_14 (by decide) ?_
        refine n_icmp_lt (pc := 16) (tgt := 46) C (by omega) (by omega) dX5_marked_16 (by decide) (fun c16 => absurd c16 (by omega)) (fun c16 => ?_)
        refine r_iload_n (pc := 19) C dX5_marked_19 rfl rfl ?_
        refine r_bipush (pc := 20) (v := (nI 10)) C dX5_marked_20 (by decide) ?_
        refine n_isub (pc := 22) C (by omega) dX5_marked_22 ?_
        refine r_istore (pc := 23) (lv' := [_, _, _, _, _]) C dX5_marked_23 (by decide) rfl rfl ?_
        refine r_aload_n (pc := 25) C dX5_marked_25 rfl rfl ?_
        refine r_iload (pc := 26) C dX5_marked_26 rfl ?_
        refine r_calli (cr_V (pc := 28) C (c_X5_isStage E B _) dX5_marked_28 cm_X5_isStage ml_X5_89 im_X5_isStage se_X5_isStage E.L.o rfl ⟨⟨Nat.le_of_ble_eq_true rfl, Nat.le_of_ble_eq_true rfl⟩, Nat.le_of_ble_eq_true rfl, Nat.le_of_ble_eq_true rfl⟩ rfl rfl (Nat.le_of_ble_eq_true rfl)) (fun v28 h28 hq28 => ?_)
        obtain ⟨rfl, rfl⟩ := hq28
        refine b_if_eq (pc := 31) (tgt := 43) C dX5_marked_31 (by decide) (fun c31 => absurd c31 (fun q => q (inN_ok hs))) (fun c31 => ?_)
        refine r_aload_n (pc := 34) C dX5_marked_34 rfl rfl ?_
        refine r_iload (pc := 35) C dX5_marked_35 rfl ?_
        refine r_calli (cr_V (pc := 37) C (c_X2_widthOf L (by omega) (E.k_mw j hj (k - 10) (by omega))) dX5_marked_37 cm_X2_widthOf ml_X5_211 im_X2_widthOf se_X2_widthOf L.1 rfl ⟨⟨Nat.le_of_ble_eq_true rfl, Nat.le_of_ble_eq_true rfl⟩, Nat.le_of_ble_eq_true rfl, Nat.le_of_ble_eq_true rfl⟩ rfl rfl (Nat.le_of_ble_eq_true rfl)) (fun v37 h37 hq37 => ?_)
        obtain ⟨rfl, rfl⟩ := hq37
        refine r_goto (pc := 40) (tgt := 45) C dX5_marked_40 (by decide) ?_
        exact r_iret (pc := 45) C rfl (Nat.le_of_ble_eq_true rfl) (Nat.le_of_ble_eq_true rfl) ⟨_, rfl, ⟨by rw [e1, H6], rfl⟩⟩ dX5_marked_45
      · rw [cif_f (fun q => hs (inN_lt (by omega) (by omega) q.2))] at e1
        refine r_aload_n (pc := 0) C dX5_marked_0 rfl rfl ?_
        refine r_iload_n (pc := 1) C dX5_marked_1 rfl rfl ?_
        refine r_callq (cr_V (pc := 2) C (c_X5_markAt E B _) dX5_marked_2 cm_X5_markAt ml_X5_124 im_X5_markAt se_X5_markAt E.L.o rfl ⟨⟨Nat.le_of_ble_eq_true rfl, Nat.le_of_ble_eq_true rfl⟩, Nat.le_of_ble_eq_true rfl, Nat.le_of_ble_eq_true rfl⟩ rfl rfl (Nat.le_of_ble_eq_true rfl)) (fun v2 h2 hq2 => ?_)
        obtain ⟨rfl, rfl⟩ := hq2
        rw [mkA_n B hj]
        refine r_astore_n (pc := 5) (lv' := [_, _, _, _, _]) C dX5_marked_5 rfl (by decide) rfl rfl ?_
        refine r_aload_n (pc := 6) C dX5_marked_6 rfl rfl ?_
        refine r_ifnonnull (pc := 7) (tgt := 13) C dX5_marked_7 (by decide) ?_
        refine r_iload_n (pc := 13) C dX5_marked_13 rfl rfl ?_
        refine r_bipush (pc := 14) (v := (nI 10)) C dX5_marked_14 (by decide) ?_
        refine n_icmp_lt (pc := 16) (tgt := 46) C (by omega) (by omega) dX5_marked_16 (by decide) (fun c16 => absurd c16 (by omega)) (fun c16 => ?_)
        refine r_iload_n (pc := 19) C dX5_marked_19 rfl rfl ?_
        refine r_bipush (pc := 20) (v := (nI 10)) C dX5_marked_20 (by decide) ?_
        refine n_isub (pc := 22) C (by omega) dX5_marked_22 ?_
        refine r_istore (pc := 23) (lv' := [_, _, _, _, _]) C dX5_marked_23 (by decide) rfl rfl ?_
        refine r_aload_n (pc := 25) C dX5_marked_25 rfl rfl ?_
        refine r_iload (pc := 26) C dX5_marked_26 rfl ?_
        refine r_calli (cr_V (pc := 28) C (c_X5_isStage E B _) dX5_marked_28 cm_X5_isStage ml_X5_89 im_X5_isStage se_X5_isStage E.L.o rfl ⟨⟨Nat.le_of_ble_eq_true rfl, Nat.le_of_ble_eq_true rfl⟩, Nat.le_of_ble_eq_true rfl, Nat.le_of_ble_eq_true rfl⟩ rfl rfl (Nat.le_of_ble_eq_true rfl)) (fun v28 h28 hq28 => ?_)
        obtain ⟨rfl, rfl⟩ := hq28
        refine b_if_eq (pc := 31) (tgt := 43) C dX5_marked_31 (by decide) (fun c31 => ?_) (fun c31 => absurd c31 (fun q => hs (inN_lt (by omega) (by omega) q)))
        refine r_bipush (pc := 43) (v := (-102)) C dX5_marked_43 (by decide) ?_
        exact r_iret (pc := 45) C rfl (Nat.le_of_ble_eq_true rfl) (Nat.le_of_ble_eq_true rfl) ⟨_, rfl, ⟨e1.symm, rfl⟩⟩ dX5_marked_45
    · skip
      refine r_aload_n (pc := 0) C dX5_marked_0 rfl rfl ?_
      refine r_iload_n (pc := 1) C dX5_marked_1 rfl rfl ?_
      refine r_callq (cr_V (pc := 2) C (c_X5_markAt E B _) dX5_marked_2 cm_X5_markAt ml_X5_124 im_X5_markAt se_X5_markAt E.L.o rfl ⟨⟨Nat.le_of_ble_eq_true rfl, Nat.le_of_ble_eq_true rfl⟩, Nat.le_of_ble_eq_true rfl, Nat.le_of_ble_eq_true rfl⟩ rfl rfl (Nat.le_of_ble_eq_true rfl)) (fun v2 h2 hq2 => ?_)
      obtain ⟨rfl, rfl⟩ := hq2
      rw [mkA_n B hj]
      refine r_astore_n (pc := 5) (lv' := [_, _, _, _, _]) C dX5_marked_5 rfl (by decide) rfl rfl ?_
      refine r_aload_n (pc := 6) C dX5_marked_6 rfl rfl ?_
      refine r_ifnonnull (pc := 7) (tgt := 13) C dX5_marked_7 (by decide) ?_
      refine r_iload_n (pc := 13) C dX5_marked_13 rfl rfl ?_
      refine r_bipush (pc := 14) (v := (nI 10)) C dX5_marked_14 (by decide) ?_
      refine r_icmp_lt (pc := 16) (tgt := 46) C dX5_marked_16 (by decide) (fun c16 => ?_) (fun c16 => absurd c16 (fun q => q (Int32.not_le.mp hy)))
      refine r_iload_n (pc := 46) C dX5_marked_46 rfl rfl ?_
      rcases sw3 y with rfl | rfl | rfl | rfl | hsw47
      · refine r_tableIn (pc := 47) (tgt := 76) (off := 29) C dX5_marked_47 (by decide) (by decide) (by decide) (by decide) ?_
        refine r_aload_n (pc := 76) C dX5_marked_76 rfl rfl ?_
        refine r_getIe (pc := 77) C fl_X5_132 L.1 rfl K.2.2.2.1 dX5_marked_77 ?_
        exact r_iret (pc := 80) C rfl (Nat.le_of_ble_eq_true rfl) (Nat.le_of_ble_eq_true rfl) ⟨_, rfl, ⟨e0.symm, rfl⟩⟩ dX5_marked_80
      · refine r_tableIn (pc := 47) (tgt := 81) (off := 34) C dX5_marked_47 (by decide) (by decide) (by decide) (by decide) ?_
        refine r_aload_n (pc := 81) C dX5_marked_81 rfl rfl ?_
        refine r_getIe (pc := 82) C fl_X5_212 L.1 rfl K.2.1 dX5_marked_82 ?_
        exact r_iret (pc := 85) C rfl (Nat.le_of_ble_eq_true rfl) (Nat.le_of_ble_eq_true rfl) ⟨_, rfl, ⟨e0.symm, rfl⟩⟩ dX5_marked_85
      · refine r_tableIn (pc := 47) (tgt := 86) (off := 39) C dX5_marked_47 (by decide) (by decide) (by decide) (by decide) ?_
        refine r_aload_n (pc := 86) C dX5_marked_86 rfl rfl ?_
        refine r_getIe (pc := 87) C fl_X5_215 L.1 rfl K.2.2.1 dX5_marked_87 ?_
        exact r_iret (pc := 90) C rfl (Nat.le_of_ble_eq_true rfl) (Nat.le_of_ble_eq_true rfl) ⟨_, rfl, ⟨by rw [H.2.2.2.2.1 j hj]; exact e0.symm, rfl⟩⟩ dX5_marked_90
      · refine r_tableIn (pc := 47) (tgt := 91) (off := 44) C dX5_marked_47 (by decide) (by decide) (by decide) (by decide) ?_
        refine r_aload_n (pc := 91) C dX5_marked_91 rfl rfl ?_
        refine r_getIe (pc := 92) C fl_X5_132 L.1 rfl K.2.2.2.1 dX5_marked_92 ?_
        refine n_if_ne (pc := 95) (tgt := 105) C (by omega) dX5_marked_95 (by decide) (fun c95 => ?_) (fun c95 => ?_)
        · refine r_aload_n (pc := 105) C dX5_marked_105 rfl rfl ?_
          refine r_getIe (pc := 106) C fl_X5_218 L.1 rfl K.2.2.2.2 dX5_marked_106 ?_
          refine r_aload_n (pc := 109) C dX5_marked_109 rfl rfl ?_
          refine r_getIe (pc := 110) C fl_X5_221 L.1 rfl K.1 dX5_marked_110 ?_
          refine r_isub (pc := 113) C dX5_marked_113 ?_
          exact r_iret (pc := 114) C rfl (Nat.le_of_ble_eq_true rfl) (Nat.le_of_ble_eq_true rfl) ⟨_, rfl, ⟨e0.symm ▸ (show _ = (if tN t 0 5 = j + 1 then tI t 0 1 - tI t 2 j else tI t 3 j) from (by first | (rw [if_pos ((hst j hj).mp c95)]) | (rw [if_neg (fun z => c95 ((hst j hj).mpr z))]; exact H.2.2.2.2.2.2.2 j hj c95))), rfl⟩⟩ dX5_marked_114
        · refine r_aload_n (pc := 98) C dX5_marked_98 rfl rfl ?_
          refine r_getIe (pc := 99) C fl_X5_43 E.L.o rfl E.turns dX5_marked_99 ?_
          refine r_goto (pc := 102) (tgt := 109) C dX5_marked_102 (by decide) ?_
          refine r_aload_n (pc := 109) C dX5_marked_109 rfl rfl ?_
          refine r_getIe (pc := 110) C fl_X5_221 L.1 rfl K.1 dX5_marked_110 ?_
          refine r_isub (pc := 113) C dX5_marked_113 ?_
          exact r_iret (pc := 114) C rfl (Nat.le_of_ble_eq_true rfl) (Nat.le_of_ble_eq_true rfl) ⟨_, rfl, ⟨e0.symm ▸ (show _ = (if tN t 0 5 = j + 1 then tI t 0 1 - tI t 2 j else tI t 3 j) from (by first | (rw [if_pos ((hst j hj).mp c95)]) | (rw [if_neg (fun z => c95 ((hst j hj).mpr z))]; exact H.2.2.2.2.2.2.2 j hj c95))), rfl⟩⟩ dX5_marked_114
      · refine r_tableOut (pc := 47) (tgt := 115) C dX5_marked_47 hsw47 (by decide) ?_
        refine r_bipush (pc := 115) (v := (-102)) C dX5_marked_115 (by decide) ?_
        exact r_iret (pc := 117) C rfl (Nat.le_of_ble_eq_true rfl) (Nat.le_of_ble_eq_true rfl) ⟨_, rfl, ⟨by rw [e0, swN_out hsw47]; exact (cif_f (fun q => hy q.1)).symm, rfl⟩⟩ dX5_marked_117
  · have e0 : spMarked t z y = -101 := cif_f hz
    refine r_aload_n (pc := 0) C dX5_marked_0 rfl rfl ?_
    refine r_iload_n (pc := 1) C dX5_marked_1 rfl rfl ?_
    refine r_callq (cr_V (pc := 2) C (c_X5_markAt E B _) dX5_marked_2 cm_X5_markAt ml_X5_124 im_X5_markAt se_X5_markAt E.L.o rfl ⟨⟨Nat.le_of_ble_eq_true rfl, Nat.le_of_ble_eq_true rfl⟩, Nat.le_of_ble_eq_true rfl, Nat.le_of_ble_eq_true rfl⟩ rfl rfl (Nat.le_of_ble_eq_true rfl)) (fun v2 h2 hq2 => ?_)
    obtain ⟨rfl, rfl⟩ := hq2
    rw [show mkA t m z = none from cif_f hz]
    refine r_astore_nN (pc := 5) (lv' := [_, _, _, _, _]) C dX5_marked_5 rfl (by decide) rfl rfl ?_
    refine r_aload_nN (pc := 6) C dX5_marked_6 rfl rfl ?_
    refine r_ifnonnullN (pc := 7) C dX5_marked_7 ?_
    refine r_bipush (pc := 10) (v := (-101)) C dX5_marked_10 (by decide) ?_
    exact r_iret (pc := 12) C rfl (Nat.le_of_ble_eq_true rfl) (Nat.le_of_ble_eq_true rfl) ⟨_, rfl, ⟨e0.symm, rfl⟩⟩ dX5_marked_12
theorem c_X5_keptMany (E : RX x m t e h) (B : TB t) (z w y : Int32) : MA G mX5_keptMany 3 0 0 [.ref x, .int z, .int w, .int y] h (Oi (fun v h' => v = spKMany t z w y ∧ h' = h)) := by
  have b := B.S
  have b8 := B.marks
  refine MA.intro (lv := [some (.ref x), some (.int z), some (.int w), some (.int y), none]) (by decide) (Nat.le_of_ble_eq_true rfl) rfl (fun F C => ?_)
  by_cases hz : inN z (tN t 0 4)
  · obtain ⟨j, hj, rfl⟩ := id hz
    have L := E.L.M hj
    by_cases hw : inN w (tN t 0 0)
    · obtain ⟨s, hs, rfl⟩ := id hw
      by_cases hy : inN y 16
      · obtain ⟨k, hk, rfl⟩ := id hy
        have e0 : spKMany t (nI j) (nI s) (nI k) = nI (tN t 11 (64 * j + (16 * s + k))) := (cif_t ⟨hz, hw⟩).trans ((cif_t (kcl.mpr hy)).trans (by rw [cl (by omega), cl (by omega), cl (by omega), Nat.add_assoc]))
        refine r_aload_n (pc := 0) C dX5_keptMany_0 rfl rfl ?_
        refine r_iload_n (pc := 1) C dX5_keptMany_1 rfl rfl ?_
        refine r_callq (cr_V (pc := 2) C (c_X5_markAt E B _) dX5_keptMany_2 cm_X5_markAt ml_X5_124 im_X5_markAt se_X5_markAt E.L.o rfl ⟨⟨Nat.le_of_ble_eq_true rfl, Nat.le_of_ble_eq_true rfl⟩, Nat.le_of_ble_eq_true rfl, Nat.le_of_ble_eq_true rfl⟩ rfl rfl (Nat.le_of_ble_eq_true rfl)) (fun v2 h2 hq2 => ?_)
        obtain ⟨rfl, rfl⟩ := hq2
        rw [mkA_n B hj]
        refine r_astore (pc := 5) (lv' := [_, _, _, _, _]) C dX5_keptMany_5 (by decide) rfl rfl ?_
        refine r_aload (pc := 7) C dX5_keptMany_7 rfl ?_
        refine r_ifnull (pc := 9) C dX5_keptMany_9 ?_
        refine r_aload_n (pc := 12) C dX5_keptMany_12 rfl rfl ?_
        refine r_iload_n (pc := 13) C dX5_keptMany_13 rfl rfl ?_
        refine r_calli (cr_V (pc := 14) C (c_X5_isStage E B _) dX5_keptMany_14 cm_X5_isStage ml_X5_89 im_X5_isStage se_X5_isStage E.L.o rfl ⟨⟨Nat.le_of_ble_eq_true rfl, Nat.le_of_ble_eq_true rfl⟩, Nat.le_of_ble_eq_true rfl, Nat.le_of_ble_eq_true rfl⟩ rfl rfl (Nat.le_of_ble_eq_true rfl)) (fun v14 h14 hq14 => ?_)
        obtain ⟨rfl, rfl⟩ := hq14
        refine b_if_ne (pc := 17) (tgt := 23) C dX5_keptMany_17 (by decide) (fun c17 => ?_) (fun c17 => absurd c17 (fun q => q hw))
        refine r_iload_n (pc := 23) C dX5_keptMany_23 rfl rfl ?_
        refine r_calli (cr_S (pc := 24) C (c_X5_isKey _ _) dX5_keptMany_24 cm_X5_isKey ml_X5_96 st_X5_isKey ⟨⟨Nat.le_of_ble_eq_true rfl, Nat.le_of_ble_eq_true rfl⟩, Nat.le_of_ble_eq_true rfl, Nat.le_of_ble_eq_true rfl⟩ rfl rfl (Nat.le_of_ble_eq_true rfl)) (fun v24 h24 hq24 => ?_)
        obtain ⟨rfl, rfl⟩ := hq24
        refine b_if_eq (pc := 27) (tgt := 43) C dX5_keptMany_27 (by decide) (fun c27 => absurd c27 (fun q => q hy)) (fun c27 => ?_)
        refine r_aload (pc := 30) C dX5_keptMany_30 rfl ?_
        refine r_getR (pc := 32) C fl_X5_139 L.1 rfl L.2.2.2.1 dX5_keptMany_32 ?_
        refine r_iload_n (pc := 35) C dX5_keptMany_35 rfl rfl ?_
        refine r_iload_n (pc := 36) C dX5_keptMany_36 rfl rfl ?_
        refine r_calli (cr_V (pc := 37) C (c_X3_rowsOf L.2.2.2.2.1 (s := s) (k := k) (by omega) hk (E.k_mt j hj (16 * s + k) (by omega))) dX5_keptMany_37 cm_X3_rowsOf ml_X5_167 im_X3_rowsOf se_X3_rowsOf L.2.2.2.2.1.1 rfl ⟨⟨Nat.le_of_ble_eq_true rfl, Nat.le_of_ble_eq_true rfl⟩, Nat.le_of_ble_eq_true rfl, Nat.le_of_ble_eq_true rfl⟩ rfl rfl (Nat.le_of_ble_eq_true rfl)) (fun v37 h37 hq37 => ?_)
        obtain ⟨rfl, rfl⟩ := hq37
        refine r_goto (pc := 40) (tgt := 45) C dX5_keptMany_40 (by decide) ?_
        exact r_iret (pc := 45) C rfl (Nat.le_of_ble_eq_true rfl) (Nat.le_of_ble_eq_true rfl) ⟨_, rfl, ⟨e0.symm, rfl⟩⟩ dX5_keptMany_45
      · have e0 : spKMany t (nI j) (nI s) y = -102 := (cif_t ⟨hz, hw⟩).trans (cif_f (fun q => hy (kcl.mp q)))
        refine r_aload_n (pc := 0) C dX5_keptMany_0 rfl rfl ?_
        refine r_iload_n (pc := 1) C dX5_keptMany_1 rfl rfl ?_
        refine r_callq (cr_V (pc := 2) C (c_X5_markAt E B _) dX5_keptMany_2 cm_X5_markAt ml_X5_124 im_X5_markAt se_X5_markAt E.L.o rfl ⟨⟨Nat.le_of_ble_eq_true rfl, Nat.le_of_ble_eq_true rfl⟩, Nat.le_of_ble_eq_true rfl, Nat.le_of_ble_eq_true rfl⟩ rfl rfl (Nat.le_of_ble_eq_true rfl)) (fun v2 h2 hq2 => ?_)
        obtain ⟨rfl, rfl⟩ := hq2
        rw [mkA_n B hj]
        refine r_astore (pc := 5) (lv' := [_, _, _, _, _]) C dX5_keptMany_5 (by decide) rfl rfl ?_
        refine r_aload (pc := 7) C dX5_keptMany_7 rfl ?_
        refine r_ifnull (pc := 9) C dX5_keptMany_9 ?_
        refine r_aload_n (pc := 12) C dX5_keptMany_12 rfl rfl ?_
        refine r_iload_n (pc := 13) C dX5_keptMany_13 rfl rfl ?_
        refine r_calli (cr_V (pc := 14) C (c_X5_isStage E B _) dX5_keptMany_14 cm_X5_isStage ml_X5_89 im_X5_isStage se_X5_isStage E.L.o rfl ⟨⟨Nat.le_of_ble_eq_true rfl, Nat.le_of_ble_eq_true rfl⟩, Nat.le_of_ble_eq_true rfl, Nat.le_of_ble_eq_true rfl⟩ rfl rfl (Nat.le_of_ble_eq_true rfl)) (fun v14 h14 hq14 => ?_)
        obtain ⟨rfl, rfl⟩ := hq14
        refine b_if_ne (pc := 17) (tgt := 23) C dX5_keptMany_17 (by decide) (fun c17 => ?_) (fun c17 => absurd c17 (fun q => q hw))
        refine r_iload_n (pc := 23) C dX5_keptMany_23 rfl rfl ?_
        refine r_calli (cr_S (pc := 24) C (c_X5_isKey _ _) dX5_keptMany_24 cm_X5_isKey ml_X5_96 st_X5_isKey ⟨⟨Nat.le_of_ble_eq_true rfl, Nat.le_of_ble_eq_true rfl⟩, Nat.le_of_ble_eq_true rfl, Nat.le_of_ble_eq_true rfl⟩ rfl rfl (Nat.le_of_ble_eq_true rfl)) (fun v24 h24 hq24 => ?_)
        obtain ⟨rfl, rfl⟩ := hq24
        refine b_if_eq (pc := 27) (tgt := 43) C dX5_keptMany_27 (by decide) (fun c27 => ?_) (fun c27 => absurd c27 hy)
        refine r_bipush (pc := 43) (v := (-102)) C dX5_keptMany_43 (by decide) ?_
        exact r_iret (pc := 45) C rfl (Nat.le_of_ble_eq_true rfl) (Nat.le_of_ble_eq_true rfl) ⟨_, rfl, ⟨e0.symm, rfl⟩⟩ dX5_keptMany_45
    · have e0 : spKMany t (nI j) w y = -101 := cif_f (fun q => hw q.2)
      refine r_aload_n (pc := 0) C dX5_keptMany_0 rfl rfl ?_
      refine r_iload_n (pc := 1) C dX5_keptMany_1 rfl rfl ?_
      refine r_callq (cr_V (pc := 2) C (c_X5_markAt E B _) dX5_keptMany_2 cm_X5_markAt ml_X5_124 im_X5_markAt se_X5_markAt E.L.o rfl ⟨⟨Nat.le_of_ble_eq_true rfl, Nat.le_of_ble_eq_true rfl⟩, Nat.le_of_ble_eq_true rfl, Nat.le_of_ble_eq_true rfl⟩ rfl rfl (Nat.le_of_ble_eq_true rfl)) (fun v2 h2 hq2 => ?_)
      obtain ⟨rfl, rfl⟩ := hq2
      rw [mkA_n B hj]
      refine r_astore (pc := 5) (lv' := [_, _, _, _, _]) C dX5_keptMany_5 (by decide) rfl rfl ?_
      refine r_aload (pc := 7) C dX5_keptMany_7 rfl ?_
      refine r_ifnull (pc := 9) C dX5_keptMany_9 ?_
      refine r_aload_n (pc := 12) C dX5_keptMany_12 rfl rfl ?_
      refine r_iload_n (pc := 13) C dX5_keptMany_13 rfl rfl ?_
      refine r_calli (cr_V (pc := 14) C (c_X5_isStage E B _) dX5_keptMany_14 cm_X5_isStage ml_X5_89 im_X5_isStage se_X5_isStage E.L.o rfl ⟨⟨Nat.le_of_ble_eq_true rfl, Nat.le_of_ble_eq_true rfl⟩, Nat.le_of_ble_eq_true rfl, Nat.le_of_ble_eq_true rfl⟩ rfl rfl (Nat.le_of_ble_eq_true rfl)) (fun v14 h14 hq14 => ?_)
      obtain ⟨rfl, rfl⟩ := hq14
      refine b_if_ne (pc := 17) (tgt := 23) C dX5_keptMany_17 (by decide) (fun c17 => absurd c17 hw) (fun c17 => ?_)
      refine r_bipush (pc := 20) (v := (-101)) C dX5_keptMany_20 (by decide) ?_
      exact r_iret (pc := 22) C rfl (Nat.le_of_ble_eq_true rfl) (Nat.le_of_ble_eq_true rfl) ⟨_, rfl, ⟨e0.symm, rfl⟩⟩ dX5_keptMany_22
  · have e0 : spKMany t z w y = -101 := cif_f (fun q => hz q.1)
    refine r_aload_n (pc := 0) C dX5_keptMany_0 rfl rfl ?_
    refine r_iload_n (pc := 1) C dX5_keptMany_1 rfl rfl ?_
    refine r_callq (cr_V (pc := 2) C (c_X5_markAt E B _) dX5_keptMany_2 cm_X5_markAt ml_X5_124 im_X5_markAt se_X5_markAt E.L.o rfl ⟨⟨Nat.le_of_ble_eq_true rfl, Nat.le_of_ble_eq_true rfl⟩, Nat.le_of_ble_eq_true rfl, Nat.le_of_ble_eq_true rfl⟩ rfl rfl (Nat.le_of_ble_eq_true rfl)) (fun v2 h2 hq2 => ?_)
    obtain ⟨rfl, rfl⟩ := hq2
    rw [show mkA t m z = none from cif_f hz]
    refine r_astoreN (pc := 5) (lv' := [_, _, _, _, _]) C dX5_keptMany_5 (by decide) rfl rfl ?_
    refine r_aloadN (pc := 7) C dX5_keptMany_7 rfl ?_
    refine r_ifnullN (pc := 9) (tgt := 20) C dX5_keptMany_9 (by decide) ?_
    refine r_bipush (pc := 20) (v := (-101)) C dX5_keptMany_20 (by decide) ?_
    exact r_iret (pc := 22) C rfl (Nat.le_of_ble_eq_true rfl) (Nat.le_of_ble_eq_true rfl) ⟨_, rfl, ⟨e0.symm, rfl⟩⟩ dX5_keptMany_22
theorem c_X5_keptSum (E : RX x m t e h) (B : TB t) (z w y : Int32) : MA G mX5_keptSum 3 0 0 [.ref x, .int z, .int w, .int y] h (Ol (fun v h' => v = spKSum t z w y ∧ h' = h)) := by
  have b := B.S
  have b8 := B.marks
  refine MA.intro (lv := [some (.ref x), some (.int z), some (.int w), some (.int y), none]) (by decide) (Nat.le_of_ble_eq_true rfl) rfl (fun F C => ?_)
  by_cases hz : inN z (tN t 0 4)
  · obtain ⟨j, hj, rfl⟩ := id hz
    have L := E.L.M hj
    by_cases hw : inN w (tN t 0 0)
    · obtain ⟨s, hs, rfl⟩ := id hw
      by_cases hy : inN y 16
      · obtain ⟨k, hk, rfl⟩ := id hy
        have e0 : spKSum t (nI j) (nI s) (nI k) = tL t 2 (64 * j + (16 * s + k)) := (cif_t ⟨hz, hw⟩).trans ((cif_t (kcl.mpr hy)).trans (by rw [cl (by omega), cl (by omega), cl (by omega), Nat.add_assoc]))
        refine r_aload_n (pc := 0) C dX5_keptSum_0 rfl rfl ?_
        refine r_iload_n (pc := 1) C dX5_keptSum_1 rfl rfl ?_
        refine r_callq (cr_V (pc := 2) C (c_X5_markAt E B _) dX5_keptSum_2 cm_X5_markAt ml_X5_124 im_X5_markAt se_X5_markAt E.L.o rfl ⟨⟨Nat.le_of_ble_eq_true rfl, Nat.le_of_ble_eq_true rfl⟩, Nat.le_of_ble_eq_true rfl, Nat.le_of_ble_eq_true rfl⟩ rfl rfl (Nat.le_of_ble_eq_true rfl)) (fun v2 h2 hq2 => ?_)
        obtain ⟨rfl, rfl⟩ := hq2
        rw [mkA_n B hj]
        refine r_astore (pc := 5) (lv' := [_, _, _, _, _]) C dX5_keptSum_5 (by decide) rfl rfl ?_
        refine r_aload (pc := 7) C dX5_keptSum_7 rfl ?_
        refine r_ifnull (pc := 9) C dX5_keptSum_9 ?_
        refine r_aload_n (pc := 12) C dX5_keptSum_12 rfl rfl ?_
        refine r_iload_n (pc := 13) C dX5_keptSum_13 rfl rfl ?_
        refine r_calli (cr_V (pc := 14) C (c_X5_isStage E B _) dX5_keptSum_14 cm_X5_isStage ml_X5_89 im_X5_isStage se_X5_isStage E.L.o rfl ⟨⟨Nat.le_of_ble_eq_true rfl, Nat.le_of_ble_eq_true rfl⟩, Nat.le_of_ble_eq_true rfl, Nat.le_of_ble_eq_true rfl⟩ rfl rfl (Nat.le_of_ble_eq_true rfl)) (fun v14 h14 hq14 => ?_)
        obtain ⟨rfl, rfl⟩ := hq14
        refine b_if_eq (pc := 17) (tgt := 27) C dX5_keptSum_17 (by decide) (fun c17 => absurd c17 (fun q => q hw)) (fun c17 => ?_)
        refine r_iload_n (pc := 20) C dX5_keptSum_20 rfl rfl ?_
        refine r_calli (cr_S (pc := 21) C (c_X5_isKey _ _) dX5_keptSum_21 cm_X5_isKey ml_X5_96 st_X5_isKey ⟨⟨Nat.le_of_ble_eq_true rfl, Nat.le_of_ble_eq_true rfl⟩, Nat.le_of_ble_eq_true rfl, Nat.le_of_ble_eq_true rfl⟩ rfl rfl (Nat.le_of_ble_eq_true rfl)) (fun v21 h21 hq21 => ?_)
        obtain ⟨rfl, rfl⟩ := hq21
        refine b_if_ne (pc := 24) (tgt := 29) C dX5_keptSum_24 (by decide) (fun c24 => ?_) (fun c24 => absurd c24 (fun q => q hy))
        refine r_aload (pc := 29) C dX5_keptSum_29 rfl ?_
        refine r_getR (pc := 31) C fl_X5_139 L.1 rfl L.2.2.2.1 dX5_keptSum_31 ?_
        refine r_iload_n (pc := 34) C dX5_keptSum_34 rfl rfl ?_
        refine r_iload_n (pc := 35) C dX5_keptSum_35 rfl rfl ?_
        refine r_calll (cr_V (pc := 36) C (c_X3_totalOf L.2.2.2.2.1 (s := s) (k := k) (by omega) hk (E.k_ms j hj (16 * s + k) (by omega))) dX5_keptSum_36 cm_X3_totalOf ml_X5_170 im_X3_totalOf se_X3_totalOf L.2.2.2.2.1.1 rfl ⟨⟨Nat.le_of_ble_eq_true rfl, Nat.le_of_ble_eq_true rfl⟩, Nat.le_of_ble_eq_true rfl, Nat.le_of_ble_eq_true rfl⟩ rfl rfl (Nat.le_of_ble_eq_true rfl)) (fun v36 h36 hq36 => ?_)
        obtain ⟨rfl, rfl⟩ := hq36
        exact r_lret (pc := 39) C rfl (Nat.le_of_ble_eq_true rfl) (Nat.le_of_ble_eq_true rfl) ⟨_, rfl, ⟨e0.symm, rfl⟩⟩ dX5_keptSum_39
      · have e0 : spKSum t (nI j) (nI s) y = 0 := (cif_t ⟨hz, hw⟩).trans (cif_f (fun q => hy (kcl.mp q)))
        refine r_aload_n (pc := 0) C dX5_keptSum_0 rfl rfl ?_
        refine r_iload_n (pc := 1) C dX5_keptSum_1 rfl rfl ?_
        refine r_callq (cr_V (pc := 2) C (c_X5_markAt E B _) dX5_keptSum_2 cm_X5_markAt ml_X5_124 im_X5_markAt se_X5_markAt E.L.o rfl ⟨⟨Nat.le_of_ble_eq_true rfl, Nat.le_of_ble_eq_true rfl⟩, Nat.le_of_ble_eq_true rfl, Nat.le_of_ble_eq_true rfl⟩ rfl rfl (Nat.le_of_ble_eq_true rfl)) (fun v2 h2 hq2 => ?_)
        obtain ⟨rfl, rfl⟩ := hq2
        rw [mkA_n B hj]
        refine r_astore (pc := 5) (lv' := [_, _, _, _, _]) C dX5_keptSum_5 (by decide) rfl rfl ?_
        refine r_aload (pc := 7) C dX5_keptSum_7 rfl ?_
        refine r_ifnull (pc := 9) C dX5_keptSum_9 ?_
        refine r_aload_n (pc := 12) C dX5_keptSum_12 rfl rfl ?_
        refine r_iload_n (pc := 13) C dX5_keptSum_13 rfl rfl ?_
        refine r_calli (cr_V (pc := 14) C (c_X5_isStage E B _) dX5_keptSum_14 cm_X5_isStage ml_X5_89 im_X5_isStage se_X5_isStage E.L.o rfl ⟨⟨Nat.le_of_ble_eq_true rfl, Nat.le_of_ble_eq_true rfl⟩, Nat.le_of_ble_eq_true rfl, Nat.le_of_ble_eq_true rfl⟩ rfl rfl (Nat.le_of_ble_eq_true rfl)) (fun v14 h14 hq14 => ?_)
        obtain ⟨rfl, rfl⟩ := hq14
        refine b_if_eq (pc := 17) (tgt := 27) C dX5_keptSum_17 (by decide) (fun c17 => absurd c17 (fun q => q hw)) (fun c17 => ?_)
        refine r_iload_n (pc := 20) C dX5_keptSum_20 rfl rfl ?_
        refine r_calli (cr_S (pc := 21) C (c_X5_isKey _ _) dX5_keptSum_21 cm_X5_isKey ml_X5_96 st_X5_isKey ⟨⟨Nat.le_of_ble_eq_true rfl, Nat.le_of_ble_eq_true rfl⟩, Nat.le_of_ble_eq_true rfl, Nat.le_of_ble_eq_true rfl⟩ rfl rfl (Nat.le_of_ble_eq_true rfl)) (fun v21 h21 hq21 => ?_)
        obtain ⟨rfl, rfl⟩ := hq21
        refine b_if_ne (pc := 24) (tgt := 29) C dX5_keptSum_24 (by decide) (fun c24 => absurd c24 hy) (fun c24 => ?_)
        refine r_lconst (pc := 27) (v := 0) C dX5_keptSum_27 (by decide) ?_
        exact r_lret (pc := 28) C rfl (Nat.le_of_ble_eq_true rfl) (Nat.le_of_ble_eq_true rfl) ⟨_, rfl, ⟨e0.symm, rfl⟩⟩ dX5_keptSum_28
    · have e0 : spKSum t (nI j) w y = 0 := cif_f (fun q => hw q.2)
      refine r_aload_n (pc := 0) C dX5_keptSum_0 rfl rfl ?_
      refine r_iload_n (pc := 1) C dX5_keptSum_1 rfl rfl ?_
      refine r_callq (cr_V (pc := 2) C (c_X5_markAt E B _) dX5_keptSum_2 cm_X5_markAt ml_X5_124 im_X5_markAt se_X5_markAt E.L.o rfl ⟨⟨Nat.le_of_ble_eq_true rfl, Nat.le_of_ble_eq_true rfl⟩, Nat.le_of_ble_eq_true rfl, Nat.le_of_ble_eq_true rfl⟩ rfl rfl (Nat.le_of_ble_eq_true rfl)) (fun v2 h2 hq2 => ?_)
      obtain ⟨rfl, rfl⟩ := hq2
      rw [mkA_n B hj]
      refine r_astore (pc := 5) (lv' := [_, _, _, _, _]) C dX5_keptSum_5 (by decide) rfl rfl ?_
      refine r_aload (pc := 7) C dX5_keptSum_7 rfl ?_
      refine r_ifnull (pc := 9) C dX5_keptSum_9 ?_
      refine r_aload_n (pc := 12) C dX5_keptSum_12 rfl rfl ?_
      refine r_iload_n (pc := 13) C dX5_keptSum_13 rfl rfl ?_
      refine r_calli (cr_V (pc := 14) C (c_X5_isStage E B _) dX5_keptSum_14 cm_X5_isStage ml_X5_89 im_X5_isStage se_X5_isStage E.L.o rfl ⟨⟨Nat.le_of_ble_eq_true rfl, Nat.le_of_ble_eq_true rfl⟩, Nat.le_of_ble_eq_true rfl, Nat.le_of_ble_eq_true rfl⟩ rfl rfl (Nat.le_of_ble_eq_true rfl)) (fun v14 h14 hq14 => ?_)
      obtain ⟨rfl, rfl⟩ := hq14
      refine b_if_eq (pc := 17) (tgt := 27) C dX5_keptSum_17 (by decide) (fun c17 => ?_) (fun c17 => absurd c17 hw)
      refine r_lconst (pc := 27) (v := 0) C dX5_keptSum_27 (by decide) ?_
      exact r_lret (pc := 28) C rfl (Nat.le_of_ble_eq_true rfl) (Nat.le_of_ble_eq_true rfl) ⟨_, rfl, ⟨e0.symm, rfl⟩⟩ dX5_keptSum_28
  · have e0 : spKSum t z w y = 0 := cif_f (fun q => hz q.1)
    refine r_aload_n (pc := 0) C dX5_keptSum_0 rfl rfl ?_
    refine r_iload_n (pc := 1) C dX5_keptSum_1 rfl rfl ?_
    refine r_callq (cr_V (pc := 2) C (c_X5_markAt E B _) dX5_keptSum_2 cm_X5_markAt ml_X5_124 im_X5_markAt se_X5_markAt E.L.o rfl ⟨⟨Nat.le_of_ble_eq_true rfl, Nat.le_of_ble_eq_true rfl⟩, Nat.le_of_ble_eq_true rfl, Nat.le_of_ble_eq_true rfl⟩ rfl rfl (Nat.le_of_ble_eq_true rfl)) (fun v2 h2 hq2 => ?_)
    obtain ⟨rfl, rfl⟩ := hq2
    rw [show mkA t m z = none from cif_f hz]
    refine r_astoreN (pc := 5) (lv' := [_, _, _, _, _]) C dX5_keptSum_5 (by decide) rfl rfl ?_
    refine r_aloadN (pc := 7) C dX5_keptSum_7 rfl ?_
    refine r_ifnullN (pc := 9) (tgt := 27) C dX5_keptSum_9 (by decide) ?_
    refine r_lconst (pc := 27) (v := 0) C dX5_keptSum_27 (by decide) ?_
    exact r_lret (pc := 28) C rfl (Nat.le_of_ble_eq_true rfl) (Nat.le_of_ble_eq_true rfl) ⟨_, rfl, ⟨e0.symm, rfl⟩⟩ dX5_keptSum_28
end CA58
