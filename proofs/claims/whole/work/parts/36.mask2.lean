/-! ===== the reference: what it tells of channels and marks ===== -/
noncomputable def spChan (t : TS) (x y z w : Int32) : Int32 := cif (inC t x y z) (match swN 3 w with
  | 0 => nI (tC t (16 * x.toNatClampNeg + 4 * y.toNatClampNeg + z.toNatClampNeg)).length
  | 1 => nI (tN t 4 (16 * x.toNatClampNeg + 4 * y.toNatClampNeg + z.toNatClampNeg)) - 1
  | 2 => nI (tN t 5 (16 * x.toNatClampNeg + 4 * y.toNatClampNeg + z.toNatClampNeg))
  | 3 => bI (shut t (x.toNatClampNeg + 1) z.toNatClampNeg (16 * x.toNatClampNeg + 4 * y.toNatClampNeg + z.toNatClampNeg))
  | _ => -102) (-101)
noncomputable def spKey (t : TS) (x y z w : Int32) : Int32 := cif (inC t x y z) (cif (inN w (tC t (16 * x.toNatClampNeg + 4 * y.toNatClampNeg + z.toNatClampNeg)).length) (nI (tN t 2 ((tC t (16 * x.toNatClampNeg + 4 * y.toNatClampNeg + z.toNatClampNeg)).getD w.toNatClampNeg 0))) (-1)) (-101)
noncomputable def spVal (t : TS) (x y z w : Int32) : Int64 := cif (inC t x y z) (cif (inN w (tC t (16 * x.toNatClampNeg + 4 * y.toNatClampNeg + z.toNatClampNeg)).length) (tL t 0 ((tC t (16 * x.toNatClampNeg + 4 * y.toNatClampNeg + z.toNatClampNeg)).getD w.toNatClampNeg 0)) 0) 0
theorem mem_getD {l : List Nat} {i : Nat} (h : i < l.length) : l.getD i 0 ∈ l := by
  rw [List.getD_eq_getElem?_getD, List.getElem?_eq_getElem h]
  exact List.getElem_mem h
theorem c_X6_channel {G : GP} {m : Nat} {t : TS} {h : AH} (E : RM m t h) (B : TB t) (x y z w : Int32) : MA G mX6_channel 2 0 0 [.ref m, .int x, .int y, .int z, .int w] h (Oi (fun v h' => v = spChan t x y z w ∧ h' = h)) := by
  have b0 := B.S
  refine MA.intro (lv := [some (.ref m), some (.int x), some (.int y), some (.int z), some (.int w), none]) (by decide) (Nat.le_of_ble_eq_true rfl) rfl (fun F C => ?_)
  refine r_aload_n (pc := 0) C dX6_channel_0 rfl rfl ?_
  refine r_iload_n (pc := 1) C dX6_channel_1 rfl rfl ?_
  refine r_iload_n (pc := 2) C dX6_channel_2 rfl rfl ?_
  refine r_iload_n (pc := 3) C dX6_channel_3 rfl rfl ?_
  refine r_calli (cr_V (pc := 4) C (c_X6_isChannel E B _ _ _) dX6_channel_4 cm_X6_isChannel ml_X6_174 im_X6_isChannel se_X6_isChannel E.L.o rfl ⟨⟨Nat.le_of_ble_eq_true rfl, Nat.le_of_ble_eq_true rfl⟩, Nat.le_of_ble_eq_true rfl, Nat.le_of_ble_eq_true rfl⟩ rfl rfl (Nat.le_of_ble_eq_true rfl)) (fun v4 h4 hq4 => ?_)
  obtain ⟨rfl, rfl⟩ := hq4
  refine b_if_ne (pc := 7) (tgt := 13) C dX6_channel_7 (by decide) (fun c7 => ?_) (fun c7 => ?_)
  · obtain ⟨g, hg, rfl, ⟨f, hf, rfl⟩, q, hq, rfl⟩ := id c7
    have b1 := B.P (s := g) (by omega)
    have b2 := B.P (s := g + 1) (by omega)
    have b3 := (B.bool (16 * g + 4 * f + q)).1
    have e0 : spChan t (nI g) (nI f) (nI q) w = (match swN 3 w with | 0 => nI (tC t (16 * g + 4 * f + q)).length | 1 => nI (tN t 4 (16 * g + 4 * f + q)) - 1 | 2 => nI (tN t 5 (16 * g + 4 * f + q)) | 3 => bI (shut t (g + 1) q (16 * g + 4 * f + q)) | _ => -102) := (cif_t c7).trans (by rw [cl (by omega), cl (by omega), cl (by omega)])
    rw [e0]
    refine r_iload_n (pc := 13) C dX6_channel_13 rfl rfl ?_
    refine r_iload_n (pc := 14) C dX6_channel_14 rfl rfl ?_
    refine r_iload_n (pc := 15) C dX6_channel_15 rfl rfl ?_
    refine r_calli (cr_S (pc := 16) C (c_X6_at _ g f q) dX6_channel_16 cm_X6_at ml_X6_118 st_X6_at ⟨⟨Nat.le_of_ble_eq_true rfl, Nat.le_of_ble_eq_true rfl⟩, Nat.le_of_ble_eq_true rfl, Nat.le_of_ble_eq_true rfl⟩ rfl rfl (Nat.le_of_ble_eq_true rfl)) (fun v16 h16 hq16 => ?_)
    obtain ⟨rfl, rfl⟩ := hq16
    refine r_istore (pc := 19) (lv' := [_, _, _, _, _, _]) C dX6_channel_19 (by decide) rfl rfl ?_
    refine r_iload (pc := 21) C dX6_channel_21 rfl ?_
    rcases sw3 w with rfl | rfl | rfl | rfl | hsw23
    · refine r_tableIn (pc := 23) (tgt := 52) (off := 29) C dX6_channel_23 (by decide) (by decide) (by decide) (by decide) ?_
      refine r_aload_n (pc := 52) C dX6_channel_52 rfl rfl ?_
      refine r_getR (pc := 53) C fl_X6_36 E.L.o rfl E.L.r11 dX6_channel_53 ?_
      refine r_iload (pc := 56) C dX6_channel_56 rfl ?_
      refine n_iald (pc := 58) C E.L.s11 (by omega) (E.k_held _ (by omega)) dX6_channel_58 ?_
      exact r_iret (pc := 59) C rfl (Nat.le_of_ble_eq_true rfl) (Nat.le_of_ble_eq_true rfl) ⟨_, rfl, ⟨rfl, rfl⟩⟩ dX6_channel_59
    · refine r_tableIn (pc := 23) (tgt := 60) (off := 37) C dX6_channel_23 (by decide) (by decide) (by decide) (by decide) ?_
      refine r_aload_n (pc := 60) C dX6_channel_60 rfl rfl ?_
      refine r_getR (pc := 61) C fl_X6_39 E.L.o rfl E.L.r12 dX6_channel_61 ?_
      refine r_iload (pc := 64) C dX6_channel_64 rfl ?_
      refine n_iald (pc := 66) C E.L.s12 (by omega) (E.k_bar _ (by omega)) dX6_channel_66 ?_
      exact r_iret (pc := 67) C rfl (Nat.le_of_ble_eq_true rfl) (Nat.le_of_ble_eq_true rfl) ⟨_, rfl, ⟨rfl, rfl⟩⟩ dX6_channel_67
    · refine r_tableIn (pc := 23) (tgt := 68) (off := 45) C dX6_channel_23 (by decide) (by decide) (by decide) (by decide) ?_
      refine r_aload_n (pc := 68) C dX6_channel_68 rfl rfl ?_
      refine r_getR (pc := 69) C fl_X6_42 E.L.o rfl E.L.r13 dX6_channel_69 ?_
      refine r_iload (pc := 72) C dX6_channel_72 rfl ?_
      refine n_zald (pc := 74) C E.L.s13 (by omega) (E.k_came _ (by omega)) dX6_channel_74 ?_
      refine n_if_eq (pc := 75) (tgt := 82) C (by omega) dX6_channel_75 (by decide) (fun c75 => ?_) (fun c75 => ?_)
      · refine r_iconst (pc := 82) (v := (nI 0)) C dX6_channel_82 (by decide) ?_
        exact r_iret (pc := 83) C rfl (Nat.le_of_ble_eq_true rfl) (Nat.le_of_ble_eq_true rfl) ⟨_, rfl, ⟨by first | exact congrArg nI (show 1 = tN t 5 (16 * g + 4 * f + q) by omega) | exact congrArg nI (show 0 = tN t 5 (16 * g + 4 * f + q) by omega), rfl⟩⟩ dX6_channel_83
      · refine r_iconst (pc := 78) (v := (nI 1)) C dX6_channel_78 (by decide) ?_
        refine r_goto (pc := 79) (tgt := 83) C dX6_channel_79 (by decide) ?_
        exact r_iret (pc := 83) C rfl (Nat.le_of_ble_eq_true rfl) (Nat.le_of_ble_eq_true rfl) ⟨_, rfl, ⟨by first | exact congrArg nI (show 1 = tN t 5 (16 * g + 4 * f + q) by omega) | exact congrArg nI (show 0 = tN t 5 (16 * g + 4 * f + q) by omega), rfl⟩⟩ dX6_channel_83
    · refine r_tableIn (pc := 23) (tgt := 84) (off := 61) C dX6_channel_23 (by decide) (by decide) (by decide) (by decide) ?_
      refine r_aload_n (pc := 84) C dX6_channel_84 rfl rfl ?_
      refine r_iload_n (pc := 85) C dX6_channel_85 rfl rfl ?_
      refine r_iconst (pc := 86) (v := (nI 1)) C dX6_channel_86 (by decide) ?_
      refine n_iadd (pc := 87) C dX6_channel_87 ?_
      refine r_iload_n (pc := 88) C dX6_channel_88 rfl rfl ?_
      refine r_iload (pc := 89) C dX6_channel_89 rfl ?_
      refine r_calli (cr_V (pc := 91) C (c_X6_isShut E B (s := g + 1) (q := q) (by omega) (by omega) (by omega)) dX6_channel_91 cm_X6_isShut ml_X6_146 im_X6_isShut se_X6_isShut E.L.o rfl ⟨⟨Nat.le_of_ble_eq_true rfl, Nat.le_of_ble_eq_true rfl⟩, Nat.le_of_ble_eq_true rfl, Nat.le_of_ble_eq_true rfl⟩ rfl rfl (Nat.le_of_ble_eq_true rfl)) (fun v91 h91 hq91 => ?_)
      obtain ⟨rfl, rfl⟩ := hq91
      refine b_if_eq (pc := 94) (tgt := 101) C dX6_channel_94 (by decide) (fun c94 => ?_) (fun c94 => ?_)
      · refine r_iconst (pc := 101) (v := (nI 0)) C dX6_channel_101 (by decide) ?_
        exact r_iret (pc := 102) C rfl (Nat.le_of_ble_eq_true rfl) (Nat.le_of_ble_eq_true rfl) ⟨_, rfl, ⟨by first | exact tt1 c94 | exact ff0 c94, rfl⟩⟩ dX6_channel_102
      · refine r_iconst (pc := 97) (v := (nI 1)) C dX6_channel_97 (by decide) ?_
        refine r_goto (pc := 98) (tgt := 102) C dX6_channel_98 (by decide) ?_
        exact r_iret (pc := 102) C rfl (Nat.le_of_ble_eq_true rfl) (Nat.le_of_ble_eq_true rfl) ⟨_, rfl, ⟨by first | exact tt1 c94 | exact ff0 c94, rfl⟩⟩ dX6_channel_102
    · refine r_tableOut (pc := 23) (tgt := 103) C dX6_channel_23 hsw23 (by decide) ?_
      refine r_bipush (pc := 103) (v := (-102)) C dX6_channel_103 (by decide) ?_
      exact r_iret (pc := 105) C rfl (Nat.le_of_ble_eq_true rfl) (Nat.le_of_ble_eq_true rfl) ⟨_, rfl, ⟨by rw [swN_out hsw23]; rfl, rfl⟩⟩ dX6_channel_105
  · refine r_bipush (pc := 10) (v := (-101)) C dX6_channel_10 (by decide) ?_
    exact r_iret (pc := 12) C rfl (Nat.le_of_ble_eq_true rfl) (Nat.le_of_ble_eq_true rfl) ⟨_, rfl, ⟨(cif_f c7).symm, rfl⟩⟩ dX6_channel_12
theorem c_X6_key {G : GP} {m : Nat} {t : TS} {h : AH} (E : RM m t h) (B : TB t) (x y z w : Int32) : MA G mX6_key 2 0 0 [.ref m, .int x, .int y, .int z, .int w] h (Oi (fun v h' => v = spKey t x y z w ∧ h' = h)) := by
  have b0 := B.S
  have b4 := B.fed
  refine MA.intro (lv := [some (.ref m), some (.int x), some (.int y), some (.int z), some (.int w), none]) (by decide) (Nat.le_of_ble_eq_true rfl) rfl (fun F C => ?_)
  refine r_aload_n (pc := 0) C dX6_key_0 rfl rfl ?_
  refine r_iload_n (pc := 1) C dX6_key_1 rfl rfl ?_
  refine r_iload_n (pc := 2) C dX6_key_2 rfl rfl ?_
  refine r_iload_n (pc := 3) C dX6_key_3 rfl rfl ?_
  refine r_calli (cr_V (pc := 4) C (c_X6_isChannel E B _ _ _) dX6_key_4 cm_X6_isChannel ml_X6_174 im_X6_isChannel se_X6_isChannel E.L.o rfl ⟨⟨Nat.le_of_ble_eq_true rfl, Nat.le_of_ble_eq_true rfl⟩, Nat.le_of_ble_eq_true rfl, Nat.le_of_ble_eq_true rfl⟩ rfl rfl (Nat.le_of_ble_eq_true rfl)) (fun v4 h4 hq4 => ?_)
  obtain ⟨rfl, rfl⟩ := hq4
  refine b_if_ne (pc := 7) (tgt := 13) C dX6_key_7 (by decide) (fun c7 => ?_) (fun c7 => ?_)
  · obtain ⟨g, hg, rfl, ⟨f, hf, rfl⟩, q, hq, rfl⟩ := id c7
    have b1 := B.P (s := g) (by omega)
    have b2 := B.P (s := g + 1) (by omega)
    have b3 := B.len (16 * g + 4 * f + q)
    have e0 : spKey t (nI g) (nI f) (nI q) w = cif (inN w (tC t (16 * g + 4 * f + q)).length) (nI (tN t 2 ((tC t (16 * g + 4 * f + q)).getD w.toNatClampNeg 0))) (-1) := (cif_t c7).trans (by rw [cl (by omega), cl (by omega), cl (by omega)])
    rw [e0]
    refine r_iload_n (pc := 13) C dX6_key_13 rfl rfl ?_
    refine r_iload_n (pc := 14) C dX6_key_14 rfl rfl ?_
    refine r_iload_n (pc := 15) C dX6_key_15 rfl rfl ?_
    refine r_calli (cr_S (pc := 16) C (c_X6_at _ g f q) dX6_key_16 cm_X6_at ml_X6_118 st_X6_at ⟨⟨Nat.le_of_ble_eq_true rfl, Nat.le_of_ble_eq_true rfl⟩, Nat.le_of_ble_eq_true rfl, Nat.le_of_ble_eq_true rfl⟩ rfl rfl (Nat.le_of_ble_eq_true rfl)) (fun v16 h16 hq16 => ?_)
    obtain ⟨rfl, rfl⟩ := hq16
    refine r_istore (pc := 19) (lv' := [_, _, _, _, _, _]) C dX6_key_19 (by decide) rfl rfl ?_
    refine r_iload (pc := 21) C dX6_key_21 rfl ?_
    refine r_iconst (pc := 23) (v := (nI 0)) C dX6_key_23 (by decide) ?_
    refine r_aload_n (pc := 24) C dX6_key_24 rfl rfl ?_
    refine r_getR (pc := 25) C fl_X6_36 E.L.o rfl E.L.r11 dX6_key_25 ?_
    refine r_iload (pc := 28) C dX6_key_28 rfl ?_
    refine n_iald (pc := 30) C E.L.s11 (by omega) (E.k_held _ (by omega)) dX6_key_30 ?_
    refine r_iconst (pc := 31) (v := (nI 1)) C dX6_key_31 (by decide) ?_
    refine r_isub (pc := 32) C dX6_key_32 ?_
    refine r_calli (cr_S (pc := 33) C (c_X6_in _ _ _ _) dX6_key_33 cm_X6_in ml_X6_94 st_X6_in ⟨⟨Nat.le_of_ble_eq_true rfl, Nat.le_of_ble_eq_true rfl⟩, Nat.le_of_ble_eq_true rfl, Nat.le_of_ble_eq_true rfl⟩ rfl rfl (Nat.le_of_ble_eq_true rfl)) (fun v33 h33 hq33 => ?_)
    obtain ⟨rfl, rfl⟩ := hq33
    rw [bI_congr (inN_iff0 (by omega))]
    refine b_if_eq (pc := 36) (tgt := 61) C dX6_key_36 (by decide) (fun c36 => ?_) (fun c36 => ?_)
    · refine r_iconst (pc := 61) (v := (-1)) C dX6_key_61 (by decide) ?_
      exact r_iret (pc := 62) C rfl (Nat.le_of_ble_eq_true rfl) (Nat.le_of_ble_eq_true rfl) ⟨_, rfl, ⟨by first | (rw [cif_t c36, cl (by omega)]; done) | (rw [cif_f c36]; done), rfl⟩⟩ dX6_key_62
    · obtain ⟨i, hi, rfl⟩ := id c36
      have b5 := B.row (mem_getD hi)
      refine r_aload_n (pc := 39) C dX6_key_39 rfl rfl ?_
      refine r_getR (pc := 40) C fl_X6_20 E.L.o rfl E.L.r6 dX6_key_40 ?_
      refine r_aload_n (pc := 43) C dX6_key_43 rfl rfl ?_
      refine r_getR (pc := 44) C fl_X6_33 E.L.o rfl E.L.r10 dX6_key_44 ?_
      refine r_sipush (pc := 47) (v := (nI 200)) C dX6_key_47 (by decide) ?_
      refine r_iload (pc := 50) C dX6_key_50 rfl ?_
      refine n_imul (pc := 52) C dX6_key_52 ?_
      refine r_iload (pc := 53) C dX6_key_53 rfl ?_
      refine n_iadd (pc := 55) C dX6_key_55 ?_
      refine n_iald (pc := 56) C E.L.s10 (by omega) (E.k_rows _ (by omega) _ (by omega)) dX6_key_56 ?_
      refine n_iald (pc := 57) C E.L.s6 (by omega) (E.k_key _ (by omega)) dX6_key_57 ?_
      refine r_goto (pc := 58) (tgt := 62) C dX6_key_58 (by decide) ?_
      exact r_iret (pc := 62) C rfl (Nat.le_of_ble_eq_true rfl) (Nat.le_of_ble_eq_true rfl) ⟨_, rfl, ⟨by first | (rw [cif_t c36, cl (by omega)]; done) | (rw [cif_f c36]; done), rfl⟩⟩ dX6_key_62
  · refine r_bipush (pc := 10) (v := (-101)) C dX6_key_10 (by decide) ?_
    exact r_iret (pc := 12) C rfl (Nat.le_of_ble_eq_true rfl) (Nat.le_of_ble_eq_true rfl) ⟨_, rfl, ⟨(cif_f c7).symm, rfl⟩⟩ dX6_key_12
theorem c_X6_value {G : GP} {m : Nat} {t : TS} {h : AH} (E : RM m t h) (B : TB t) (x y z w : Int32) : MA G mX6_value 2 0 0 [.ref m, .int x, .int y, .int z, .int w] h (Ol (fun v h' => v = spVal t x y z w ∧ h' = h)) := by
  have b0 := B.S
  have b4 := B.fed
  refine MA.intro (lv := [some (.ref m), some (.int x), some (.int y), some (.int z), some (.int w), none]) (by decide) (Nat.le_of_ble_eq_true rfl) rfl (fun F C => ?_)
  have t0 : spVal t x y z w = 0 → WA G F mX6_value h 0 0 (MQA G F 0 0 (Ol (fun v h' => v = spVal t x y z w ∧ h' = h))) 36 [some (.ref m), some (.int x), some (.int y), some (.int z), some (.int w), none] [] := by
    intro e
    refine r_iconst (pc := 36) (v := (nI 0)) C dX6_value_36 (by decide) ?_
    refine r_istore (pc := 37) (lv' := [_, _, _, _, _, _]) C dX6_value_37 (by decide) rfl rfl ?_
    refine r_iload (pc := 39) C dX6_value_39 rfl ?_
    refine n_if_eq (pc := 41) (tgt := 70) C (by omega) dX6_value_41 (by decide) (fun c41 => ?_) (fun c41 => absurd c41 (by decide))
    refine r_lconst (pc := 70) (v := 0) C dX6_value_70 (by decide) ?_
    exact r_lret (pc := 71) C rfl (Nat.le_of_ble_eq_true rfl) (Nat.le_of_ble_eq_true rfl) ⟨_, rfl, ⟨e.symm, rfl⟩⟩ dX6_value_71
  have t1 : ∀ g f q i, inC t (nI g) (nI f) (nI q) → g + 1 < tN t 0 0 → f < tN t 1 g → q < tN t 1 (g + 1) → i < (tC t (16 * g + 4 * f + q)).length → WA G F mX6_value h 0 0 (MQA G F 0 0 (Ol (fun v h' => v = spVal t (nI g) (nI f) (nI q) (nI i) ∧ h' = h))) 32 [some (.ref m), some (.int (nI g)), some (.int (nI f)), some (.int (nI q)), some (.int (nI i)), none] [] := by
    intro g f q i c7 hg hf hq hi
    have b1 := B.P (s := g) (by omega)
    have b2 := B.P (s := g + 1) (by omega)
    have b3 := B.len (16 * g + 4 * f + q)
    have b5 := B.row (mem_getD hi)
    refine r_iconst (pc := 32) (v := (nI 1)) C dX6_value_32 (by decide) ?_
    refine r_goto (pc := 33) (tgt := 37) C dX6_value_33 (by decide) ?_
    refine r_istore (pc := 37) (lv' := [_, _, _, _, _, _]) C dX6_value_37 (by decide) rfl rfl ?_
    refine r_iload (pc := 39) C dX6_value_39 rfl ?_
    refine n_if_eq (pc := 41) (tgt := 70) C (by omega) dX6_value_41 (by decide) (fun c41 => absurd c41 (by decide)) (fun c41 => ?_)
    refine r_aload_n (pc := 44) C dX6_value_44 rfl rfl ?_
    refine r_getR (pc := 45) C fl_X6_23 E.L.o rfl E.L.r7 dX6_value_45 ?_
    refine r_aload_n (pc := 48) C dX6_value_48 rfl rfl ?_
    refine r_getR (pc := 49) C fl_X6_33 E.L.o rfl E.L.r10 dX6_value_49 ?_
    refine r_sipush (pc := 52) (v := (nI 200)) C dX6_value_52 (by decide) ?_
    refine r_iload_n (pc := 55) C dX6_value_55 rfl rfl ?_
    refine r_iload_n (pc := 56) C dX6_value_56 rfl rfl ?_
    refine r_iload_n (pc := 57) C dX6_value_57 rfl rfl ?_
    refine r_calli (cr_S (pc := 58) C (c_X6_at _ g f q) dX6_value_58 cm_X6_at ml_X6_118 st_X6_at ⟨⟨Nat.le_of_ble_eq_true rfl, Nat.le_of_ble_eq_true rfl⟩, Nat.le_of_ble_eq_true rfl, Nat.le_of_ble_eq_true rfl⟩ rfl rfl (Nat.le_of_ble_eq_true rfl)) (fun v58 h58 hq58 => ?_)
    obtain ⟨rfl, rfl⟩ := hq58
    refine n_imul (pc := 61) C dX6_value_61 ?_
    refine r_iload (pc := 62) C dX6_value_62 rfl ?_
    refine n_iadd (pc := 64) C dX6_value_64 ?_
    refine n_iald (pc := 65) C E.L.s10 (by omega) (E.k_rows _ (by omega) _ (by omega)) dX6_value_65 ?_
    refine n_lald (pc := 66) C E.L.s7 (by omega) (E.k_val _ (by omega)) dX6_value_66 ?_
    refine r_goto (pc := 67) (tgt := 71) C dX6_value_67 (by decide) ?_
    exact r_lret (pc := 71) C rfl (Nat.le_of_ble_eq_true rfl) (Nat.le_of_ble_eq_true rfl) ⟨_, rfl, ⟨((cif_t c7).trans (by rw [cl (by omega), cl (by omega), cl (by omega), cif_t ⟨i, hi, rfl⟩, cl (by omega)])).symm, rfl⟩⟩ dX6_value_71
  refine r_aload_n (pc := 0) C dX6_value_0 rfl rfl ?_
  refine r_iload_n (pc := 1) C dX6_value_1 rfl rfl ?_
  refine r_iload_n (pc := 2) C dX6_value_2 rfl rfl ?_
  refine r_iload_n (pc := 3) C dX6_value_3 rfl rfl ?_
  refine r_calli (cr_V (pc := 4) C (c_X6_isChannel E B _ _ _) dX6_value_4 cm_X6_isChannel ml_X6_174 im_X6_isChannel se_X6_isChannel E.L.o rfl ⟨⟨Nat.le_of_ble_eq_true rfl, Nat.le_of_ble_eq_true rfl⟩, Nat.le_of_ble_eq_true rfl, Nat.le_of_ble_eq_true rfl⟩ rfl rfl (Nat.le_of_ble_eq_true rfl)) (fun v4 h4 hq4 => ?_)
  obtain ⟨rfl, rfl⟩ := hq4
  refine b_if_eq (pc := 7) (tgt := 36) C dX6_value_7 (by decide) (fun c7 => ?_) (fun c7 => ?_)
  · exact t0 (cif_f c7)
  · obtain ⟨g, hg, rfl, ⟨f, hf, rfl⟩, q, hq, rfl⟩ := id c7
    have b1 := B.P (s := g) (by omega)
    have b2 := B.P (s := g + 1) (by omega)
    have b3 := B.len (16 * g + 4 * f + q)
    refine r_iload (pc := 10) C dX6_value_10 rfl ?_
    refine r_iconst (pc := 12) (v := (nI 0)) C dX6_value_12 (by decide) ?_
    refine r_aload_n (pc := 13) C dX6_value_13 rfl rfl ?_
    refine r_getR (pc := 14) C fl_X6_36 E.L.o rfl E.L.r11 dX6_value_14 ?_
    refine r_iload_n (pc := 17) C dX6_value_17 rfl rfl ?_
    refine r_iload_n (pc := 18) C dX6_value_18 rfl rfl ?_
    refine r_iload_n (pc := 19) C dX6_value_19 rfl rfl ?_
    refine r_calli (cr_S (pc := 20) C (c_X6_at _ g f q) dX6_value_20 cm_X6_at ml_X6_118 st_X6_at ⟨⟨Nat.le_of_ble_eq_true rfl, Nat.le_of_ble_eq_true rfl⟩, Nat.le_of_ble_eq_true rfl, Nat.le_of_ble_eq_true rfl⟩ rfl rfl (Nat.le_of_ble_eq_true rfl)) (fun v20 h20 hq20 => ?_)
    obtain ⟨rfl, rfl⟩ := hq20
    refine n_iald (pc := 23) C E.L.s11 (by omega) (E.k_held _ (by omega)) dX6_value_23 ?_
    refine r_iconst (pc := 24) (v := (nI 1)) C dX6_value_24 (by decide) ?_
    refine r_isub (pc := 25) C dX6_value_25 ?_
    refine r_calli (cr_S (pc := 26) C (c_X6_in _ _ _ _) dX6_value_26 cm_X6_in ml_X6_94 st_X6_in ⟨⟨Nat.le_of_ble_eq_true rfl, Nat.le_of_ble_eq_true rfl⟩, Nat.le_of_ble_eq_true rfl, Nat.le_of_ble_eq_true rfl⟩ rfl rfl (Nat.le_of_ble_eq_true rfl)) (fun v26 h26 hq26 => ?_)
    obtain ⟨rfl, rfl⟩ := hq26
    rw [bI_congr (inN_iff0 (by omega))]
    refine b_if_eq (pc := 29) (tgt := 36) C dX6_value_29 (by decide) (fun c29 => ?_) (fun c29 => ?_)
    · exact t0 ((cif_t c7).trans (by rw [cl (by omega), cl (by omega), cl (by omega), cif_f c29]))
    · obtain ⟨i, hi, rfl⟩ := id c29
      exact t1 g f q i c7 hg hf hq hi
/-- how many of the first n channels are loose in a mark -/
def lsN (t : TS) (j : Nat) : Nat → Nat
  | 0 => 0
  | n + 1 => lsN t j n + tN t 12 (48 * j + n)
noncomputable def spMarked (t : TS) (x w : Int32) : Int32 := cif (inN x (tN t 0 4)) (match swN 3 w with
  | 0 => nI (tN t 9 x.toNatClampNeg)
  | 1 => nI (tK t x.toNatClampNeg).length
  | 2 => nI (lsN t x.toNatClampNeg 48)
  | 3 => if tN t 0 5 = x.toNatClampNeg + 1 then tI t 0 1 - tI t 2 x.toNatClampNeg else tI t 3 x.toNatClampNeg
  | _ => cif (nI 10 ≤ w ∧ inN (w - nI 10) (tN t 0 0)) (nI (tN t 10 (4 * x.toNatClampNeg + (w - nI 10).toNatClampNeg))) (-102)) (-101)
section MB36
variable {G : GP} {F : FX} {m : Nat} {Q : State → Prop}
theorem marked_l (C : CX G F mX6_marked (Rm 2 0 0)) {t : TS} {h : AH} (E : RM m t h) (B : TB t) {j : Nat} (hj : j < 8) {w : Int32} (k : WA G F mX6_marked h 0 0 Q 52 [some (.ref m), some (.int (nI j)), some (.int w), some (.int (nI (lsN t j 48))), some (.int (nI 48))] []) :
    ∀ (n i b : Nat), i + n = 48 → b = lsN t j i → WA G F mX6_marked h 0 0 Q 16 [some (.ref m), some (.int (nI j)), some (.int w), some (.int (nI b)), some (.int (nI i))] [] := by
  intro n
  induction n with
  | zero =>
    intro i b hi hb
    obtain rfl : i = 48 := by omega
    subst hb
    refine r_iload (pc := 16) C dX6_marked_16 rfl ?_
    refine r_bipush (pc := 18) (v := (nI 48)) C dX6_marked_18 (by decide) ?_
    refine n_icmp_ge (pc := 20) (tgt := 52) C (by omega) (by omega) dX6_marked_20 (by decide) (fun c20 => ?_) (fun c20 => absurd c20 (by omega))
    exact k
  | succ n ih =>
    intro i b hi hb
    have b2 := (B.bool (48 * j + i)).2.2.2
    refine r_iload (pc := 16) C dX6_marked_16 rfl ?_
    refine r_bipush (pc := 18) (v := (nI 48)) C dX6_marked_18 (by decide) ?_
    refine n_icmp_ge (pc := 20) (tgt := 52) C (by omega) (by omega) dX6_marked_20 (by decide) (fun c20 => absurd c20 (by omega)) (fun c20 => ?_)
    refine r_iload_n (pc := 23) C dX6_marked_23 rfl rfl ?_
    refine r_aload_n (pc := 24) C dX6_marked_24 rfl rfl ?_
    refine r_getR (pc := 25) C fl_X6_88 E.L.o rfl E.L.r30 dX6_marked_25 ?_
    refine r_bipush (pc := 28) (v := (nI 48)) C dX6_marked_28 (by decide) ?_
    refine r_iload_n (pc := 30) C dX6_marked_30 rfl rfl ?_
    refine n_imul (pc := 31) C dX6_marked_31 ?_
    refine r_iload (pc := 32) C dX6_marked_32 rfl ?_
    refine n_iadd (pc := 34) C dX6_marked_34 ?_
    refine n_zald (pc := 35) C E.L.s30 (by omega) (E.k_loose _ (by omega)) dX6_marked_35 ?_
    refine n_if_eq (pc := 36) (tgt := 43) C (by omega) dX6_marked_36 (by decide) (fun c36 => ?_) (fun c36 => ?_)
    · refine r_iconst (pc := 43) (v := (nI 0)) C dX6_marked_43 (by decide) ?_
      refine n_iadd (pc := 44) C dX6_marked_44 ?_
      refine r_istore_n (pc := 45) (lv' := [_, _, _, _, _]) C dX6_marked_45 rfl (by decide) rfl rfl ?_
      refine n_iinc (pc := 46) (lv' := [_, _, _, _, _]) C dX6_marked_46 rfl (by decide) rfl rfl ?_
      refine r_goto (pc := 49) (tgt := 16) C dX6_marked_49 (by decide) ?_
      exact ih (i + 1) _ (by omega) (by unfold lsN; omega)
    · refine r_iconst (pc := 39) (v := (nI 1)) C dX6_marked_39 (by decide) ?_
      refine r_goto (pc := 40) (tgt := 44) C dX6_marked_40 (by decide) ?_
      refine n_iadd (pc := 44) C dX6_marked_44 ?_
      refine r_istore_n (pc := 45) (lv' := [_, _, _, _, _]) C dX6_marked_45 rfl (by decide) rfl rfl ?_
      refine n_iinc (pc := 46) (lv' := [_, _, _, _, _]) C dX6_marked_46 rfl (by decide) rfl rfl ?_
      refine r_goto (pc := 49) (tgt := 16) C dX6_marked_49 (by decide) ?_
      exact ih (i + 1) _ (by omega) (by unfold lsN; omega)
end MB36
theorem uw_eq {u j : Nat} (hu : u < 2147483648) (hj : j < 2147483647) : nI j = nI u - 1 ↔ u = j + 1 := by
  cases u with
  | zero =>
    constructor
    · intro e; exact absurd (e.trans (by decide : nI 0 - 1 = -1)) (nI_m1 (by omega))
    · intro e; omega
  | succ v => rw [nI_pred, nI_eq (by omega) (by omega)]; omega
theorem c_X6_marked {G : GP} {m : Nat} {t : TS} {h : AH} (E : RM m t h) (B : TB t) (x w : Int32) : MA G mX6_marked 2 0 0 [.ref m, .int x, .int w] h (Oi (fun v h' => v = spMarked t x w ∧ h' = h)) := by
  have b0 := B.S
  have b1 := B.marks
  have b2 := B.uw
  refine MA.intro (lv := [some (.ref m), some (.int x), some (.int w), none, none]) (by decide) (Nat.le_of_ble_eq_true rfl) rfl (fun F C => ?_)
  have tl : ∀ j, j < tN t 0 4 → inN (nI j) (tN t 0 4) → WA G F mX6_marked h 0 0 (MQA G F 0 0 (Oi (fun v h' => v = spMarked t (nI j) w ∧ h' = h))) 52 [some (.ref m), some (.int (nI j)), some (.int w), some (.int (nI (lsN t j 48))), some (.int (nI 48))] [] := by
    intro j hj hin
    have e0 : spMarked t (nI j) w = (match swN 3 w with | 0 => nI (tN t 9 j) | 1 => nI (tK t j).length | 2 => nI (lsN t j 48) | 3 => if tN t 0 5 = j + 1 then tI t 0 1 - tI t 2 j else tI t 3 j | _ => cif (nI 10 ≤ w ∧ inN (w - nI 10) (tN t 0 0)) (nI (tN t 10 (4 * j + (w - nI 10).toNatClampNeg))) (-102)) := (cif_t hin).trans (by rw [cl (by omega)])
    rw [e0]
    refine r_iload_n (pc := 52) C dX6_marked_52 rfl rfl ?_
    rcases sw3 w with rfl | rfl | rfl | rfl | hsw53
    · refine r_tableIn (pc := 53) (tgt := 84) (off := 31) C dX6_marked_53 (by decide) (by decide) (by decide) (by decide) ?_
      refine r_aload_n (pc := 84) C dX6_marked_84 rfl rfl ?_
      refine r_getR (pc := 85) C fl_X6_61 E.L.o rfl E.L.r21 dX6_marked_85 ?_
      refine r_iload_n (pc := 88) C dX6_marked_88 rfl rfl ?_
      refine n_iald (pc := 89) C E.L.s21 (by omega) (E.k_stat _ (by omega)) dX6_marked_89 ?_
      exact r_iret (pc := 90) C rfl (Nat.le_of_ble_eq_true rfl) (Nat.le_of_ble_eq_true rfl) ⟨_, rfl, ⟨rfl, rfl⟩⟩ dX6_marked_90
    · refine r_tableIn (pc := 53) (tgt := 91) (off := 38) C dX6_marked_53 (by decide) (by decide) (by decide) (by decide) ?_
      refine r_aload_n (pc := 91) C dX6_marked_91 rfl rfl ?_
      refine r_getR (pc := 92) C fl_X6_79 E.L.o rfl E.L.r27 dX6_marked_92 ?_
      refine r_iload_n (pc := 95) C dX6_marked_95 rfl rfl ?_
      refine n_iald (pc := 96) C E.L.s27 (by omega) (E.k_klen _ (by omega)) dX6_marked_96 ?_
      exact r_iret (pc := 97) C rfl (Nat.le_of_ble_eq_true rfl) (Nat.le_of_ble_eq_true rfl) ⟨_, rfl, ⟨rfl, rfl⟩⟩ dX6_marked_97
    · refine r_tableIn (pc := 53) (tgt := 98) (off := 45) C dX6_marked_53 (by decide) (by decide) (by decide) (by decide) ?_
      refine r_iload_n (pc := 98) C dX6_marked_98 rfl rfl ?_
      exact r_iret (pc := 99) C rfl (Nat.le_of_ble_eq_true rfl) (Nat.le_of_ble_eq_true rfl) ⟨_, rfl, ⟨rfl, rfl⟩⟩ dX6_marked_99
    · refine r_tableIn (pc := 53) (tgt := 100) (off := 47) C dX6_marked_53 (by decide) (by decide) (by decide) (by decide) ?_
      refine r_iload_n (pc := 100) C dX6_marked_100 rfl rfl ?_
      refine r_aload_n (pc := 101) C dX6_marked_101 rfl rfl ?_
      refine r_getIe (pc := 102) C fl_X6_58 E.L.o rfl E.uw dX6_marked_102 ?_
      refine r_icmp_ne (pc := 105) (tgt := 122) C dX6_marked_105 (by decide) (fun c105 => ?_) (fun c105 => ?_)
      · refine r_aload_n (pc := 122) C dX6_marked_122 rfl rfl ?_
        refine r_getR (pc := 123) C fl_X6_67 E.L.o rfl E.L.r23 dX6_marked_123 ?_
        refine r_iload_n (pc := 126) C dX6_marked_126 rfl rfl ?_
        refine n_iald (pc := 127) C E.L.s23 (by omega) (E.k_last _ (by omega)) dX6_marked_127 ?_
        exact r_iret (pc := 128) C rfl (Nat.le_of_ble_eq_true rfl) (Nat.le_of_ble_eq_true rfl) ⟨_, rfl, ⟨by first | exact (if_pos ((uw_eq (by omega) (by omega)).mp c105)).symm | exact (if_neg (fun z => c105 ((uw_eq (by omega) (by omega)).mpr z))).symm, rfl⟩⟩ dX6_marked_128
      · refine r_aload_n (pc := 108) C dX6_marked_108 rfl rfl ?_
        refine r_getIe (pc := 109) C fl_X6_102 E.L.o rfl E.turns dX6_marked_109 ?_
        refine r_aload_n (pc := 112) C dX6_marked_112 rfl rfl ?_
        refine r_getR (pc := 113) C fl_X6_64 E.L.o rfl E.L.r22 dX6_marked_113 ?_
        refine r_iload_n (pc := 116) C dX6_marked_116 rfl rfl ?_
        refine n_iald (pc := 117) C E.L.s22 (by omega) (E.k_begun _ (by omega)) dX6_marked_117 ?_
        refine r_isub (pc := 118) C dX6_marked_118 ?_
        refine r_goto (pc := 119) (tgt := 128) C dX6_marked_119 (by decide) ?_
        exact r_iret (pc := 128) C rfl (Nat.le_of_ble_eq_true rfl) (Nat.le_of_ble_eq_true rfl) ⟨_, rfl, ⟨by first | exact (if_pos ((uw_eq (by omega) (by omega)).mp c105)).symm | exact (if_neg (fun z => c105 ((uw_eq (by omega) (by omega)).mpr z))).symm, rfl⟩⟩ dX6_marked_128
    · refine r_tableOut (pc := 53) (tgt := 129) C dX6_marked_53 hsw53 (by decide) ?_
      rw [show (match swN 3 w with | 0 => nI (tN t 9 j) | 1 => nI (tK t j).length | 2 => nI (lsN t j 48) | 3 => if tN t 0 5 = j + 1 then tI t 0 1 - tI t 2 j else tI t 3 j | _ => cif (nI 10 ≤ w ∧ inN (w - nI 10) (tN t 0 0)) (nI (tN t 10 (4 * j + (w - nI 10).toNatClampNeg))) (-102)) = cif (nI 10 ≤ w ∧ inN (w - nI 10) (tN t 0 0)) (nI (tN t 10 (4 * j + (w - nI 10).toNatClampNeg))) (-102) from by rw [swN_out hsw53]; rfl]
      refine r_iload_n (pc := 129) C dX6_marked_129 rfl rfl ?_
      refine r_bipush (pc := 130) (v := (nI 10)) C dX6_marked_130 (by decide) ?_
      refine r_icmp_lt (pc := 132) (tgt := 162) C dX6_marked_132 (by decide) (fun c132 => ?_) (fun c132 => ?_)
      · refine r_bipush (pc := 162) (v := (-102)) C dX6_marked_162 (by decide) ?_
        exact r_iret (pc := 164) C rfl (Nat.le_of_ble_eq_true rfl) (Nat.le_of_ble_eq_true rfl) ⟨_, rfl, ⟨by first | (rw [cif_t hin2, sub10 hk, cl (by omega), show 4 * j + k - 10 = 4 * j + (k - 10) by omega]; done) | (rw [cif_f (fun z => absurd z.1 (Int32.not_le.mpr c132))]; done) | (rw [cif_f (fun z => c143 (by rw [← sub10 hk]; exact z.2))]; done), rfl⟩⟩ dX6_marked_164
      · obtain ⟨k, hk, hk2, rfl⟩ := ge10 (Int32.not_lt.mp c132)
        refine r_aload_n (pc := 135) C dX6_marked_135 rfl rfl ?_
        refine r_iload_n (pc := 136) C dX6_marked_136 rfl rfl ?_
        refine r_bipush (pc := 137) (v := (nI 10)) C dX6_marked_137 (by decide) ?_
        refine n_isub (pc := 139) C (by omega) dX6_marked_139 ?_
        refine r_calli (cr_V (pc := 140) C (c_X6_isStage E B _) dX6_marked_140 cm_X6_isStage ml_X6_98 im_X6_isStage se_X6_isStage E.L.o rfl ⟨⟨Nat.le_of_ble_eq_true rfl, Nat.le_of_ble_eq_true rfl⟩, Nat.le_of_ble_eq_true rfl, Nat.le_of_ble_eq_true rfl⟩ rfl rfl (Nat.le_of_ble_eq_true rfl)) (fun v140 h140 hq140 => ?_)
        obtain ⟨rfl, rfl⟩ := hq140
        refine b_if_eq (pc := 143) (tgt := 162) C dX6_marked_143 (by decide) (fun c143 => ?_) (fun c143 => ?_)
        · refine r_bipush (pc := 162) (v := (-102)) C dX6_marked_162 (by decide) ?_
          exact r_iret (pc := 164) C rfl (Nat.le_of_ble_eq_true rfl) (Nat.le_of_ble_eq_true rfl) ⟨_, rfl, ⟨by first | (rw [cif_t hin2, sub10 hk, cl (by omega), show 4 * j + k - 10 = 4 * j + (k - 10) by omega]; done) | (rw [cif_f (fun z => absurd z.1 (Int32.not_le.mpr c132))]; done) | (rw [cif_f (fun z => c143 (by rw [← sub10 hk]; exact z.2))]; done), rfl⟩⟩ dX6_marked_164
        · have hin2 : nI 10 ≤ nI k ∧ inN (nI k - nI 10) (tN t 0 0) := ⟨Int32.not_lt.mp c132, by rw [sub10 hk]; exact c143⟩
          obtain ⟨s, hs, es⟩ := id c143
          have ek : k - 10 = s := nI_in2 (by omega) (by omega) es
          refine r_aload_n (pc := 146) C dX6_marked_146 rfl rfl ?_
          refine r_getR (pc := 147) C fl_X6_70 E.L.o rfl E.L.r24 dX6_marked_147 ?_
          refine r_iconst (pc := 150) (v := (nI 4)) C dX6_marked_150 (by decide) ?_
          refine r_iload_n (pc := 151) C dX6_marked_151 rfl rfl ?_
          refine n_imul (pc := 152) C dX6_marked_152 ?_
          refine r_iload_n (pc := 153) C dX6_marked_153 rfl rfl ?_
          refine n_iadd (pc := 154) C dX6_marked_154 ?_
          refine r_bipush (pc := 155) (v := (nI 10)) C dX6_marked_155 (by decide) ?_
          refine n_isub (pc := 157) C (by omega) dX6_marked_157 ?_
          refine n_iald (pc := 158) C E.L.s24 (by omega) (E.k_then _ (by omega)) dX6_marked_158 ?_
          refine r_goto (pc := 159) (tgt := 164) C dX6_marked_159 (by decide) ?_
          exact r_iret (pc := 164) C rfl (Nat.le_of_ble_eq_true rfl) (Nat.le_of_ble_eq_true rfl) ⟨_, rfl, ⟨by first | (rw [cif_t hin2, sub10 hk, cl (by omega), show 4 * j + k - 10 = 4 * j + (k - 10) by omega]; done) | (rw [cif_f (fun z => absurd z.1 (Int32.not_le.mpr c132))]; done) | (rw [cif_f (fun z => c143 (by rw [← sub10 hk]; exact z.2))]; done), rfl⟩⟩ dX6_marked_164
  refine r_aload_n (pc := 0) C dX6_marked_0 rfl rfl ?_
  refine r_iload_n (pc := 1) C dX6_marked_1 rfl rfl ?_
  refine r_calli (cr_V (pc := 2) C (c_X6_isMark E B _) dX6_marked_2 cm_X6_isMark ml_X6_177 im_X6_isMark se_X6_isMark E.L.o rfl ⟨⟨Nat.le_of_ble_eq_true rfl, Nat.le_of_ble_eq_true rfl⟩, Nat.le_of_ble_eq_true rfl, Nat.le_of_ble_eq_true rfl⟩ rfl rfl (Nat.le_of_ble_eq_true rfl)) (fun v2 h2 hq2 => ?_)
  obtain ⟨rfl, rfl⟩ := hq2
  refine b_if_ne (pc := 5) (tgt := 11) C dX6_marked_5 (by decide) (fun c5 => ?_) (fun c5 => ?_)
  · obtain ⟨j, hj, rfl⟩ := id c5
    refine r_iconst (pc := 11) (v := (nI 0)) C dX6_marked_11 (by decide) ?_
    refine r_istore_n (pc := 12) (lv' := [_, _, _, _, _]) C dX6_marked_12 rfl (by decide) rfl rfl ?_
    refine r_iconst (pc := 13) (v := (nI 0)) C dX6_marked_13 (by decide) ?_
    refine r_istore (pc := 14) (lv' := [_, _, _, _, _]) C dX6_marked_14 (by decide) rfl rfl ?_
    exact marked_l C E B (by omega) (tl j hj c5) 48 0 0 rfl rfl
  · refine r_bipush (pc := 8) (v := (-101)) C dX6_marked_8 (by decide) ?_
    exact r_iret (pc := 10) C rfl (Nat.le_of_ble_eq_true rfl) (Nat.le_of_ble_eq_true rfl) ⟨_, rfl, ⟨(cif_f c5).symm, rfl⟩⟩ dX6_marked_10
noncomputable def spKMany (t : TS) (x y z : Int32) : Int32 := cif (inN x (tN t 0 4) ∧ inN y (tN t 0 0)) (cif (nI 0 ≤ z ∧ z ≤ nI 15) (nI (tN t 11 (64 * x.toNatClampNeg + 16 * y.toNatClampNeg + z.toNatClampNeg))) (-102)) (-101)
noncomputable def spKSum (t : TS) (x y z : Int32) : Int64 := cif (inN x (tN t 0 4) ∧ inN y (tN t 0 0)) (cif (nI 0 ≤ z ∧ z ≤ nI 15) (tL t 2 (64 * x.toNatClampNeg + 16 * y.toNatClampNeg + z.toNatClampNeg)) 0) 0
theorem c_X6_keptMany {G : GP} {m : Nat} {t : TS} {h : AH} (E : RM m t h) (B : TB t) (x y z : Int32) : MA G mX6_keptMany 2 0 0 [.ref m, .int x, .int y, .int z] h (Oi (fun v h' => v = spKMany t x y z ∧ h' = h)) := by
  have b0 := B.S
  have b1 := B.marks
  refine MA.intro (lv := [some (.ref m), some (.int x), some (.int y), some (.int z)]) (by decide) (Nat.le_of_ble_eq_true rfl) rfl (fun F C => ?_)
  refine r_aload_n (pc := 0) C dX6_keptMany_0 rfl rfl ?_
  refine r_iload_n (pc := 1) C dX6_keptMany_1 rfl rfl ?_
  refine r_calli (cr_V (pc := 2) C (c_X6_isMark E B _) dX6_keptMany_2 cm_X6_isMark ml_X6_177 im_X6_isMark se_X6_isMark E.L.o rfl ⟨⟨Nat.le_of_ble_eq_true rfl, Nat.le_of_ble_eq_true rfl⟩, Nat.le_of_ble_eq_true rfl, Nat.le_of_ble_eq_true rfl⟩ rfl rfl (Nat.le_of_ble_eq_true rfl)) (fun v2 h2 hq2 => ?_)
  obtain ⟨rfl, rfl⟩ := hq2
  refine b_if_eq (pc := 5) (tgt := 16) C dX6_keptMany_5 (by decide) (fun c5 => ?_) (fun c5 => ?_)
  · have e : spKMany t x y z = -101 := cif_f (fun q => c5 q.1)
    refine r_bipush (pc := 16) (v := (-101)) C dX6_keptMany_16 (by decide) ?_
    refine r_goto (pc := 18) (tgt := 52) C dX6_keptMany_18 (by decide) ?_
    exact r_iret (pc := 52) C rfl (Nat.le_of_ble_eq_true rfl) (Nat.le_of_ble_eq_true rfl) ⟨_, rfl, ⟨e.symm, rfl⟩⟩ dX6_keptMany_52
  · refine r_aload_n (pc := 8) C dX6_keptMany_8 rfl rfl ?_
    refine r_iload_n (pc := 9) C dX6_keptMany_9 rfl rfl ?_
    refine r_calli (cr_V (pc := 10) C (c_X6_isStage E B _) dX6_keptMany_10 cm_X6_isStage ml_X6_98 im_X6_isStage se_X6_isStage E.L.o rfl ⟨⟨Nat.le_of_ble_eq_true rfl, Nat.le_of_ble_eq_true rfl⟩, Nat.le_of_ble_eq_true rfl, Nat.le_of_ble_eq_true rfl⟩ rfl rfl (Nat.le_of_ble_eq_true rfl)) (fun v10 h10 hq10 => ?_)
    obtain ⟨rfl, rfl⟩ := hq10
    refine b_if_ne (pc := 13) (tgt := 21) C dX6_keptMany_13 (by decide) (fun c13 => ?_) (fun c13 => ?_)
    · refine r_iload_n (pc := 21) C dX6_keptMany_21 rfl rfl ?_
      refine r_iconst (pc := 22) (v := (nI 0)) C dX6_keptMany_22 (by decide) ?_
      refine r_bipush (pc := 23) (v := (nI 15)) C dX6_keptMany_23 (by decide) ?_
      refine r_calli (cr_S (pc := 25) C (c_X6_in _ _ _ _) dX6_keptMany_25 cm_X6_in ml_X6_94 st_X6_in ⟨⟨Nat.le_of_ble_eq_true rfl, Nat.le_of_ble_eq_true rfl⟩, Nat.le_of_ble_eq_true rfl, Nat.le_of_ble_eq_true rfl⟩ rfl rfl (Nat.le_of_ble_eq_true rfl)) (fun v25 h25 hq25 => ?_)
      obtain ⟨rfl, rfl⟩ := hq25
      refine b_if_eq (pc := 28) (tgt := 50) C dX6_keptMany_28 (by decide) (fun c28 => ?_) (fun c28 => ?_)
      · have e : spKMany t x y z = -102 := (cif_t ⟨c5, c13⟩).trans (cif_f c28)
        refine r_bipush (pc := 50) (v := (-102)) C dX6_keptMany_50 (by decide) ?_
        exact r_iret (pc := 52) C rfl (Nat.le_of_ble_eq_true rfl) (Nat.le_of_ble_eq_true rfl) ⟨_, rfl, ⟨e.symm, rfl⟩⟩ dX6_keptMany_52
      · obtain ⟨j, hj, rfl⟩ := id c5
        obtain ⟨s, hs, rfl⟩ := id c13
        obtain ⟨k, h1, h2, rfl⟩ := inR_of (by decide) c28
        have e : spKMany t (nI j) (nI s) (nI k) = nI (tN t 11 (64 * j + 16 * s + k)) := (cif_t ⟨c5, c13⟩).trans ((cif_t c28).trans (by rw [cl (by omega), cl (by omega), cl (by omega)]))
        refine r_aload_n (pc := 31) C dX6_keptMany_31 rfl rfl ?_
        refine r_getR (pc := 32) C fl_X6_73 E.L.o rfl E.L.r25 dX6_keptMany_32 ?_
        refine r_bipush (pc := 35) (v := (nI 64)) C dX6_keptMany_35 (by decide) ?_
        refine r_iload_n (pc := 37) C dX6_keptMany_37 rfl rfl ?_
        refine n_imul (pc := 38) C dX6_keptMany_38 ?_
        refine r_bipush (pc := 39) (v := (nI 16)) C dX6_keptMany_39 (by decide) ?_
        refine r_iload_n (pc := 41) C dX6_keptMany_41 rfl rfl ?_
        refine n_imul (pc := 42) C dX6_keptMany_42 ?_
        refine n_iadd (pc := 43) C dX6_keptMany_43 ?_
        refine r_iload_n (pc := 44) C dX6_keptMany_44 rfl rfl ?_
        refine n_iadd (pc := 45) C dX6_keptMany_45 ?_
        refine n_iald (pc := 46) C E.L.s25 (by omega) (E.k_kmany _ (by omega)) dX6_keptMany_46 ?_
        refine r_goto (pc := 47) (tgt := 52) C dX6_keptMany_47 (by decide) ?_
        exact r_iret (pc := 52) C rfl (Nat.le_of_ble_eq_true rfl) (Nat.le_of_ble_eq_true rfl) ⟨_, rfl, ⟨e.symm, rfl⟩⟩ dX6_keptMany_52
    · have e : spKMany t x y z = -101 := cif_f (fun q => c13 q.2)
      refine r_bipush (pc := 16) (v := (-101)) C dX6_keptMany_16 (by decide) ?_
      refine r_goto (pc := 18) (tgt := 52) C dX6_keptMany_18 (by decide) ?_
      exact r_iret (pc := 52) C rfl (Nat.le_of_ble_eq_true rfl) (Nat.le_of_ble_eq_true rfl) ⟨_, rfl, ⟨e.symm, rfl⟩⟩ dX6_keptMany_52
theorem c_X6_keptSum {G : GP} {m : Nat} {t : TS} {h : AH} (E : RM m t h) (B : TB t) (x y z : Int32) : MA G mX6_keptSum 2 0 0 [.ref m, .int x, .int y, .int z] h (Ol (fun v h' => v = spKSum t x y z ∧ h' = h)) := by
  have b0 := B.S
  have b1 := B.marks
  refine MA.intro (lv := [some (.ref m), some (.int x), some (.int y), some (.int z)]) (by decide) (Nat.le_of_ble_eq_true rfl) rfl (fun F C => ?_)
  refine r_aload_n (pc := 0) C dX6_keptSum_0 rfl rfl ?_
  refine r_iload_n (pc := 1) C dX6_keptSum_1 rfl rfl ?_
  refine r_calli (cr_V (pc := 2) C (c_X6_isMark E B _) dX6_keptSum_2 cm_X6_isMark ml_X6_177 im_X6_isMark se_X6_isMark E.L.o rfl ⟨⟨Nat.le_of_ble_eq_true rfl, Nat.le_of_ble_eq_true rfl⟩, Nat.le_of_ble_eq_true rfl, Nat.le_of_ble_eq_true rfl⟩ rfl rfl (Nat.le_of_ble_eq_true rfl)) (fun v2 h2 hq2 => ?_)
  obtain ⟨rfl, rfl⟩ := hq2
  refine b_if_eq (pc := 5) (tgt := 45) C dX6_keptSum_5 (by decide) (fun c5 => ?_) (fun c5 => ?_)
  · have e : spKSum t x y z = 0 := cif_f (fun q => c5 q.1)
    refine r_lconst (pc := 45) (v := 0) C dX6_keptSum_45 (by decide) ?_
    exact r_lret (pc := 46) C rfl (Nat.le_of_ble_eq_true rfl) (Nat.le_of_ble_eq_true rfl) ⟨_, rfl, ⟨e.symm, rfl⟩⟩ dX6_keptSum_46
  · refine r_aload_n (pc := 8) C dX6_keptSum_8 rfl rfl ?_
    refine r_iload_n (pc := 9) C dX6_keptSum_9 rfl rfl ?_
    refine r_calli (cr_V (pc := 10) C (c_X6_isStage E B _) dX6_keptSum_10 cm_X6_isStage ml_X6_98 im_X6_isStage se_X6_isStage E.L.o rfl ⟨⟨Nat.le_of_ble_eq_true rfl, Nat.le_of_ble_eq_true rfl⟩, Nat.le_of_ble_eq_true rfl, Nat.le_of_ble_eq_true rfl⟩ rfl rfl (Nat.le_of_ble_eq_true rfl)) (fun v10 h10 hq10 => ?_)
    obtain ⟨rfl, rfl⟩ := hq10
    refine b_if_eq (pc := 13) (tgt := 45) C dX6_keptSum_13 (by decide) (fun c13 => ?_) (fun c13 => ?_)
    · have e : spKSum t x y z = 0 := cif_f (fun q => c13 q.2)
      refine r_lconst (pc := 45) (v := 0) C dX6_keptSum_45 (by decide) ?_
      exact r_lret (pc := 46) C rfl (Nat.le_of_ble_eq_true rfl) (Nat.le_of_ble_eq_true rfl) ⟨_, rfl, ⟨e.symm, rfl⟩⟩ dX6_keptSum_46
    · refine r_iload_n (pc := 16) C dX6_keptSum_16 rfl rfl ?_
      refine r_iconst (pc := 17) (v := (nI 0)) C dX6_keptSum_17 (by decide) ?_
      refine r_bipush (pc := 18) (v := (nI 15)) C dX6_keptSum_18 (by decide) ?_
      refine r_calli (cr_S (pc := 20) C (c_X6_in _ _ _ _) dX6_keptSum_20 cm_X6_in ml_X6_94 st_X6_in ⟨⟨Nat.le_of_ble_eq_true rfl, Nat.le_of_ble_eq_true rfl⟩, Nat.le_of_ble_eq_true rfl, Nat.le_of_ble_eq_true rfl⟩ rfl rfl (Nat.le_of_ble_eq_true rfl)) (fun v20 h20 hq20 => ?_)
      obtain ⟨rfl, rfl⟩ := hq20
      refine b_if_eq (pc := 23) (tgt := 45) C dX6_keptSum_23 (by decide) (fun c23 => ?_) (fun c23 => ?_)
      · have e : spKSum t x y z = 0 := (cif_t ⟨c5, c13⟩).trans (cif_f c23)
        refine r_lconst (pc := 45) (v := 0) C dX6_keptSum_45 (by decide) ?_
        exact r_lret (pc := 46) C rfl (Nat.le_of_ble_eq_true rfl) (Nat.le_of_ble_eq_true rfl) ⟨_, rfl, ⟨e.symm, rfl⟩⟩ dX6_keptSum_46
      · obtain ⟨j, hj, rfl⟩ := id c5
        obtain ⟨s, hs, rfl⟩ := id c13
        obtain ⟨k, h1, h2, rfl⟩ := inR_of (by decide) c23
        have e : spKSum t (nI j) (nI s) (nI k) = tL t 2 (64 * j + 16 * s + k) := (cif_t ⟨c5, c13⟩).trans ((cif_t c23).trans (by rw [cl (by omega), cl (by omega), cl (by omega)]))
        refine r_aload_n (pc := 26) C dX6_keptSum_26 rfl rfl ?_
        refine r_getR (pc := 27) C fl_X6_76 E.L.o rfl E.L.r26 dX6_keptSum_27 ?_
        refine r_bipush (pc := 30) (v := (nI 64)) C dX6_keptSum_30 (by decide) ?_
        refine r_iload_n (pc := 32) C dX6_keptSum_32 rfl rfl ?_
        refine n_imul (pc := 33) C dX6_keptSum_33 ?_
        refine r_bipush (pc := 34) (v := (nI 16)) C dX6_keptSum_34 (by decide) ?_
        refine r_iload_n (pc := 36) C dX6_keptSum_36 rfl rfl ?_
        refine n_imul (pc := 37) C dX6_keptSum_37 ?_
        refine n_iadd (pc := 38) C dX6_keptSum_38 ?_
        refine r_iload_n (pc := 39) C dX6_keptSum_39 rfl rfl ?_
        refine n_iadd (pc := 40) C dX6_keptSum_40 ?_
        refine n_lald (pc := 41) C E.L.s26 (by omega) (E.k_ksum _ (by omega)) dX6_keptSum_41 ?_
        refine r_goto (pc := 42) (tgt := 46) C dX6_keptSum_42 (by decide) ?_
        exact r_lret (pc := 46) C rfl (Nat.le_of_ble_eq_true rfl) (Nat.le_of_ble_eq_true rfl) ⟨_, rfl, ⟨e.symm, rfl⟩⟩ dX6_keptSum_46
