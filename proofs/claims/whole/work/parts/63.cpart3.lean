/-! ===== the class: taking part ===== -/
theorem spEnd_4 {t : TS} {c v how : Nat} : spEnd (uN t 4 c v) how = spEnd t how := by
  refine TS_ext (fun j => ?_) rfl rfl rfl rfl
  unfold spEnd
  simp only [tN_s, tN_u]
  by_cases h7 : j = 7
  · rw [if_pos h7, if_pos h7]
  · rw [if_neg h7, if_neg h7]
    by_cases h6 : j = 6
    · rw [if_pos h6, if_pos h6]
    · rw [if_neg h6, if_neg h6]
      by_cases h5 : j = 5
      · rw [if_pos h5, if_pos h5]
      · rw [if_neg h5, if_neg h5]
        by_cases h4 : j = 4
        · rw [if_pos h4, if_pos h4]
        · rw [if_neg h4, if_neg h4]
          by_cases h0 : j = 0
          · subst h0; rfl
          · rw [if_neg h0, if_neg h0]
            by_cases h9 : j = 9
            · subst h9; rfl
            · simp [tN_uI, tN_u, h9, h4]
theorem spTo_0 {j s q lo n d : Nat} {t : TS} (h : tN t 0 5 = 0) : spTo j s q lo n d t = t := by
  cases n with
  | zero => rfl
  | succ n => unfold spTo; rw [if_pos h]
section CP63
variable {G : GP} {F : FX} {x m : Nat}
theorem part_l (C : CX G F mX5_takePart (Rm 3 0 0)) {h0 : AH} {j s q lo S : Nat} {Ps : Nat → Nat} {aM aT : Nat} {T : TS} (hs : s < S) (hq : q < Ps s) (hlo : lo ≤ 1) (haM : aM = m + 24 + 7 * j) :
    ∀ (n d : Nat) (t : TS) (e : ES) (h : AH) (x7 : Option Value), tN t 0 0 = S → tN t 1 = Ps → d + n = wdI t (nI (s + 1)) → RX x m t e h → TB t → tN t 0 5 = j + 1 → EU j t e → ExtB t e → Fq (Px m) h0 h → spTo j s q lo n d t = T → WA G F mX5_takePart h 0 0 (MQA G F 0 0 (Ov (XT x m h0 T))) 57 [some (.ref x), some (.int (nI s)), some (.int (nI q)), some (.int (nI lo)), some (.ref aM), some (.ref aT), some (.int (nI d)), x7] [] := by
  subst haM
  intro n
  induction n with
  | zero =>
    intro d t e h x7 hS hP hd E B hu U V f hT
    have bw := wdI_le B (z := nI (s + 1))
    rw [show spTo j s q lo 0 d t = t from rfl] at hT
    subst hT
    refine r_iload (pc := 57) C dX5_takePart_57 rfl ?_
    refine r_aload_n (pc := 59) C dX5_takePart_59 rfl rfl ?_
    refine r_iload_n (pc := 60) C dX5_takePart_60 rfl rfl ?_
    refine r_iconst (pc := 61) (v := (nI 1)) C dX5_takePart_61 (by decide) ?_
    refine n_iadd (pc := 62) C dX5_takePart_62 ?_
    refine r_calli (cr_V (pc := 63) C (c_X5_widthOf E B _) dX5_takePart_63 cm_X5_widthOf ml_X5_110 im_X5_widthOf se_X5_widthOf E.L.o rfl ⟨⟨Nat.le_of_ble_eq_true rfl, Nat.le_of_ble_eq_true rfl⟩, Nat.le_of_ble_eq_true rfl, Nat.le_of_ble_eq_true rfl⟩ rfl rfl (Nat.le_of_ble_eq_true rfl)) (fun v63 h63 hq63 => ?_)
    obtain ⟨rfl, rfl⟩ := hq63
    refine n_icmp_ge (pc := 66) (tgt := 132) C (by omega) (by omega) dX5_takePart_66 (by decide) (fun c66 => ?_) (fun c66 => absurd c66 (by omega))
    exact r_vret (pc := 132) C rfl (Nat.le_of_ble_eq_true rfl) (Nat.le_of_ble_eq_true rfl) ⟨rfl, ⟨⟨e, E, U.ext V hu⟩, f⟩⟩ dX5_takePart_132
  | succ n ih =>
    intro d t e h x7 hS hP hd E B hu U V f hT
    have bw := wdI_le B (z := nI (s + 1))
    have bS := B.S
    have hs1 : s + 1 < tN t 0 0 := by
      rcases Nat.lt_or_ge (s + 1) (tN t 0 0) with z | z
      · exact z
      · rw [wdI_0 B z (by omega)] at hd; omega
    rw [wdI_n B hs1] at hd
    have b1 := B.P (s := s) (by omega)
    have b2 := B.P (s := s + 1) (by omega)
    have hq' : q < tN t 1 s := by rw [hP]; exact hq
    have hcc : 16 * s + 4 * q + d < 16 * (tN t 0 0 - 1) := by omega
    have bu := B.uw
    have hj : j < tN t 0 4 := by omega
    have b3 := E.L.b
    have L := E.L.ch hcc
    have K := E.k_ch _ hcc
    have bl := B.len (16 * s + 4 * q + d)
    have bk := B.klen j
    have blm := B.lim
    have b12 := (B.bool (48 * j + (16 * s + 4 * q + d))).2.2.2
    unfold spTo at hT
    rw [if_neg (by omega)] at hT
    rcases (show lo = 0 ∨ lo = 1 by omega) with rfl | rfl
    · have e1 : spBar t j (16 * s + 4 * q + d) 0 = uN t 4 (16 * s + 4 * q + d) ((tC t (16 * s + 4 * q + d)).length + 1) := by
        unfold spBar
        rw [if_pos rfl]
        refine uN_same ?_
        rw [tN_uN_n (by decide)]
        split
        · rename_i z; exact z.1
        · rename_i z; have : tN t 12 (48 * j + (16 * s + 4 * q + d)) ≠ 0 := fun y => z ⟨y, rfl⟩; omega
      rw [if_pos rfl, e1] at hT
      refine r_iload (pc := 57) C dX5_takePart_57 rfl ?_
      refine r_aload_n (pc := 59) C dX5_takePart_59 rfl rfl ?_
      refine r_iload_n (pc := 60) C dX5_takePart_60 rfl rfl ?_
      refine r_iconst (pc := 61) (v := (nI 1)) C dX5_takePart_61 (by decide) ?_
      refine n_iadd (pc := 62) C dX5_takePart_62 ?_
      refine r_calli (cr_V (pc := 63) C (c_X5_widthOf E B _) dX5_takePart_63 cm_X5_widthOf ml_X5_110 im_X5_widthOf se_X5_widthOf E.L.o rfl ⟨⟨Nat.le_of_ble_eq_true rfl, Nat.le_of_ble_eq_true rfl⟩, Nat.le_of_ble_eq_true rfl, Nat.le_of_ble_eq_true rfl⟩ rfl rfl (Nat.le_of_ble_eq_true rfl)) (fun v63 h63 hq63 => ?_)
      obtain ⟨rfl, rfl⟩ := hq63
      rw [wdI_n B hs1]
      refine n_icmp_ge (pc := 66) (tgt := 132) C (by omega) (by omega) dX5_takePart_66 (by decide) (fun c66 => absurd c66 (by omega)) (fun c66 => ?_)
      refine r_aload_n (pc := 69) C dX5_takePart_69 rfl rfl ?_
      refine r_iload_n (pc := 70) C dX5_takePart_70 rfl rfl ?_
      refine r_iload_n (pc := 71) C dX5_takePart_71 rfl rfl ?_
      refine r_iload (pc := 72) C dX5_takePart_72 rfl ?_
      refine r_callq (cr_V (pc := 74) C (c_X5_channelAt E B _ _ _) dX5_takePart_74 cm_X5_channelAt ml_X5_185 im_X5_channelAt se_X5_channelAt E.L.o rfl ⟨⟨Nat.le_of_ble_eq_true rfl, Nat.le_of_ble_eq_true rfl⟩, Nat.le_of_ble_eq_true rfl, Nat.le_of_ble_eq_true rfl⟩ rfl rfl (Nat.le_of_ble_eq_true rfl)) (fun v74 h74 hq74 => ?_)
      obtain ⟨rfl, rfl⟩ := hq74
      rw [chA_n B hs1 hq' (by omega)]
      refine r_astore (pc := 77) (lv' := [_, _, _, _, _, _, _, _]) C dX5_takePart_77 (by decide) rfl rfl ?_
      refine r_aload (pc := 79) C dX5_takePart_79 rfl ?_
      refine r_ifnonnull (pc := 81) (tgt := 87) C dX5_takePart_81 (by decide) ?_
      refine r_iload_n (pc := 87) C dX5_takePart_87 rfl rfl ?_
      refine n_if_eq (pc := 88) (tgt := 108) C (by omega) dX5_takePart_88 (by decide) (fun c88 => ?_) (fun c88 => absurd c88 (fun z => z rfl))
      refine r_aload (pc := 108) C dX5_takePart_108 rfl ?_
      refine r_iload_n (pc := 110) C dX5_takePart_110 rfl rfl ?_
      refine n_if_eq (pc := 111) (tgt := 118) C (by omega) dX5_takePart_111 (by decide) (fun c111 => ?_) (fun c111 => absurd c111 (fun z => z rfl))
      refine r_aload (pc := 118) C dX5_takePart_118 rfl ?_
      refine r_getIe (pc := 120) C fl_X5_189 L.2.1 rfl K.2.2.2.1 dX5_takePart_120 ?_
      refine r_putI (pc := 123) C fl_X5_192 L.2.1 rfl rfl rfl rfl dX5_takePart_123 ?_
      refine n_iinc (pc := 126) (lv' := [_, _, _, _, _, _, _, _]) C dX5_takePart_126 rfl (by decide) rfl rfl ?_
      refine r_goto (pc := 129) (tgt := 57) C dX5_takePart_129 (by decide) ?_
      exact ih (d + 1) (uN t 4 (16 * s + 4 * q + d) ((tC t (16 * s + 4 * q + d)).length + 1)) e _ _ hS hP (by rw [show wdI (uN t 4 (16 * s + 4 * q + d) ((tC t (16 * s + 4 * q + d)).length + 1)) (nI (s + 1)) = wdI t (nI (s + 1)) from rfl, wdI_n B hs1]; omega) (E.p_bar hcc _ (nI_pred _).symm) (B.p4 (Nat.le_refl _)) hu (U.cg rfl rfl rfl rfl rfl rfl rfl rfl rfl rfl) (V.cg rfl rfl rfl rfl rfl rfl rfl rfl) (f.pI (Or.inl (by omega))) hT
    · have ebar : spBar t j (16 * s + 4 * q + d) 1 = uN (uN t 4 (16 * s + 4 * q + d) 1) 12 (48 * j + (16 * s + 4 * q + d)) 1 := by
        unfold spBar
        rw [if_neg (by decide), if_neg (fun z => absurd z.2 (by decide))]
      rw [if_neg (by decide), ebar] at hT
      by_cases hok : okK (tK t j).length (tN t 0 2) (tC t (16 * s + 4 * q + d))
      · rw [keepL_ok (j := j) (tC t (16 * s + 4 * q + d)) (uN (uN t 4 (16 * s + 4 * q + d) 1) 12 (48 * j + (16 * s + 4 * q + d)) 1) hu hok] at hT
        have e2 : uN (uK (uN t 12 (48 * j + (16 * s + 4 * q + d)) 1) j (tK t j ++ (tC t (16 * s + 4 * q + d)).map (fun r => (16 * s + 4 * q + d, r)))) 4 (16 * s + 4 * q + d) 1 = uK (uN (uN t 4 (16 * s + 4 * q + d) 1) 12 (48 * j + (16 * s + 4 * q + d)) 1) j (tK (uN (uN t 4 (16 * s + 4 * q + d) 1) 12 (48 * j + (16 * s + 4 * q + d)) 1) j ++ (tC t (16 * s + 4 * q + d)).map (fun r => (16 * s + 4 * q + d, r))) := by
          refine TS_ext (fun k => ?_) rfl rfl rfl rfl
          show tN (uN (uN t 12 _ 1) 4 _ 1) k = tN (uN (uN t 4 _ 1) 12 _ 1) k
          simp only [tN_u]
          by_cases h4 : k = 4
          · subst h4; rfl
          · by_cases h12 : k = 12
            · subst h12; rfl
            · simp [h4, h12]
        have B2 : TB (uN (uK (uN t 12 (48 * j + (16 * s + 4 * q + d)) 1) j (tK t j ++ (tC t (16 * s + 4 * q + d)).map (fun r => (16 * s + 4 * q + d, r)))) 4 (16 * s + 4 * q + d) 1) := by
          refine TB.p4 (TB.pK (B.p12 (by decide)) ?_ ?_) (by omega)
          · rw [List.length_append, List.length_map]
            rcases hok with z | z
            · rw [z]; simp; omega
            · omega
          · intro p hp
            rcases List.mem_append.mp hp with z | z
            · exact B.krow z
            · obtain ⟨r, hr, rfl⟩ := List.mem_map.mp z
              exact ⟨by show 16 * s + 4 * q + d < 48; omega, B.row hr⟩
        rw [← e2] at hT
        refine r_iload (pc := 57) C dX5_takePart_57 rfl ?_
        refine r_aload_n (pc := 59) C dX5_takePart_59 rfl rfl ?_
        refine r_iload_n (pc := 60) C dX5_takePart_60 rfl rfl ?_
        refine r_iconst (pc := 61) (v := (nI 1)) C dX5_takePart_61 (by decide) ?_
        refine n_iadd (pc := 62) C dX5_takePart_62 ?_
        refine r_calli (cr_V (pc := 63) C (c_X5_widthOf E B _) dX5_takePart_63 cm_X5_widthOf ml_X5_110 im_X5_widthOf se_X5_widthOf E.L.o rfl ⟨⟨Nat.le_of_ble_eq_true rfl, Nat.le_of_ble_eq_true rfl⟩, Nat.le_of_ble_eq_true rfl, Nat.le_of_ble_eq_true rfl⟩ rfl rfl (Nat.le_of_ble_eq_true rfl)) (fun v63 h63 hq63 => ?_)
        obtain ⟨rfl, rfl⟩ := hq63
        rw [wdI_n B hs1]
        refine n_icmp_ge (pc := 66) (tgt := 132) C (by omega) (by omega) dX5_takePart_66 (by decide) (fun c66 => absurd c66 (by omega)) (fun c66 => ?_)
        refine r_aload_n (pc := 69) C dX5_takePart_69 rfl rfl ?_
        refine r_iload_n (pc := 70) C dX5_takePart_70 rfl rfl ?_
        refine r_iload_n (pc := 71) C dX5_takePart_71 rfl rfl ?_
        refine r_iload (pc := 72) C dX5_takePart_72 rfl ?_
        refine r_callq (cr_V (pc := 74) C (c_X5_channelAt E B _ _ _) dX5_takePart_74 cm_X5_channelAt ml_X5_185 im_X5_channelAt se_X5_channelAt E.L.o rfl ⟨⟨Nat.le_of_ble_eq_true rfl, Nat.le_of_ble_eq_true rfl⟩, Nat.le_of_ble_eq_true rfl, Nat.le_of_ble_eq_true rfl⟩ rfl rfl (Nat.le_of_ble_eq_true rfl)) (fun v74 h74 hq74 => ?_)
        obtain ⟨rfl, rfl⟩ := hq74
        rw [chA_n B hs1 hq' (by omega)]
        refine r_astore (pc := 77) (lv' := [_, _, _, _, _, _, _, _]) C dX5_takePart_77 (by decide) rfl rfl ?_
        refine r_aload (pc := 79) C dX5_takePart_79 rfl ?_
        refine r_ifnonnull (pc := 81) (tgt := 87) C dX5_takePart_81 (by decide) ?_
        refine r_iload_n (pc := 87) C dX5_takePart_87 rfl rfl ?_
        refine n_if_eq (pc := 88) (tgt := 108) C (by omega) dX5_takePart_88 (by decide) (fun c88 => absurd c88 (by decide)) (fun c88 => ?_)
        refine r_aload_n (pc := 91) C dX5_takePart_91 rfl rfl ?_
        refine r_aload (pc := 92) C dX5_takePart_92 rfl ?_
        refine r_aload (pc := 94) C dX5_takePart_94 rfl ?_
        refine r_calli (cr_V (pc := 96) C (c_X5_overtake E B hj hcc U) dX5_takePart_96 cm_X5_overtake ml_X5_326 im_X5_overtake se_X5_overtake E.L.o rfl ⟨⟨Nat.le_of_ble_eq_true rfl, Nat.le_of_ble_eq_true rfl⟩, Nat.le_of_ble_eq_true rfl, Nat.le_of_ble_eq_true rfl⟩ rfl rfl (Nat.le_of_ble_eq_true rfl)) (fun v96 h96 hq96 => ?_)
        obtain ⟨rfl, ⟨e', E1, U1, g2, g0⟩, f1⟩ := hq96
        rw [cif_t hok] at E1 U1
        refine b_if_ne (pc := 99) (tgt := 108) C dX5_takePart_99 (by decide) (fun c99 => ?_) (fun c99 => absurd c99 (fun z => z hok))
        refine r_aload (pc := 108) C dX5_takePart_108 rfl ?_
        refine r_iload_n (pc := 110) C dX5_takePart_110 rfl rfl ?_
        refine n_if_eq (pc := 111) (tgt := 118) C (by omega) dX5_takePart_111 (by decide) (fun c111 => absurd c111 (by decide)) (fun c111 => ?_)
        refine r_iconst (pc := 114) (v := (nI 0)) C dX5_takePart_114 (by decide) ?_
        refine r_goto (pc := 115) (tgt := 123) C dX5_takePart_115 (by decide) ?_
        refine r_putI (pc := 123) C fl_X5_192 (E1.L.ch (c := 16 * s + 4 * q + d) hcc).2.1 rfl rfl rfl rfl dX5_takePart_123 ?_
        refine n_iinc (pc := 126) (lv' := [_, _, _, _, _, _, _, _]) C dX5_takePart_126 rfl (by decide) rfl rfl ?_
        refine r_goto (pc := 129) (tgt := 57) C dX5_takePart_129 (by decide) ?_
        exact ih (d + 1) (uN (uK (uN t 12 (48 * j + (16 * s + 4 * q + d)) 1) j (tK t j ++ (tC t (16 * s + 4 * q + d)).map (fun r => (16 * s + 4 * q + d, r)))) 4 (16 * s + 4 * q + d) 1) e' _ _ hS hP (by rw [show wdI (uN (uK (uN t 12 (48 * j + (16 * s + 4 * q + d)) 1) j (tK t j ++ (tC t (16 * s + 4 * q + d)).map (fun r => (16 * s + 4 * q + d, r)))) 4 (16 * s + 4 * q + d) 1) (nI (s + 1)) = wdI t (nI (s + 1)) from rfl, wdI_n B hs1]; omega) (E1.p_bar (c := 16 * s + 4 * q + d) hcc 1 (nI_pred 0).symm) B2 hu (U1.cg rfl rfl rfl rfl rfl rfl rfl rfl rfl rfl) (V.cg rfl rfl rfl rfl rfl rfl g2 g0) ((f.tr f1).pI (Or.inl (by omega))) hT
      · rw [keepL_no (j := j) (tC t (16 * s + 4 * q + d)) (uN (uN t 4 (16 * s + 4 * q + d) 1) 12 (48 * j + (16 * s + 4 * q + d)) 1) hu hok, spTo_0 rfl] at hT
        have e2 : uN (uK (uN t 12 (48 * j + (16 * s + 4 * q + d)) 1) j (tK t j ++ ((tC t (16 * s + 4 * q + d)).take (tN t 0 2 - (tK t j).length)).map (fun r => (16 * s + 4 * q + d, r)))) 4 (16 * s + 4 * q + d) 1 = uK (uN (uN t 4 (16 * s + 4 * q + d) 1) 12 (48 * j + (16 * s + 4 * q + d)) 1) j (tK (uN (uN t 4 (16 * s + 4 * q + d) 1) 12 (48 * j + (16 * s + 4 * q + d)) 1) j ++ ((tC t (16 * s + 4 * q + d)).take (tN (uN (uN t 4 (16 * s + 4 * q + d) 1) 12 (48 * j + (16 * s + 4 * q + d)) 1) 0 2 - (tK (uN (uN t 4 (16 * s + 4 * q + d) 1) 12 (48 * j + (16 * s + 4 * q + d)) 1) j).length)).map (fun r => (16 * s + 4 * q + d, r))) := by
          refine TS_ext (fun k => ?_) rfl rfl rfl rfl
          show tN (uN (uN t 12 _ 1) 4 _ 1) k = tN (uN (uN t 4 _ 1) 12 _ 1) k
          simp only [tN_u]
          by_cases h4 : k = 4
          · subst h4; rfl
          · by_cases h12 : k = 12
            · subst h12; rfl
            · simp [h4, h12]
        rw [← e2, spEnd_4] at hT
        have B2 : TB (uK (uN t 12 (48 * j + (16 * s + 4 * q + d)) 1) j (tK t j ++ ((tC t (16 * s + 4 * q + d)).take (tN t 0 2 - (tK t j).length)).map (fun r => (16 * s + 4 * q + d, r)))) := by
          refine TB.pK (B.p12 (by decide)) ?_ ?_
          · rw [List.length_append, List.length_map, List.length_take]; omega
          · intro p hp
            rcases List.mem_append.mp hp with z | z
            · exact B.krow z
            · obtain ⟨r, hr, rfl⟩ := List.mem_map.mp z
              exact ⟨by show 16 * s + 4 * q + d < 48; omega, B.row (List.mem_of_mem_take hr)⟩
        refine r_iload (pc := 57) C dX5_takePart_57 rfl ?_
        refine r_aload_n (pc := 59) C dX5_takePart_59 rfl rfl ?_
        refine r_iload_n (pc := 60) C dX5_takePart_60 rfl rfl ?_
        refine r_iconst (pc := 61) (v := (nI 1)) C dX5_takePart_61 (by decide) ?_
        refine n_iadd (pc := 62) C dX5_takePart_62 ?_
        refine r_calli (cr_V (pc := 63) C (c_X5_widthOf E B _) dX5_takePart_63 cm_X5_widthOf ml_X5_110 im_X5_widthOf se_X5_widthOf E.L.o rfl ⟨⟨Nat.le_of_ble_eq_true rfl, Nat.le_of_ble_eq_true rfl⟩, Nat.le_of_ble_eq_true rfl, Nat.le_of_ble_eq_true rfl⟩ rfl rfl (Nat.le_of_ble_eq_true rfl)) (fun v63 h63 hq63 => ?_)
        obtain ⟨rfl, rfl⟩ := hq63
        rw [wdI_n B hs1]
        refine n_icmp_ge (pc := 66) (tgt := 132) C (by omega) (by omega) dX5_takePart_66 (by decide) (fun c66 => absurd c66 (by omega)) (fun c66 => ?_)
        refine r_aload_n (pc := 69) C dX5_takePart_69 rfl rfl ?_
        refine r_iload_n (pc := 70) C dX5_takePart_70 rfl rfl ?_
        refine r_iload_n (pc := 71) C dX5_takePart_71 rfl rfl ?_
        refine r_iload (pc := 72) C dX5_takePart_72 rfl ?_
        refine r_callq (cr_V (pc := 74) C (c_X5_channelAt E B _ _ _) dX5_takePart_74 cm_X5_channelAt ml_X5_185 im_X5_channelAt se_X5_channelAt E.L.o rfl ⟨⟨Nat.le_of_ble_eq_true rfl, Nat.le_of_ble_eq_true rfl⟩, Nat.le_of_ble_eq_true rfl, Nat.le_of_ble_eq_true rfl⟩ rfl rfl (Nat.le_of_ble_eq_true rfl)) (fun v74 h74 hq74 => ?_)
        obtain ⟨rfl, rfl⟩ := hq74
        rw [chA_n B hs1 hq' (by omega)]
        refine r_astore (pc := 77) (lv' := [_, _, _, _, _, _, _, _]) C dX5_takePart_77 (by decide) rfl rfl ?_
        refine r_aload (pc := 79) C dX5_takePart_79 rfl ?_
        refine r_ifnonnull (pc := 81) (tgt := 87) C dX5_takePart_81 (by decide) ?_
        refine r_iload_n (pc := 87) C dX5_takePart_87 rfl rfl ?_
        refine n_if_eq (pc := 88) (tgt := 108) C (by omega) dX5_takePart_88 (by decide) (fun c88 => absurd c88 (by decide)) (fun c88 => ?_)
        refine r_aload_n (pc := 91) C dX5_takePart_91 rfl rfl ?_
        refine r_aload (pc := 92) C dX5_takePart_92 rfl ?_
        refine r_aload (pc := 94) C dX5_takePart_94 rfl ?_
        refine r_calli (cr_V (pc := 96) C (c_X5_overtake E B hj hcc U) dX5_takePart_96 cm_X5_overtake ml_X5_326 im_X5_overtake se_X5_overtake E.L.o rfl ⟨⟨Nat.le_of_ble_eq_true rfl, Nat.le_of_ble_eq_true rfl⟩, Nat.le_of_ble_eq_true rfl, Nat.le_of_ble_eq_true rfl⟩ rfl rfl (Nat.le_of_ble_eq_true rfl)) (fun v96 h96 hq96 => ?_)
        obtain ⟨rfl, ⟨e', E1, U1, g2, g0⟩, f1⟩ := hq96
        rw [cif_f hok] at E1 U1
        refine b_if_ne (pc := 99) (tgt := 108) C dX5_takePart_99 (by decide) (fun c99 => absurd c99 hok) (fun c99 => ?_)
        refine r_aload_n (pc := 102) C dX5_takePart_102 rfl rfl ?_
        refine r_iconst (pc := 103) (v := (nI 2)) C dX5_takePart_103 (by decide) ?_
        refine r_callv (cr_V (pc := 104) C (c_X5_endMark E1 B2 (j := j) hu (how := 2) (by decide)) dX5_takePart_104 cm_X5_endMark ml_X5_120 im_X5_endMark se_X5_endMark E1.L.o rfl ⟨⟨Nat.le_of_ble_eq_true rfl, Nat.le_of_ble_eq_true rfl⟩, Nat.le_of_ble_eq_true rfl, Nat.le_of_ble_eq_true rfl⟩ rfl rfl (Nat.le_of_ble_eq_true rfl)) (fun h104 hq104 => ?_)
        obtain ⟨E3, f3⟩ := hq104
        exact r_vret (pc := 107) C rfl (Nat.le_of_ble_eq_true rfl) (Nat.le_of_ble_eq_true rfl) ⟨rfl, (hT ▸ ⟨⟨_, E3, U1.2.end (j := j) hu⟩, (f.tr f1).tr f3⟩)⟩ dX5_takePart_107
end CP63
