/-! ===== the class: what numbers name ===== -/
noncomputable def wdI (t : TS) (z : Int32) : Nat := cif (inN z (tN t 0 0)) (tN t 1 z.toNatClampNeg) 0
theorem wdI_n {t : TS} (B : TB t) {s : Nat} (h : s < tN t 0 0) : wdI t (nI s) = tN t 1 s := by
  have b := B.S
  exact (cif_t (inN_ok h)).trans (by rw [cl (by omega)])
theorem wdI_le {t : TS} (B : TB t) {z : Int32} : wdI t z ≤ 4 := by
  have b := B.S
  unfold wdI
  by_cases h : inN z (tN t 0 0)
  · rw [cif_t h]
    obtain ⟨s, hs, rfl⟩ := h
    rw [cl (by omega)]
    exact (B.P (s := s) (by omega)).2
  · rw [cif_f h]; omega
theorem wdI_0 {t : TS} {s : Nat} (B : TB t) (h : tN t 0 0 ≤ s) (hs : s < 100000) : wdI t (nI s) = 0 := by
  have b := B.S
  exact cif_f (fun z => by have := inN_lt (by omega) (by omega) z; omega)
theorem inT_iff {t : TS} (B : TB t) {z w : Int32} : inT t z w ↔ ¬ w < nI 0 ∧ w < nI (wdI t z) := by
  have b := B.S
  rw [← ltI (by have := wdI_le B (z := z); omega)]
  constructor
  · rintro ⟨s, hs, rfl, hw⟩
    rw [wdI_n B hs]; exact hw
  · intro hw
    by_cases h : inN z (tN t 0 0)
    · obtain ⟨s, hs, rfl⟩ := h
      rw [wdI_n B hs] at hw
      exact ⟨s, hs, rfl, hw⟩
    · rw [show wdI t z = 0 from cif_f h] at hw
      obtain ⟨j, hj, -⟩ := hw
      exact absurd hj (Nat.not_lt_zero j)
section CR56
variable {G : GP} {x m : Nat} {t : TS} {e : ES} {h : AH}
theorem c_X5_isStage (E : RX x m t e h) (B : TB t) (z : Int32) : MA G mX5_isStage 0 0 0 [.ref x, .int z] h (Oi (fun v h' => v = bI (inN z (tN t 0 0)) ∧ h' = h)) := by
  have b := B.S
  refine MA.intro (lv := [some (.ref x), some (.int z)]) (by decide) (Nat.le_of_ble_eq_true rfl) rfl (fun F C => ?_)
  refine r_iload_n (pc := 0) C dX5_isStage_0 rfl rfl ?_
  refine r_if_lt (pc := 1) (tgt := 16) C dX5_isStage_1 (by decide) (fun c1 => ?_) (fun c1 => ?_)
  · refine r_iconst (pc := 16) (v := (nI 0)) C dX5_isStage_16 (by decide) ?_
    exact r_zret (pc := 17) C rfl (by first | exact bI_01 | exact Or.inl rfl | exact Or.inr rfl) (Nat.le_of_ble_eq_true rfl) (Nat.le_of_ble_eq_true rfl) ⟨_, rfl, ⟨by first | exact tt1 ((ltI (by omega)).mpr ⟨c1, Int32.not_le.mp c9⟩) | exact ff0 (fun z => ((ltI (by omega)).mp z).1 c1) | exact ff0 (fun z => Int32.not_lt.mpr c9 ((ltI (by omega)).mp z).2), rfl⟩⟩ dX5_isStage_17
  · refine r_iload_n (pc := 4) C dX5_isStage_4 rfl rfl ?_
    refine r_aload_n (pc := 5) C dX5_isStage_5 rfl rfl ?_
    refine r_getIe (pc := 6) C fl_X5_64 E.L.o rfl E.S dX5_isStage_6 ?_
    refine r_icmp_ge (pc := 9) (tgt := 16) C dX5_isStage_9 (by decide) (fun c9 => ?_) (fun c9 => ?_)
    · refine r_iconst (pc := 16) (v := (nI 0)) C dX5_isStage_16 (by decide) ?_
      exact r_zret (pc := 17) C rfl (by first | exact bI_01 | exact Or.inl rfl | exact Or.inr rfl) (Nat.le_of_ble_eq_true rfl) (Nat.le_of_ble_eq_true rfl) ⟨_, rfl, ⟨by first | exact tt1 ((ltI (by omega)).mpr ⟨c1, Int32.not_le.mp c9⟩) | exact ff0 (fun z => ((ltI (by omega)).mp z).1 c1) | exact ff0 (fun z => Int32.not_lt.mpr c9 ((ltI (by omega)).mp z).2), rfl⟩⟩ dX5_isStage_17
    · refine r_iconst (pc := 12) (v := (nI 1)) C dX5_isStage_12 (by decide) ?_
      refine r_goto (pc := 13) (tgt := 17) C dX5_isStage_13 (by decide) ?_
      exact r_zret (pc := 17) C rfl (by first | exact bI_01 | exact Or.inl rfl | exact Or.inr rfl) (Nat.le_of_ble_eq_true rfl) (Nat.le_of_ble_eq_true rfl) ⟨_, rfl, ⟨by first | exact tt1 ((ltI (by omega)).mpr ⟨c1, Int32.not_le.mp c9⟩) | exact ff0 (fun z => ((ltI (by omega)).mp z).1 c1) | exact ff0 (fun z => Int32.not_lt.mpr c9 ((ltI (by omega)).mp z).2), rfl⟩⟩ dX5_isStage_17
theorem c_X5_widthOf (E : RX x m t e h) (B : TB t) (z : Int32) : MA G mX5_widthOf 0 0 0 [.ref x, .int z] h (Oi (fun v h' => v = nI (wdI t z) ∧ h' = h)) := by
  have b := B.S
  refine MA.intro (lv := [some (.ref x), some (.int z)]) (by decide) (Nat.le_of_ble_eq_true rfl) rfl (fun F C => ?_)
  by_cases hz : inN z (tN t 0 0)
  · obtain ⟨s, hs, rfl⟩ := hz
    refine r_iload_n (pc := 0) C dX5_widthOf_0 rfl rfl ?_
    refine n_if_lt (pc := 1) (tgt := 21) C (by omega) dX5_widthOf_1 (by decide) ?_
    refine r_iload_n (pc := 4) C dX5_widthOf_4 rfl rfl ?_
    refine r_aload_n (pc := 5) C dX5_widthOf_5 rfl rfl ?_
    refine r_getIe (pc := 6) C fl_X5_64 E.L.o rfl E.S dX5_widthOf_6 ?_
    refine n_icmp_ge (pc := 9) (tgt := 21) C (by omega) (by omega) dX5_widthOf_9 (by decide) (fun c9 => absurd c9 (by omega)) (fun c9 => ?_)
    refine r_aload_n (pc := 12) C dX5_widthOf_12 rfl rfl ?_
    refine r_getR (pc := 13) C fl_X5_9 E.L.o rfl E.L.r1 dX5_widthOf_13 ?_
    refine r_iload_n (pc := 16) C dX5_widthOf_16 rfl rfl ?_
    refine n_iald (pc := 17) C E.L.s1 (by omega) (E.k_P _ (by omega)) dX5_widthOf_17 ?_
    refine r_goto (pc := 18) (tgt := 22) C dX5_widthOf_18 (by decide) ?_
    exact r_iret (pc := 22) C rfl (Nat.le_of_ble_eq_true rfl) (Nat.le_of_ble_eq_true rfl) ⟨_, rfl, ⟨by rw [wdI_n B hs], rfl⟩⟩ dX5_widthOf_22
  · have e0 : wdI t z = 0 := cif_f hz
    refine r_iload_n (pc := 0) C dX5_widthOf_0 rfl rfl ?_
    refine r_if_lt (pc := 1) (tgt := 21) C dX5_widthOf_1 (by decide) (fun c1 => ?_) (fun c1 => ?_)
    · refine r_iconst (pc := 21) (v := (nI 0)) C dX5_widthOf_21 (by decide) ?_
      exact r_iret (pc := 22) C rfl (Nat.le_of_ble_eq_true rfl) (Nat.le_of_ble_eq_true rfl) ⟨_, rfl, ⟨by rw [e0], rfl⟩⟩ dX5_widthOf_22
    · refine r_iload_n (pc := 4) C dX5_widthOf_4 rfl rfl ?_
      refine r_aload_n (pc := 5) C dX5_widthOf_5 rfl rfl ?_
      refine r_getIe (pc := 6) C fl_X5_64 E.L.o rfl E.S dX5_widthOf_6 ?_
      refine r_icmp_ge (pc := 9) (tgt := 21) C dX5_widthOf_9 (by decide) (fun c9 => ?_) (fun c9 => absurd c9 (fun q => hz ((ltI (by omega)).mpr ⟨c1, Int32.not_le.mp q⟩)))
      refine r_iconst (pc := 21) (v := (nI 0)) C dX5_widthOf_21 (by decide) ?_
      exact r_iret (pc := 22) C rfl (Nat.le_of_ble_eq_true rfl) (Nat.le_of_ble_eq_true rfl) ⟨_, rfl, ⟨by rw [e0], rfl⟩⟩ dX5_widthOf_22
noncomputable def tkA (t : TS) (x : Nat) (z w : Int32) : Option Nat := cif (inT t z w) (some (x + 16 * tN t 0 0 + (4 * z.toNatClampNeg + w.toNatClampNeg))) none
theorem tkA_n (B : TB t) {s q : Nat} (hs : s < tN t 0 0) (hq : q < tN t 1 s) : tkA t x (nI s) (nI q) = some (x + 16 * tN t 0 0 + (4 * s + q)) := by
  have b := B.S
  have b1 := B.P (s := s) (by omega)
  exact (cif_t ⟨s, hs, rfl, q, hq, rfl⟩).trans (by rw [cl (by omega), cl (by omega)])
theorem c_X5_taskAt (E : RX x m t e h) (B : TB t) (z w : Int32) : MA G mX5_taskAt 1 0 0 [.ref x, .int z, .int w] h (Oq (fun o h' => o = tkA t x z w ∧ h' = h)) := by
  have b := B.S
  have bw := wdI_le B (z := z)
  refine MA.intro (lv := [some (.ref x), some (.int z), some (.int w)]) (by decide) (Nat.le_of_ble_eq_true rfl) rfl (fun F C => ?_)
  by_cases hz : inT t z w
  · obtain ⟨s, hs, rfl, q, hq, rfl⟩ := id hz
    have b1 := B.P (s := s) (by omega)
    refine r_iload_n (pc := 0) C dX5_taskAt_0 rfl rfl ?_
    refine n_if_lt (pc := 1) (tgt := 13) C (by omega) dX5_taskAt_1 (by decide) ?_
    refine r_iload_n (pc := 4) C dX5_taskAt_4 rfl rfl ?_
    refine r_aload_n (pc := 5) C dX5_taskAt_5 rfl rfl ?_
    refine r_iload_n (pc := 6) C dX5_taskAt_6 rfl rfl ?_
    refine r_calli (cr_V (pc := 7) C (c_X5_widthOf E B _) dX5_taskAt_7 cm_X5_widthOf ml_X5_110 im_X5_widthOf se_X5_widthOf E.L.o rfl ⟨⟨Nat.le_of_ble_eq_true rfl, Nat.le_of_ble_eq_true rfl⟩, Nat.le_of_ble_eq_true rfl, Nat.le_of_ble_eq_true rfl⟩ rfl rfl (Nat.le_of_ble_eq_true rfl)) (fun v7 h7 hq7 => ?_)
    obtain ⟨rfl, rfl⟩ := hq7
    rw [wdI_n B hs]
    refine n_icmp_lt (pc := 10) (tgt := 15) C (by omega) (by omega) dX5_taskAt_10 (by decide) (fun c10 => ?_) (fun c10 => absurd c10 (by omega))
    refine r_aload_n (pc := 15) C dX5_taskAt_15 rfl rfl ?_
    refine r_getR (pc := 16) C fl_X5_84 E.L.o rfl E.L.r5 dX5_taskAt_16 ?_
    refine r_iload_n (pc := 19) C dX5_taskAt_19 rfl rfl ?_
    refine r_iconst (pc := 20) (v := (nI 4)) C dX5_taskAt_20 (by decide) ?_
    refine n_imul (pc := 21) C dX5_taskAt_21 ?_
    refine r_iload_n (pc := 22) C dX5_taskAt_22 rfl rfl ?_
    refine n_iadd (pc := 23) C dX5_taskAt_23 ?_
    refine n_aald (pc := 24) C E.L.s5 (by decide) (by omega) (show _ = some (x + 16 * tN t 0 0 + (4 * s + q)) from (E.L.tk (by omega)).1.trans (by rw [Nat.mul_comm s 4])) dX5_taskAt_24 ?_ (by omega)
    exact r_aret (pc := 25) (o := _) C rfl (Or.inl ⟨_, rfl⟩) (Nat.le_of_ble_eq_true rfl) (Nat.le_of_ble_eq_true rfl) ⟨_, rfl, ⟨(tkA_n B hs hq).symm, rfl⟩⟩ dX5_taskAt_25
  · have e0 : tkA t x z w = none := cif_f hz
    refine r_iload_n (pc := 0) C dX5_taskAt_0 rfl rfl ?_
    refine r_if_lt (pc := 1) (tgt := 13) C dX5_taskAt_1 (by decide) (fun c1 => ?_) (fun c1 => ?_)
    · refine r_null (pc := 13) C dX5_taskAt_13 ?_
      exact r_aret (pc := 14) (o := none) C rfl (Or.inl ⟨_, rfl⟩) (Nat.le_of_ble_eq_true rfl) (Nat.le_of_ble_eq_true rfl) ⟨_, rfl, ⟨e0.symm, rfl⟩⟩ dX5_taskAt_14
    · refine r_iload_n (pc := 4) C dX5_taskAt_4 rfl rfl ?_
      refine r_aload_n (pc := 5) C dX5_taskAt_5 rfl rfl ?_
      refine r_iload_n (pc := 6) C dX5_taskAt_6 rfl rfl ?_
      refine r_calli (cr_V (pc := 7) C (c_X5_widthOf E B _) dX5_taskAt_7 cm_X5_widthOf ml_X5_110 im_X5_widthOf se_X5_widthOf E.L.o rfl ⟨⟨Nat.le_of_ble_eq_true rfl, Nat.le_of_ble_eq_true rfl⟩, Nat.le_of_ble_eq_true rfl, Nat.le_of_ble_eq_true rfl⟩ rfl rfl (Nat.le_of_ble_eq_true rfl)) (fun v7 h7 hq7 => ?_)
      obtain ⟨rfl, rfl⟩ := hq7
      refine r_icmp_lt (pc := 10) (tgt := 15) C dX5_taskAt_10 (by decide) (fun c10 => absurd c10 (fun q => hz ((inT_iff B).mpr ⟨c1, q⟩))) (fun c10 => ?_)
      refine r_null (pc := 13) C dX5_taskAt_13 ?_
      exact r_aret (pc := 14) (o := none) C rfl (Or.inl ⟨_, rfl⟩) (Nat.le_of_ble_eq_true rfl) (Nat.le_of_ble_eq_true rfl) ⟨_, rfl, ⟨e0.symm, rfl⟩⟩ dX5_taskAt_14
noncomputable def mkA (t : TS) (m : Nat) (z : Int32) : Option Nat := cif (inN z (tN t 0 4)) (some (m + 24 + 7 * z.toNatClampNeg)) none
theorem mkA_n (B : TB t) {j : Nat} (hj : j < tN t 0 4) : mkA t m (nI j) = some (m + 24 + 7 * j) := by
  have b := B.marks
  exact (cif_t (inN_ok hj)).trans (by rw [cl (by omega)])
theorem c_X5_markAt (E : RX x m t e h) (B : TB t) (z : Int32) : MA G mX5_markAt 0 0 0 [.ref x, .int z] h (Oq (fun o h' => o = mkA t m z ∧ h' = h)) := by
  have b := B.marks
  refine MA.intro (lv := [some (.ref x), some (.int z)]) (by decide) (Nat.le_of_ble_eq_true rfl) rfl (fun F C => ?_)
  by_cases hz : inN z (tN t 0 4)
  · obtain ⟨j, hj, rfl⟩ := hz
    refine r_iload_n (pc := 0) C dX5_markAt_0 rfl rfl ?_
    refine n_if_lt (pc := 1) (tgt := 21) C (by omega) dX5_markAt_1 (by decide) ?_
    refine r_iload_n (pc := 4) C dX5_markAt_4 rfl rfl ?_
    refine r_aload_n (pc := 5) C dX5_markAt_5 rfl rfl ?_
    refine r_getIe (pc := 6) C fl_X5_36 E.L.o rfl E.marks dX5_markAt_6 ?_
    refine n_icmp_ge (pc := 9) (tgt := 21) C (by omega) (by omega) dX5_markAt_9 (by decide) (fun c9 => absurd c9 (by omega)) (fun c9 => ?_)
    refine r_aload_n (pc := 12) C dX5_markAt_12 rfl rfl ?_
    refine r_getR (pc := 13) C fl_X5_29 E.L.o rfl E.L.r6 dX5_markAt_13 ?_
    refine r_iload_n (pc := 16) C dX5_markAt_16 rfl rfl ?_
    refine n_aald (pc := 17) C E.L.s6 (by decide) (by omega) ((E.L.mk (by omega)).trans (if_pos hj)) dX5_markAt_17 ?_ (by omega)
    refine r_goto (pc := 18) (tgt := 22) C dX5_markAt_18 (by decide) ?_
    exact r_aret (pc := 22) (o := _) C rfl (Or.inl ⟨_, rfl⟩) (Nat.le_of_ble_eq_true rfl) (Nat.le_of_ble_eq_true rfl) ⟨_, rfl, ⟨(mkA_n B hj).symm, rfl⟩⟩ dX5_markAt_22
  · have e0 : mkA t m z = none := cif_f hz
    refine r_iload_n (pc := 0) C dX5_markAt_0 rfl rfl ?_
    refine r_if_lt (pc := 1) (tgt := 21) C dX5_markAt_1 (by decide) (fun c1 => ?_) (fun c1 => ?_)
    · refine r_null (pc := 21) C dX5_markAt_21 ?_
      exact r_aret (pc := 22) (o := none) C rfl (Or.inl ⟨_, rfl⟩) (Nat.le_of_ble_eq_true rfl) (Nat.le_of_ble_eq_true rfl) ⟨_, rfl, ⟨e0.symm, rfl⟩⟩ dX5_markAt_22
    · refine r_iload_n (pc := 4) C dX5_markAt_4 rfl rfl ?_
      refine r_aload_n (pc := 5) C dX5_markAt_5 rfl rfl ?_
      refine r_getIe (pc := 6) C fl_X5_36 E.L.o rfl E.marks dX5_markAt_6 ?_
      refine r_icmp_ge (pc := 9) (tgt := 21) C dX5_markAt_9 (by decide) (fun c9 => ?_) (fun c9 => absurd c9 (fun q => hz ((ltI (by omega)).mpr ⟨c1, Int32.not_le.mp q⟩)))
      refine r_null (pc := 21) C dX5_markAt_21 ?_
      exact r_aret (pc := 22) (o := none) C rfl (Or.inl ⟨_, rfl⟩) (Nat.le_of_ble_eq_true rfl) (Nat.le_of_ble_eq_true rfl) ⟨_, rfl, ⟨e0.symm, rfl⟩⟩ dX5_markAt_22
noncomputable def chA (t : TS) (x : Nat) (z w u : Int32) : Option Nat := cif (inC t z w u) (some (x + 15 + (16 * z.toNatClampNeg + 4 * w.toNatClampNeg + u.toNatClampNeg))) none
theorem chA_n (B : TB t) {g f q : Nat} (hg : g + 1 < tN t 0 0) (hf : f < tN t 1 g) (hq : q < tN t 1 (g + 1)) : chA t x (nI g) (nI f) (nI q) = some (x + 15 + (16 * g + 4 * f + q)) := by
  have b := B.S
  have b1 := B.P (s := g) (by omega)
  have b2 := B.P (s := g + 1) (by omega)
  exact (cif_t ⟨g, hg, rfl, ⟨f, hf, rfl⟩, q, hq, rfl⟩).trans (by rw [cl (by omega), cl (by omega), cl (by omega)])
theorem c_X5_channelAt (E : RX x m t e h) (B : TB t) (z w u : Int32) : MA G mX5_channelAt 1 0 0 [.ref x, .int z, .int w, .int u] h (Oq (fun o h' => o = chA t x z w u ∧ h' = h)) := by
  have b := B.S
  refine MA.intro (lv := [some (.ref x), some (.int z), some (.int w), some (.int u)]) (by decide) (Nat.le_of_ble_eq_true rfl) rfl (fun F C => ?_)
  by_cases hc : inC t z w u
  · obtain ⟨g, hg, rfl, ⟨f, hf, rfl⟩, q, hq, rfl⟩ := id hc
    have b1 := B.P (s := g) (by omega)
    have b2 := B.P (s := g + 1) (by omega)
    refine r_iload_n (pc := 0) C dX5_channelAt_0 rfl rfl ?_
    refine n_if_lt (pc := 1) (tgt := 14) C (by omega) dX5_channelAt_1 (by decide) ?_
    refine r_iload_n (pc := 4) C dX5_channelAt_4 rfl rfl ?_
    refine r_aload_n (pc := 5) C dX5_channelAt_5 rfl rfl ?_
    refine r_getIe (pc := 6) C fl_X5_64 E.L.o rfl E.S dX5_channelAt_6 ?_
    refine r_iconst (pc := 9) (v := (nI 1)) C dX5_channelAt_9 (by decide) ?_
    refine n_isub (pc := 10) C (by omega) dX5_channelAt_10 ?_
    refine n_icmp_lt (pc := 11) (tgt := 16) C (by omega) (by omega) dX5_channelAt_11 (by decide) (fun c11 => ?_) (fun c11 => absurd c11 (by omega))
    refine r_iload_n (pc := 16) C dX5_channelAt_16 rfl rfl ?_
    refine n_if_lt (pc := 17) (tgt := 46) C (by omega) dX5_channelAt_17 (by decide) ?_
    refine r_iload_n (pc := 20) C dX5_channelAt_20 rfl rfl ?_
    refine r_aload_n (pc := 21) C dX5_channelAt_21 rfl rfl ?_
    refine r_getR (pc := 22) C fl_X5_9 E.L.o rfl E.L.r1 dX5_channelAt_22 ?_
    refine r_iload_n (pc := 25) C dX5_channelAt_25 rfl rfl ?_
    refine n_iald (pc := 26) C E.L.s1 (by omega) (E.k_P _ (by omega)) dX5_channelAt_26 ?_
    refine n_icmp_ge (pc := 27) (tgt := 46) C (by omega) (by omega) dX5_channelAt_27 (by decide) (fun c27 => absurd c27 (by omega)) (fun c27 => ?_)
    refine r_iload_n (pc := 30) C dX5_channelAt_30 rfl rfl ?_
    refine n_if_lt (pc := 31) (tgt := 46) C (by omega) dX5_channelAt_31 (by decide) ?_
    refine r_iload_n (pc := 34) C dX5_channelAt_34 rfl rfl ?_
    refine r_aload_n (pc := 35) C dX5_channelAt_35 rfl rfl ?_
    refine r_getR (pc := 36) C fl_X5_9 E.L.o rfl E.L.r1 dX5_channelAt_36 ?_
    refine r_iload_n (pc := 39) C dX5_channelAt_39 rfl rfl ?_
    refine r_iconst (pc := 40) (v := (nI 1)) C dX5_channelAt_40 (by decide) ?_
    refine n_iadd (pc := 41) C dX5_channelAt_41 ?_
    refine n_iald (pc := 42) C E.L.s1 (by omega) (E.k_P _ (by omega)) dX5_channelAt_42 ?_
    refine n_icmp_lt (pc := 43) (tgt := 48) C (by omega) (by omega) dX5_channelAt_43 (by decide) (fun c43 => ?_) (fun c43 => absurd c43 (by omega))
    refine r_aload_n (pc := 48) C dX5_channelAt_48 rfl rfl ?_
    refine r_getR (pc := 49) C fl_X5_75 E.L.o rfl E.L.r4 dX5_channelAt_49 ?_
    refine r_iload_n (pc := 52) C dX5_channelAt_52 rfl rfl ?_
    refine r_iload_n (pc := 53) C dX5_channelAt_53 rfl rfl ?_
    refine r_iload_n (pc := 54) C dX5_channelAt_54 rfl rfl ?_
    refine r_calli (cr_S (pc := 55) C (c_X5_numberOf _ _ _ _) dX5_channelAt_55 cm_X5_numberOf ml_X5_252 st_X5_numberOf ⟨⟨Nat.le_of_ble_eq_true rfl, Nat.le_of_ble_eq_true rfl⟩, Nat.le_of_ble_eq_true rfl, Nat.le_of_ble_eq_true rfl⟩ rfl rfl (Nat.le_of_ble_eq_true rfl)) (fun v55 h55 hq55 => ?_)
    obtain ⟨rfl, rfl⟩ := hq55
    refine n_aald (pc := 58) C E.L.s4 (by decide) (by omega) (E.L.ch (by omega)).1 dX5_channelAt_58 ?_ (by omega)
    exact r_aret (pc := 59) (o := _) C rfl (Or.inl ⟨_, rfl⟩) (Nat.le_of_ble_eq_true rfl) (Nat.le_of_ble_eq_true rfl) ⟨_, rfl, ⟨(chA_n B hg hf hq).symm, rfl⟩⟩ dX5_channelAt_59
  · have e0 : chA t x z w u = none := cif_f hc
    by_cases hz : inN z (tN t 0 0 - 1)
    · obtain ⟨g, hg, rfl⟩ := hz
      have b1 := B.P (s := g) (by omega)
      have b2 := B.P (s := g + 1) (by omega)
      refine r_iload_n (pc := 0) C dX5_channelAt_0 rfl rfl ?_
      refine n_if_lt (pc := 1) (tgt := 14) C (by omega) dX5_channelAt_1 (by decide) ?_
      refine r_iload_n (pc := 4) C dX5_channelAt_4 rfl rfl ?_
      refine r_aload_n (pc := 5) C dX5_channelAt_5 rfl rfl ?_
      refine r_getIe (pc := 6) C fl_X5_64 E.L.o rfl E.S dX5_channelAt_6 ?_
      refine r_iconst (pc := 9) (v := (nI 1)) C dX5_channelAt_9 (by decide) ?_
      refine n_isub (pc := 10) C (by omega) dX5_channelAt_10 ?_
      refine n_icmp_lt (pc := 11) (tgt := 16) C (by omega) (by omega) dX5_channelAt_11 (by decide) (fun c11 => ?_) (fun c11 => absurd c11 (by omega))
      refine r_iload_n (pc := 16) C dX5_channelAt_16 rfl rfl ?_
      refine r_if_lt (pc := 17) (tgt := 46) C dX5_channelAt_17 (by decide) (fun c17 => ?_) (fun c17 => ?_)
      · refine r_null (pc := 46) C dX5_channelAt_46 ?_
        exact r_aret (pc := 47) (o := none) C rfl (Or.inl ⟨_, rfl⟩) (Nat.le_of_ble_eq_true rfl) (Nat.le_of_ble_eq_true rfl) ⟨_, rfl, ⟨e0.symm, rfl⟩⟩ dX5_channelAt_47
      · refine r_iload_n (pc := 20) C dX5_channelAt_20 rfl rfl ?_
        refine r_aload_n (pc := 21) C dX5_channelAt_21 rfl rfl ?_
        refine r_getR (pc := 22) C fl_X5_9 E.L.o rfl E.L.r1 dX5_channelAt_22 ?_
        refine r_iload_n (pc := 25) C dX5_channelAt_25 rfl rfl ?_
        refine n_iald (pc := 26) C E.L.s1 (by omega) (E.k_P _ (by omega)) dX5_channelAt_26 ?_
        refine r_icmp_ge (pc := 27) (tgt := 46) C dX5_channelAt_27 (by decide) (fun c27 => ?_) (fun c27 => ?_)
        · refine r_null (pc := 46) C dX5_channelAt_46 ?_
          exact r_aret (pc := 47) (o := none) C rfl (Or.inl ⟨_, rfl⟩) (Nat.le_of_ble_eq_true rfl) (Nat.le_of_ble_eq_true rfl) ⟨_, rfl, ⟨e0.symm, rfl⟩⟩ dX5_channelAt_47
        · refine r_iload_n (pc := 30) C dX5_channelAt_30 rfl rfl ?_
          refine r_if_lt (pc := 31) (tgt := 46) C dX5_channelAt_31 (by decide) (fun c31 => ?_) (fun c31 => ?_)
          · refine r_null (pc := 46) C dX5_channelAt_46 ?_
            exact r_aret (pc := 47) (o := none) C rfl (Or.inl ⟨_, rfl⟩) (Nat.le_of_ble_eq_true rfl) (Nat.le_of_ble_eq_true rfl) ⟨_, rfl, ⟨e0.symm, rfl⟩⟩ dX5_channelAt_47
          · refine r_iload_n (pc := 34) C dX5_channelAt_34 rfl rfl ?_
            refine r_aload_n (pc := 35) C dX5_channelAt_35 rfl rfl ?_
            refine r_getR (pc := 36) C fl_X5_9 E.L.o rfl E.L.r1 dX5_channelAt_36 ?_
            refine r_iload_n (pc := 39) C dX5_channelAt_39 rfl rfl ?_
            refine r_iconst (pc := 40) (v := (nI 1)) C dX5_channelAt_40 (by decide) ?_
            refine n_iadd (pc := 41) C dX5_channelAt_41 ?_
            refine n_iald (pc := 42) C E.L.s1 (by omega) (E.k_P _ (by omega)) dX5_channelAt_42 ?_
            refine r_icmp_lt (pc := 43) (tgt := 48) C dX5_channelAt_43 (by decide) (fun c43 => absurd c43 (fun q => hc ⟨g, by omega, rfl, (ltI (by omega)).mpr ⟨c17, Int32.not_le.mp c27⟩, (ltI (by omega)).mpr ⟨c31, q⟩⟩)) (fun c43 => ?_)
            refine r_null (pc := 46) C dX5_channelAt_46 ?_
            exact r_aret (pc := 47) (o := none) C rfl (Or.inl ⟨_, rfl⟩) (Nat.le_of_ble_eq_true rfl) (Nat.le_of_ble_eq_true rfl) ⟨_, rfl, ⟨e0.symm, rfl⟩⟩ dX5_channelAt_47
    · skip
      refine r_iload_n (pc := 0) C dX5_channelAt_0 rfl rfl ?_
      refine r_if_lt (pc := 1) (tgt := 14) C dX5_channelAt_1 (by decide) (fun c1 => ?_) (fun c1 => ?_)
      · refine r_null (pc := 14) C dX5_channelAt_14 ?_
        exact r_aret (pc := 15) (o := none) C rfl (Or.inl ⟨_, rfl⟩) (Nat.le_of_ble_eq_true rfl) (Nat.le_of_ble_eq_true rfl) ⟨_, rfl, ⟨e0.symm, rfl⟩⟩ dX5_channelAt_15
      · refine r_iload_n (pc := 4) C dX5_channelAt_4 rfl rfl ?_
        refine r_aload_n (pc := 5) C dX5_channelAt_5 rfl rfl ?_
        refine r_getIe (pc := 6) C fl_X5_64 E.L.o rfl E.S dX5_channelAt_6 ?_
        refine r_iconst (pc := 9) (v := (nI 1)) C dX5_channelAt_9 (by decide) ?_
        refine n_isub (pc := 10) C (by omega) dX5_channelAt_10 ?_
        refine r_icmp_lt (pc := 11) (tgt := 16) C dX5_channelAt_11 (by decide) (fun c11 => absurd c11 (fun q => hz ((ltI (by omega)).mpr ⟨c1, q⟩))) (fun c11 => ?_)
        refine r_null (pc := 14) C dX5_channelAt_14 ?_
        exact r_aret (pc := 15) (o := none) C rfl (Or.inl ⟨_, rfl⟩) (Nat.le_of_ble_eq_true rfl) (Nat.le_of_ble_eq_true rfl) ⟨_, rfl, ⟨e0.symm, rfl⟩⟩ dX5_channelAt_15
/-- the channel of a gap in which rows of KEY k lie -/
def home (t : TS) (g k : Nat) : Nat := 16 * g + 4 * (k % tN t 1 g) + k % tN t 1 (g + 1)
theorem home_lt (B : TB t) {g k : Nat} (hg : g + 1 < tN t 0 0) : home t g k < 16 * (tN t 0 0 - 1) ∧ home t g k / 16 = g := by
  have b := B.S
  have b1 := B.P (s := g) (by omega)
  have b2 := B.P (s := g + 1) (by omega)
  have m1 := Nat.mod_lt k (show tN t 1 g > 0 by omega)
  have m2 := Nat.mod_lt k (show tN t 1 (g + 1) > 0 by omega)
  unfold home
  omega
theorem c_X5_channelOf (E : RX x m t e h) (B : TB t) {g k : Nat} (hg : g < tN t 0 0) (hk : k < 100000) : MA G mX5_channelOf 2 0 0 [.ref x, .int (nI g), .int (nI k)] h (Oq (fun o h' => o = (if g + 1 < tN t 0 0 then some (x + 15 + home t g k) else none) ∧ h' = h)) := by
  have b := B.S
  have b1 := B.P (s := g) (by omega)
  refine MA.intro (lv := [some (.ref x), some (.int (nI g)), some (.int (nI k))]) (by decide) (Nat.le_of_ble_eq_true rfl) rfl (fun F C => ?_)
  have bw := wdI_le B (z := nI (g + 1))
  have m1 := Nat.mod_lt k (show tN t 1 g > 0 by omega)
  have hx : chA t x (nI g) (nI (k % tN t 1 g)) (ownI k (wdI t (nI (g + 1)))) = (if g + 1 < tN t 0 0 then some (x + 15 + home t g k) else none) := by
    by_cases h1 : g + 1 < tN t 0 0
    · have b2 := B.P (s := g + 1) (by omega)
      rw [if_pos h1, wdI_n B h1, show ownI k (tN t 1 (g + 1)) = nI (k % tN t 1 (g + 1)) from if_neg (by omega)]
      exact chA_n B h1 m1 (Nat.mod_lt k (by omega))
    · rw [if_neg h1]
      exact cif_f (fun ⟨g', hg', e, _⟩ => h1 (by rw [nI_in2 (by omega) (by omega) e]; exact hg'))
  refine r_aload_n (pc := 0) C dX5_channelOf_0 rfl rfl ?_
  refine r_iload_n (pc := 1) C dX5_channelOf_1 rfl rfl ?_
  refine r_iload_n (pc := 2) C dX5_channelOf_2 rfl rfl ?_
  refine r_aload_n (pc := 3) C dX5_channelOf_3 rfl rfl ?_
  refine r_iload_n (pc := 4) C dX5_channelOf_4 rfl rfl ?_
  refine r_calli (cr_V (pc := 5) C (c_X5_widthOf E B _) dX5_channelOf_5 cm_X5_widthOf ml_X5_110 im_X5_widthOf se_X5_widthOf E.L.o rfl ⟨⟨Nat.le_of_ble_eq_true rfl, Nat.le_of_ble_eq_true rfl⟩, Nat.le_of_ble_eq_true rfl, Nat.le_of_ble_eq_true rfl⟩ rfl rfl (Nat.le_of_ble_eq_true rfl)) (fun v5 h5 hq5 => ?_)
  obtain ⟨rfl, rfl⟩ := hq5
  rw [wdI_n B hg]
  refine r_calli (cr_S (pc := 8) C (c_X5_owner _ k (tN t 1 g) (by omega) (by omega)) dX5_channelOf_8 cm_X5_owner ml_X5_256 st_X5_owner ⟨⟨Nat.le_of_ble_eq_true rfl, Nat.le_of_ble_eq_true rfl⟩, Nat.le_of_ble_eq_true rfl, Nat.le_of_ble_eq_true rfl⟩ rfl rfl (Nat.le_of_ble_eq_true rfl)) (fun v8 h8 hq8 => ?_)
  obtain ⟨rfl, rfl⟩ := hq8
  rw [show ownI k (tN t 1 g) = nI (k % tN t 1 g) from if_neg (by omega)]
  refine r_iload_n (pc := 11) C dX5_channelOf_11 rfl rfl ?_
  refine r_aload_n (pc := 12) C dX5_channelOf_12 rfl rfl ?_
  refine r_iload_n (pc := 13) C dX5_channelOf_13 rfl rfl ?_
  refine r_iconst (pc := 14) (v := (nI 1)) C dX5_channelOf_14 (by decide) ?_
  refine n_iadd (pc := 15) C dX5_channelOf_15 ?_
  refine r_calli (cr_V (pc := 16) C (c_X5_widthOf E B _) dX5_channelOf_16 cm_X5_widthOf ml_X5_110 im_X5_widthOf se_X5_widthOf E.L.o rfl ⟨⟨Nat.le_of_ble_eq_true rfl, Nat.le_of_ble_eq_true rfl⟩, Nat.le_of_ble_eq_true rfl, Nat.le_of_ble_eq_true rfl⟩ rfl rfl (Nat.le_of_ble_eq_true rfl)) (fun v16 h16 hq16 => ?_)
  obtain ⟨rfl, rfl⟩ := hq16
  refine r_calli (cr_S (pc := 19) C (c_X5_owner _ k _ (by omega) (by omega)) dX5_channelOf_19 cm_X5_owner ml_X5_256 st_X5_owner ⟨⟨Nat.le_of_ble_eq_true rfl, Nat.le_of_ble_eq_true rfl⟩, Nat.le_of_ble_eq_true rfl, Nat.le_of_ble_eq_true rfl⟩ rfl rfl (Nat.le_of_ble_eq_true rfl)) (fun v19 h19 hq19 => ?_)
  obtain ⟨rfl, rfl⟩ := hq19
  refine r_callq (cr_V (pc := 22) C (c_X5_channelAt E B _ _ _) dX5_channelOf_22 cm_X5_channelAt ml_X5_185 im_X5_channelAt se_X5_channelAt E.L.o rfl ⟨⟨Nat.le_of_ble_eq_true rfl, Nat.le_of_ble_eq_true rfl⟩, Nat.le_of_ble_eq_true rfl, Nat.le_of_ble_eq_true rfl⟩ rfl rfl (Nat.le_of_ble_eq_true rfl)) (fun v22 h22 hq22 => ?_)
  obtain ⟨rfl, rfl⟩ := hq22
  exact r_aret (pc := 25) (o := _) C rfl (Or.inl ⟨_, rfl⟩) (Nat.le_of_ble_eq_true rfl) (Nat.le_of_ble_eq_true rfl) ⟨_, rfl, ⟨hx, rfl⟩⟩ dX5_channelOf_25
theorem RX.rows (E : RX x m t e h) (B : TB t) {c : Nat} (hc : c < 16 * (tN t 0 0 - 1)) : hI h (x + 15 + c) 4 = nI (tC t c).length := (E.k_ch c hc).2.2.2.1
theorem c_X5_canGoOn (E : RX x m t e h) (B : TB t) {s r : Nat} (hs : s < tN t 0 0) (hr : r < tN t 0 3) : MA G mX5_canGoOn 3 0 0 [.ref x, .int (nI s), .int (nI r)] h (Oi (fun v h' => v = bI (s + 1 < tN t 0 0 → (tC t (home t s (tN t 2 r))).length < tN t 0 1) ∧ h' = h)) := by
  have b := B.S
  have b1 := B.fed
  have b2 := B.key r
  have b3 := B.cap
  refine MA.intro (lv := [some (.ref x), some (.int (nI s)), some (.int (nI r)), none]) (by decide) (Nat.le_of_ble_eq_true rfl) rfl (fun F C => ?_)
  have K : X1K (x + 2) t h := ⟨E.k_fed, E.k_key, E.k_val⟩
  by_cases h1 : s + 1 < tN t 0 0
  · have hh := (home_lt B (k := tN t 2 r) h1).1
    have b4 := B.len (home t s (tN t 2 r))
    refine r_aload_n (pc := 0) C dX5_canGoOn_0 rfl rfl ?_
    refine r_iload_n (pc := 1) C dX5_canGoOn_1 rfl rfl ?_
    refine r_aload_n (pc := 2) C dX5_canGoOn_2 rfl rfl ?_
    refine r_getR (pc := 3) C fl_X5_16 E.L.o rfl E.L.r2 dX5_canGoOn_3 ?_
    refine r_iload_n (pc := 6) C dX5_canGoOn_6 rfl rfl ?_
    refine r_calli (cr_V (pc := 7) C (c_X1_keyOf E.L.I K b1 _) dX5_canGoOn_7 cm_X1_keyOf ml_X5_204 im_X1_keyOf se_X1_keyOf E.L.I.1 rfl ⟨⟨Nat.le_of_ble_eq_true rfl, Nat.le_of_ble_eq_true rfl⟩, Nat.le_of_ble_eq_true rfl, Nat.le_of_ble_eq_true rfl⟩ rfl rfl (Nat.le_of_ble_eq_true rfl)) (fun v7 h7 hq7 => ?_)
    obtain ⟨rfl, rfl⟩ := hq7
    rw [keyI_n hr b1]
    refine r_callq (cr_V (pc := 10) C (c_X5_channelOf E B hs (by omega)) dX5_canGoOn_10 cm_X5_channelOf ml_X5_304 im_X5_channelOf se_X5_channelOf E.L.o rfl ⟨⟨Nat.le_of_ble_eq_true rfl, Nat.le_of_ble_eq_true rfl⟩, Nat.le_of_ble_eq_true rfl, Nat.le_of_ble_eq_true rfl⟩ rfl rfl (Nat.le_of_ble_eq_true rfl)) (fun v10 h10 hq10 => ?_)
    obtain ⟨rfl, rfl⟩ := hq10
    rw [if_pos h1]
    refine r_astore_n (pc := 13) (lv' := [_, _, _, _]) C dX5_canGoOn_13 rfl (by decide) rfl rfl ?_
    refine r_aload_n (pc := 14) C dX5_canGoOn_14 rfl rfl ?_
    refine r_ifnull (pc := 15) C dX5_canGoOn_15 ?_
    refine r_aload_n (pc := 18) C dX5_canGoOn_18 rfl rfl ?_
    refine r_getIe (pc := 19) C fl_X5_189 (E.L.ch hh).2.1 rfl (E.rows B hh) dX5_canGoOn_19 ?_
    refine r_aload_n (pc := 22) C dX5_canGoOn_22 rfl rfl ?_
    refine r_getIe (pc := 23) C fl_X5_46 E.L.o rfl E.cap dX5_canGoOn_23 ?_
    refine n_icmp_ge (pc := 26) (tgt := 33) C (by omega) (by omega) dX5_canGoOn_26 (by decide) (fun c26 => ?_) (fun c26 => ?_)
    · refine r_iconst (pc := 33) (v := (nI 0)) C dX5_canGoOn_33 (by decide) ?_
      exact r_zret (pc := 34) C rfl (by first | exact bI_01 | exact Or.inl rfl | exact Or.inr rfl) (Nat.le_of_ble_eq_true rfl) (Nat.le_of_ble_eq_true rfl) ⟨_, rfl, ⟨by first | exact tt1 (fun _ => by omega) | exact ff0 (fun z => by have := z h1; omega), rfl⟩⟩ dX5_canGoOn_34
    · refine r_iconst (pc := 29) (v := (nI 1)) C dX5_canGoOn_29 (by decide) ?_
      refine r_goto (pc := 30) (tgt := 34) C dX5_canGoOn_30 (by decide) ?_
      exact r_zret (pc := 34) C rfl (by first | exact bI_01 | exact Or.inl rfl | exact Or.inr rfl) (Nat.le_of_ble_eq_true rfl) (Nat.le_of_ble_eq_true rfl) ⟨_, rfl, ⟨by first | exact tt1 (fun _ => by omega) | exact ff0 (fun z => by have := z h1; omega), rfl⟩⟩ dX5_canGoOn_34
  · skip
    refine r_aload_n (pc := 0) C dX5_canGoOn_0 rfl rfl ?_
    refine r_iload_n (pc := 1) C dX5_canGoOn_1 rfl rfl ?_
    refine r_aload_n (pc := 2) C dX5_canGoOn_2 rfl rfl ?_
    refine r_getR (pc := 3) C fl_X5_16 E.L.o rfl E.L.r2 dX5_canGoOn_3 ?_
    refine r_iload_n (pc := 6) C dX5_canGoOn_6 rfl rfl ?_
    refine r_calli (cr_V (pc := 7) C (c_X1_keyOf E.L.I K b1 _) dX5_canGoOn_7 cm_X1_keyOf ml_X5_204 im_X1_keyOf se_X1_keyOf E.L.I.1 rfl ⟨⟨Nat.le_of_ble_eq_true rfl, Nat.le_of_ble_eq_true rfl⟩, Nat.le_of_ble_eq_true rfl, Nat.le_of_ble_eq_true rfl⟩ rfl rfl (Nat.le_of_ble_eq_true rfl)) (fun v7 h7 hq7 => ?_)
    obtain ⟨rfl, rfl⟩ := hq7
    rw [keyI_n hr b1]
    refine r_callq (cr_V (pc := 10) C (c_X5_channelOf E B hs (by omega)) dX5_canGoOn_10 cm_X5_channelOf ml_X5_304 im_X5_channelOf se_X5_channelOf E.L.o rfl ⟨⟨Nat.le_of_ble_eq_true rfl, Nat.le_of_ble_eq_true rfl⟩, Nat.le_of_ble_eq_true rfl, Nat.le_of_ble_eq_true rfl⟩ rfl rfl (Nat.le_of_ble_eq_true rfl)) (fun v10 h10 hq10 => ?_)
    obtain ⟨rfl, rfl⟩ := hq10
    rw [if_neg h1]
    refine r_astore_nN (pc := 13) (lv' := [_, _, _, _]) C dX5_canGoOn_13 rfl (by decide) rfl rfl ?_
    refine r_aload_nN (pc := 14) C dX5_canGoOn_14 rfl rfl ?_
    refine r_ifnullN (pc := 15) (tgt := 29) C dX5_canGoOn_15 (by decide) ?_
    refine r_iconst (pc := 29) (v := (nI 1)) C dX5_canGoOn_29 (by decide) ?_
    refine r_goto (pc := 30) (tgt := 34) C dX5_canGoOn_30 (by decide) ?_
    exact r_zret (pc := 34) C rfl (by first | exact bI_01 | exact Or.inl rfl | exact Or.inr rfl) (Nat.le_of_ble_eq_true rfl) (Nat.le_of_ble_eq_true rfl) ⟨_, rfl, ⟨tt1 (fun z => absurd z h1), rfl⟩⟩ dX5_canGoOn_34
/-- what the class knows of a task -/
theorem c_X5_isShut (E : RX x m t e h) (B : TB t) {c i : Nat} (hc : c < 16 * (tN t 0 0 - 1)) (hi : i < 4 * tN t 0 0) (hb : xN e 2 i < 100000) : MA G mX5_isShut 1 0 0 [.ref (x + 15 + c), .ref (x + 16 * tN t 0 0 + i)] h (Oi (fun v h' => v = bI (tN t 5 c ≠ 0 ∧ xN e 2 i ≠ 0 ∧ tN t 6 i = 0) ∧ h' = h)) := by
  have b1 := B.bool c
  have b2 := B.bool i
  refine MA.intro (lv := [some (.ref (x + 15 + c)), some (.ref (x + 16 * tN t 0 0 + i))]) (by decide) (Nat.le_of_ble_eq_true rfl) rfl (fun F C => ?_)
  refine r_aload_n (pc := 0) C dX5_isShut_0 rfl rfl ?_
  refine r_getIe (pc := 1) C fl_X5_195 (E.L.ch hc).2.1 rfl (E.k_ch c hc).2.2.2.2.2.1 dX5_isShut_1 ?_
  refine n_if_eq (pc := 4) (tgt := 22) C (by omega) dX5_isShut_4 (by decide) (fun c4 => ?_) (fun c4 => ?_)
  · refine r_iconst (pc := 22) (v := (nI 0)) C dX5_isShut_22 (by decide) ?_
    exact r_zret (pc := 23) C rfl (by first | exact bI_01 | exact Or.inl rfl | exact Or.inr rfl) (Nat.le_of_ble_eq_true rfl) (Nat.le_of_ble_eq_true rfl) ⟨_, rfl, ⟨by first | exact tt1 ⟨c4, c15⟩ | exact ff0 (fun z => z.1 c4) | exact ff0 (fun z => c15 z.2), rfl⟩⟩ dX5_isShut_23
  · refine r_aload_n (pc := 7) C dX5_isShut_7 rfl rfl ?_
    refine r_ifnull (pc := 8) C dX5_isShut_8 ?_
    refine r_aload_n (pc := 11) C dX5_isShut_11 rfl rfl ?_
    refine r_calli (cr_V (pc := 12) C (c_X4_isWaiting (E.L.tk hi).2 (E.k_tk i hi).1 (E.k_tk i hi).2.1 hb b2.2.1) dX5_isShut_12 cm_X4_isWaiting ml_X5_178 im_X4_isWaiting se_X4_isWaiting (E.L.tk hi).2 rfl ⟨⟨Nat.le_of_ble_eq_true rfl, Nat.le_of_ble_eq_true rfl⟩, Nat.le_of_ble_eq_true rfl, Nat.le_of_ble_eq_true rfl⟩ rfl rfl (Nat.le_of_ble_eq_true rfl)) (fun v12 h12 hq12 => ?_)
    obtain ⟨rfl, rfl⟩ := hq12
    refine b_if_eq (pc := 15) (tgt := 22) C dX5_isShut_15 (by decide) (fun c15 => ?_) (fun c15 => ?_)
    · refine r_iconst (pc := 22) (v := (nI 0)) C dX5_isShut_22 (by decide) ?_
      exact r_zret (pc := 23) C rfl (by first | exact bI_01 | exact Or.inl rfl | exact Or.inr rfl) (Nat.le_of_ble_eq_true rfl) (Nat.le_of_ble_eq_true rfl) ⟨_, rfl, ⟨by first | exact tt1 ⟨c4, c15⟩ | exact ff0 (fun z => z.1 c4) | exact ff0 (fun z => c15 z.2), rfl⟩⟩ dX5_isShut_23
    · refine r_iconst (pc := 18) (v := (nI 1)) C dX5_isShut_18 (by decide) ?_
      refine r_goto (pc := 19) (tgt := 23) C dX5_isShut_19 (by decide) ?_
      exact r_zret (pc := 23) C rfl (by first | exact bI_01 | exact Or.inl rfl | exact Or.inr rfl) (Nat.le_of_ble_eq_true rfl) (Nat.le_of_ble_eq_true rfl) ⟨_, rfl, ⟨by first | exact tt1 ⟨c4, c15⟩ | exact ff0 (fun z => z.1 c4) | exact ff0 (fun z => c15 z.2), rfl⟩⟩ dX5_isShut_23
end CR56
