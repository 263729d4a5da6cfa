/-! ===== the class: overtaking, a row that is kept, taking part ===== -/
section CP62
variable {G : GP} {x m : Nat} {t : TS} {e : ES} {h : AH}
theorem c_X5_overtake (E : RX x m t e h) (B : TB t) {j c : Nat} (hj : j < tN t 0 4) (hc : c < 16 * (tN t 0 0 - 1)) (U : EU j t e) : MA G mX5_overtake 1 0 0 [.ref x, .ref (m + 24 + 7 * j), .ref (x + 15 + c)] h (Oi (fun v h' => v = bI (okK (tK t j).length (tN t 0 2) (tC t c)) ∧ (∃ e', RX x m (uK (uN t 12 (48 * j + c) 1) j (tK t j ++ (cif (okK (tK t j).length (tN t 0 2) (tC t c)) (tC t c) ((tC t c).take (tN t 0 2 - (tK t j).length))).map (fun r => (c, r)))) e' h' ∧ EU j (uK (uN t 12 (48 * j + c) 1) j (tK t j ++ (cif (okK (tK t j).length (tN t 0 2) (tC t c)) (tC t c) ((tC t c).take (tN t 0 2 - (tK t j).length))).map (fun r => (c, r)))) e' ∧ xN e' 2 = xN e 2 ∧ xI e' 0 = xI e 0) ∧ Fq (Px m) h h')) := by
  have b := E.L.b
  have b1 := (B.bool (48 * j + c)).2.2.2
  have L := E.L.ch hc
  have M := E.L.M hj
  have K := E.k_ch c hc
  have O := E.k_mo j hj
  have hlc := U.1 c hc
  obtain ⟨e', E1, U1, e2, e0⟩ := E.loosen B hj hc U
  have f1 : Fq (Px m) h (if xN e 1 c = 0 then pI (pI h (x + 15 + c) 7 (nI 1)) (m + 24 + 7 * j) 6 (nI (xN e 3 j + 1)) else h) := by
    split
    · exact (Fq.rf.pI (Or.inl (by omega))).pI (Or.inr (by omega))
    · exact Fq.rf
  refine MA.intro (lv := [some (.ref x), some (.ref (m + 24 + 7 * j)), some (.ref (x + 15 + c)), none, none]) (by decide) (Nat.le_of_ble_eq_true rfl) rfl (fun F C => ?_)
  have t5 : ∀ h1, RX x m (uN t 12 (48 * j + c) 1) e' h1 → Fq (Px m) h h1 → WA G F mX5_overtake h1 0 0 (MQA G F 0 0 (Oi (fun v h' => v = bI (okK (tK t j).length (tN t 0 2) (tC t c)) ∧ (∃ e', RX x m (uK (uN t 12 (48 * j + c) 1) j (tK t j ++ (cif (okK (tK t j).length (tN t 0 2) (tC t c)) (tC t c) ((tC t c).take (tN t 0 2 - (tK t j).length))).map (fun r => (c, r)))) e' h' ∧ EU j (uK (uN t 12 (48 * j + c) 1) j (tK t j ++ (cif (okK (tK t j).length (tN t 0 2) (tC t c)) (tC t c) ((tC t c).take (tN t 0 2 - (tK t j).length))).map (fun r => (c, r)))) e' ∧ xN e' 2 = xN e 2 ∧ xI e' 0 = xI e 0) ∧ Fq (Px m) h h'))) 5 [some (.ref x), some (.ref (m + 24 + 7 * j)), some (.ref (x + 15 + c)), none, none] [] := by
    intro h1 E1 f1
    have L := E1.L.ch (c := c) hc
    have K := E1.k_ch c hc
    refine r_aload_n (pc := 5) C dX5_overtake_5 rfl rfl ?_
    refine r_getIe (pc := 6) C fl_X5_337 L.2.1 rfl K.2.1 dX5_overtake_6 ?_
    refine r_istore_n (pc := 9) (lv' := [_, _, _, _, _]) C dX5_overtake_9 rfl (by decide) rfl rfl ?_
    refine r_iconst (pc := 10) (v := (nI 0)) C dX5_overtake_10 (by decide) ?_
    refine r_istore (pc := 11) (lv' := [_, _, _, _, _]) C dX5_overtake_11 (by decide) rfl rfl ?_
    have w := over_l (x := x) (t := uN t 12 (48 * j + c) 1) (e := e') (h0 := h) C (B.p12 (by decide)) hj hc (tC t c) 0 h1 _ rfl (Nat.zero_le _) (Or.inl rfl) rfl ?_ f1
    · exact WA.monoQ (fun r h' hq => hq.elim fun v hv => ⟨v, hv.1, hv.2.1, ⟨e', hv.2.2.1, U1.cg rfl rfl rfl rfl rfl rfl rfl rfl rfl rfl, e2, e0⟩, hv.2.2.2⟩) w
    · refine RX.eq E1 (TS_ext (fun _ => rfl) rfl rfl rfl (funext fun d => ?_)) rfl
      rw [tK_uK]
      by_cases h : d = j
      · rw [if_pos h, h]; simp
      · rw [if_neg h]
  refine r_aload_n (pc := 0) C dX5_overtake_0 rfl rfl ?_
  refine r_aload_n (pc := 1) C dX5_overtake_1 rfl rfl ?_
  refine r_callv (cr_V (pc := 2) C (c_X2_loosen M.1 L.2.1 (by omega) K.2.2.2.2.2.2 (by omega) O.2.2.1) dX5_overtake_2 cm_X2_loosen ml_X5_330 im_X2_loosen se_X2_loosen M.1 rfl ⟨⟨Nat.le_of_ble_eq_true rfl, Nat.le_of_ble_eq_true rfl⟩, Nat.le_of_ble_eq_true rfl, Nat.le_of_ble_eq_true rfl⟩ rfl rfl (Nat.le_of_ble_eq_true rfl)) (fun h2 hq2 => ?_)
  subst hq2
  exact t5 _ E1 f1
def XT (x m : Nat) (h : AH) (t : TS) : AH → Prop := fun h' => (∃ e', RX x m t e' h' ∧ Ext t e') ∧ Fq (Px m) h h'
theorem c_X5_keepTaken (E : RX x m t e h) (B : TB t) (H : Ext t e) {s q c r : Nat} (hc : c < 16 * (tN t 0 0 - 1)) (hi : 4 * s + q < 4 * tN t 0 0) (hr : r < tN t 0 3) : MA G mX5_keepTaken 2 0 0 [.ref x, .ref (x + 15 + c), .ref (x + 16 * tN t 0 0 + (4 * s + q)), .int (nI r)] h (Ov (XT x m h (spKept t s q c r))) := by
  have b := E.L.b
  have bm := B.marks
  have bu := B.uw
  have b5 := B.bool c
  have b6 := B.bool (4 * s + q)
  have L := E.L.ch hc
  have K := E.k_ch c hc
  have T := E.L.tk hi
  have KT := E.k_tk _ hi
  refine MA.intro (lv := [some (.ref x), some (.ref (x + 15 + c)), some (.ref (x + 16 * tN t 0 0 + (4 * s + q))), some (.int (nI r)), none]) (by decide) (Nat.le_of_ble_eq_true rfl) rfl (fun F C => ?_)
  by_cases hu : tN t 0 5 = 0
  · have e0 : spKept t s q c r = t := cif_f (fun z => z.1 hu)
    rw [e0]
    refine r_aload_n (pc := 0) C dX5_keepTaken_0 rfl rfl ?_
    refine r_aload_n (pc := 1) C dX5_keepTaken_1 rfl rfl ?_
    refine r_getIe (pc := 2) C fl_X5_40 E.L.o rfl E.uw dX5_keepTaken_2 ?_
    refine r_callq (cr_V (pc := 5) C (c_X5_markAt E B _) dX5_keepTaken_5 cm_X5_markAt ml_X5_124 im_X5_markAt se_X5_markAt E.L.o rfl ⟨⟨Nat.le_of_ble_eq_true rfl, Nat.le_of_ble_eq_true rfl⟩, Nat.le_of_ble_eq_true rfl, Nat.le_of_ble_eq_true rfl⟩ rfl rfl (Nat.le_of_ble_eq_true rfl)) (fun v5 h5 hq5 => ?_)
    obtain ⟨rfl, rfl⟩ := hq5
    rw [uw0 hu, show mkA t m (-1) = none from cif_f (m1_no (by omega))]
    refine r_astoreN (pc := 8) (lv' := [_, _, _, _, _]) C dX5_keepTaken_8 (by decide) rfl rfl ?_
    refine r_aloadN (pc := 10) C dX5_keepTaken_10 rfl ?_
    refine r_ifnullN (pc := 12) (tgt := 29) C dX5_keepTaken_12 (by decide) ?_
    exact r_vret (pc := 29) C rfl (Nat.le_of_ble_eq_true rfl) (Nat.le_of_ble_eq_true rfl) ⟨rfl, ⟨⟨e, E, H⟩, Fq.rf⟩⟩ dX5_keepTaken_29
  · obtain ⟨j, hj1⟩ : ∃ j, tN t 0 5 = j + 1 := ⟨tN t 0 5 - 1, by omega⟩
    have hj : j < tN t 0 4 := by omega
    have M := E.L.M hj
    have O := E.k_mo j hj
    have U := H.U hj1
    have b7 := (B.bool (48 * j + c)).2.2.2
    have hlc := U.1 c hc
    have bl := B.lim
    have bk := B.klen j
    obtain ⟨e', E1, U1, e2, e0⟩ := E.loosen B hj hc U
    have V1 : ExtB (uN t 12 (48 * j + c) 1) e' := H.B.cg rfl rfl rfl rfl rfl rfl e2 e0
    have f1 : Fq (Px m) h (if xN e 1 c = 0 then pI (pI h (x + 15 + c) 7 (nI 1)) (m + 24 + 7 * j) 6 (nI (xN e 3 j + 1)) else h) := by
      split
      · exact (Fq.rf.pI (Or.inl (by omega))).pI (Or.inr (by omega))
      · exact Fq.rf
    have t36 : tN t 6 (4 * s + q) ≠ 0 → tN t 5 c = 0 → ∀ h1, RX x m (uN t 12 (48 * j + c) 1) e' h1 → Fq (Px m) h h1 → WA G F mX5_keepTaken h1 0 0 (MQA G F 0 0 (Ov (XT x m h (spKept t s q c r)))) 36 [some (.ref x), some (.ref (x + 15 + c)), some (.ref (x + 16 * tN t 0 0 + (4 * s + q))), some (.int (nI r)), some (.ref (m + 24 + 7 * j))] [] := by
      intro c1 c2 h1 E f1
      have L := E.L.ch (c := c) hc
      have K := E.k_ch c hc
      have M := E.L.M (j := j) hj
      have O : hI h1 (m + 24 + 7 * j) 5 = nI (tK t j).length := (E.k_mo j hj).2.1
      have B1 : TB (uN t 12 (48 * j + c) 1) := B.p12 (by decide)
      have es : spKept t s q c r = spKeep (uN t 12 (48 * j + c) 1) c r := (cif_t ⟨hu, c1, c2⟩).trans (by rw [hj1, Nat.add_sub_cancel])
      have eu : tN (uN t 12 (48 * j + c) 1) 0 5 = j + 1 := hj1
      by_cases hlm : (tK t j).length < tN t 0 2
      · have e3 : spKeep (uN t 12 (48 * j + c) 1) c r = uK (uN t 12 (48 * j + c) 1) j (tK t j ++ [(c, r)]) := by
          unfold spKeep
          rw [eu, Nat.add_sub_cancel]
          exact if_neg (by show ¬ tN t 0 2 < (tK t j).length + 1; omega)
        rw [es, e3]
        have E2 := E.kp (j := j) (c := c) (r := r) hj
        refine r_aload (pc := 36) C dX5_keepTaken_36 rfl ?_
        refine r_aload_n (pc := 38) C dX5_keepTaken_38 rfl rfl ?_
        refine r_iload_n (pc := 39) C dX5_keepTaken_39 rfl rfl ?_
        refine r_aload_n (pc := 40) C dX5_keepTaken_40 rfl rfl ?_
        refine r_getIe (pc := 41) C fl_X5_52 E.L.o rfl (show _ = nI (tN t 0 2) from E.lim) dX5_keepTaken_41 ?_
        refine r_calli (cr_V (pc := 44) C (c_X2_keep (c := c) M L.2.1 (by omega) (show _ = nI c from K.1) O (by omega) bl) dX5_keepTaken_44 cm_X2_keep ml_X5_333 im_X2_keep se_X2_keep M.1 rfl ⟨⟨Nat.le_of_ble_eq_true rfl, Nat.le_of_ble_eq_true rfl⟩, Nat.le_of_ble_eq_true rfl, Nat.le_of_ble_eq_true rfl⟩ rfl rfl (Nat.le_of_ble_eq_true rfl)) (fun v44 h44 hq44 => ?_)
        obtain ⟨rfl, rfl⟩ := hq44
        rw [if_pos hlm]
        refine b_if_ne (pc := 47) (tgt := 55) C dX5_keepTaken_47 (by decide) (fun c47 => ?_) (fun c47 => absurd c47 (fun z => z hlm))
        exact r_vret (pc := 55) C rfl (Nat.le_of_ble_eq_true rfl) (Nat.le_of_ble_eq_true rfl) ⟨rfl, ⟨⟨e', E2, EU.ext (t := uK (uN t 12 (48 * j + c) 1) j (tK t j ++ [(c, r)])) (U1.cg rfl rfl rfl rfl rfl rfl rfl rfl rfl rfl) (V1.cg rfl rfl rfl rfl rfl rfl rfl rfl) hj1⟩, ((f1.pI (Or.inr (by omega))).pI (Or.inr (by omega))).pI (Or.inr (by omega))⟩⟩ dX5_keepTaken_55
      · have e3 : spKeep (uN t 12 (48 * j + c) 1) c r = spEnd (uN t 12 (48 * j + c) 1) 2 := by
          unfold spKeep
          rw [eu, Nat.add_sub_cancel]
          exact if_pos (by show tN t 0 2 < (tK t j).length + 1; omega)
        rw [es, e3]
        refine r_aload (pc := 36) C dX5_keepTaken_36 rfl ?_
        refine r_aload_n (pc := 38) C dX5_keepTaken_38 rfl rfl ?_
        refine r_iload_n (pc := 39) C dX5_keepTaken_39 rfl rfl ?_
        refine r_aload_n (pc := 40) C dX5_keepTaken_40 rfl rfl ?_
        refine r_getIe (pc := 41) C fl_X5_52 E.L.o rfl (show _ = nI (tN t 0 2) from E.lim) dX5_keepTaken_41 ?_
        refine r_calli (cr_V (pc := 44) C (c_X2_keep (c := c) M L.2.1 (by omega) (show _ = nI c from K.1) O (by omega) bl) dX5_keepTaken_44 cm_X2_keep ml_X5_333 im_X2_keep se_X2_keep M.1 rfl ⟨⟨Nat.le_of_ble_eq_true rfl, Nat.le_of_ble_eq_true rfl⟩, Nat.le_of_ble_eq_true rfl, Nat.le_of_ble_eq_true rfl⟩ rfl rfl (Nat.le_of_ble_eq_true rfl)) (fun v44 h44 hq44 => ?_)
        obtain ⟨rfl, rfl⟩ := hq44
        rw [if_neg hlm]
        refine b_if_ne (pc := 47) (tgt := 55) C dX5_keepTaken_47 (by decide) (fun c47 => absurd c47 hlm) (fun c47 => ?_)
        refine r_aload_n (pc := 50) C dX5_keepTaken_50 rfl rfl ?_
        refine r_iconst (pc := 51) (v := (nI 2)) C dX5_keepTaken_51 (by decide) ?_
        refine r_callv (cr_V (pc := 52) C (c_X5_endMark E B1 eu (how := 2) (by decide)) dX5_keepTaken_52 cm_X5_endMark ml_X5_120 im_X5_endMark se_X5_endMark E.L.o rfl ⟨⟨Nat.le_of_ble_eq_true rfl, Nat.le_of_ble_eq_true rfl⟩, Nat.le_of_ble_eq_true rfl, Nat.le_of_ble_eq_true rfl⟩ rfl rfl (Nat.le_of_ble_eq_true rfl)) (fun h52 hq52 => ?_)
        obtain ⟨E3, f3⟩ := hq52
        exact r_vret (pc := 55) C rfl (Nat.le_of_ble_eq_true rfl) (Nat.le_of_ble_eq_true rfl) ⟨rfl, ⟨⟨_, E3, U1.2.end eu⟩, f1.tr f3⟩⟩ dX5_keepTaken_55
    refine r_aload_n (pc := 0) C dX5_keepTaken_0 rfl rfl ?_
    refine r_aload_n (pc := 1) C dX5_keepTaken_1 rfl rfl ?_
    refine r_getIe (pc := 2) C fl_X5_40 E.L.o rfl E.uw dX5_keepTaken_2 ?_
    refine r_callq (cr_V (pc := 5) C (c_X5_markAt E B _) dX5_keepTaken_5 cm_X5_markAt ml_X5_124 im_X5_markAt se_X5_markAt E.L.o rfl ⟨⟨Nat.le_of_ble_eq_true rfl, Nat.le_of_ble_eq_true rfl⟩, Nat.le_of_ble_eq_true rfl, Nat.le_of_ble_eq_true rfl⟩ rfl rfl (Nat.le_of_ble_eq_true rfl)) (fun v5 h5 hq5 => ?_)
    obtain ⟨rfl, rfl⟩ := hq5
    rw [uwS hj1, mkA_n B hj]
    refine r_astore (pc := 8) (lv' := [_, _, _, _, _]) C dX5_keepTaken_8 (by decide) rfl rfl ?_
    refine r_aload (pc := 10) C dX5_keepTaken_10 rfl ?_
    refine r_ifnull (pc := 12) C dX5_keepTaken_12 ?_
    refine r_aload_n (pc := 15) C dX5_keepTaken_15 rfl rfl ?_
    refine r_getIe (pc := 16) C fl_X5_174 T.2 rfl KT.1 dX5_keepTaken_16 ?_
    refine n_if_eq (pc := 19) (tgt := 29) C (by omega) dX5_keepTaken_19 (by decide) (fun c19 => ?_) (fun c19 => ?_)
    · exact r_vret (pc := 29) C rfl (Nat.le_of_ble_eq_true rfl) (Nat.le_of_ble_eq_true rfl) ⟨rfl, (by rw [show spKept t s q c r = t from cif_f (fun z => by first | exact z.2.1 c19 | exact c26 z.2.2)]; exact ⟨⟨e, E, H⟩, Fq.rf⟩)⟩ dX5_keepTaken_29
    · refine r_aload_n (pc := 22) C dX5_keepTaken_22 rfl rfl ?_
      refine r_getIe (pc := 23) C fl_X5_195 L.2.1 rfl K.2.2.2.2.2.1 dX5_keepTaken_23 ?_
      refine n_if_eq (pc := 26) (tgt := 30) C (by omega) dX5_keepTaken_26 (by decide) (fun c26 => ?_) (fun c26 => ?_)
      · refine r_aload (pc := 30) C dX5_keepTaken_30 rfl ?_
        refine r_aload_n (pc := 32) C dX5_keepTaken_32 rfl rfl ?_
        refine r_callv (cr_V (pc := 33) C (c_X2_loosen M.1 L.2.1 (by omega) K.2.2.2.2.2.2 (by omega) O.2.2.1) dX5_keepTaken_33 cm_X2_loosen ml_X5_330 im_X2_loosen se_X2_loosen M.1 rfl ⟨⟨Nat.le_of_ble_eq_true rfl, Nat.le_of_ble_eq_true rfl⟩, Nat.le_of_ble_eq_true rfl, Nat.le_of_ble_eq_true rfl⟩ rfl rfl (Nat.le_of_ble_eq_true rfl)) (fun h33 hq33 => ?_)
        subst hq33
        exact t36 c19 c26 _ E1 f1
      · exact r_vret (pc := 29) C rfl (Nat.le_of_ble_eq_true rfl) (Nat.le_of_ble_eq_true rfl) ⟨rfl, (by rw [show spKept t s q c r = t from cif_f (fun z => by first | exact z.2.1 c19 | exact c26 z.2.2)]; exact ⟨⟨e, E, H⟩, Fq.rf⟩)⟩ dX5_keepTaken_29
end CP62
