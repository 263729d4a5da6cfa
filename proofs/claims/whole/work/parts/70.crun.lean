/-! ===== the class: turn, run ===== -/
/-- J holds all the way through a run, and is enough for a turn of the class -/
def JD (J : TS → Prop) : Prop := (∀ t, J t → CG t) ∧ ∀ t s q, J t → s < tN t 0 0 → q < tN t 1 s → J (spTurn t s q).2
theorem JD.C {J : TS → Prop} (hJ : JD J) : JC J := ⟨fun t h => (hJ.1 t h).1, hJ.2⟩
section CR70
variable {G : GP} {x m : Nat}
theorem c_X5_turn {t : TS} {e : ES} {h : AH} (E : RX x m t e h) (A : CG t) (H : Ext t e) (z w : Int32) : MA G mX5_turn 6 0 0 [.ref x, .int z, .int w] h (Oi (XP x m h (spTurnP t z w))) := by
  have B := A.1.1
  have b := B.S
  refine MA.intro (lv := [some (.ref x), some (.int z), some (.int w)]) (by decide) (Nat.le_of_ble_eq_true rfl) rfl (fun F C => ?_)
  by_cases hz : inT t z w
  · obtain ⟨s, hs, rfl, q, hq, rfl⟩ := id hz
    have b1 := B.P (s := s) (by omega)
    have e0 : spTurnP t (nI s) (nI q) = (nI (spTurn t s q).1, (spTurn t s q).2) := (cif_t hz).trans (by rw [cl (by omega), cl (by omega)])
    rw [e0]
    refine r_aload_n (pc := 0) C dX5_turn_0 rfl rfl ?_
    refine r_iload_n (pc := 1) C dX5_turn_1 rfl rfl ?_
    refine r_iload_n (pc := 2) C dX5_turn_2 rfl rfl ?_
    refine r_callq (cr_V (pc := 3) C (c_X5_taskAt E B _ _) dX5_turn_3 cm_X5_taskAt ml_X5_103 im_X5_taskAt se_X5_taskAt E.L.o rfl ⟨⟨Nat.le_of_ble_eq_true rfl, Nat.le_of_ble_eq_true rfl⟩, Nat.le_of_ble_eq_true rfl, Nat.le_of_ble_eq_true rfl⟩ rfl rfl (Nat.le_of_ble_eq_true rfl)) (fun v3 h3 hq3 => ?_)
    obtain ⟨rfl, rfl⟩ := hq3
    rw [tkA_n B hs hq]
    refine r_ifnonnull (pc := 6) (tgt := 12) C dX5_turn_6 (by decide) ?_
    refine r_aload_n (pc := 12) C dX5_turn_12 rfl rfl ?_
    refine r_iload_n (pc := 13) C dX5_turn_13 rfl rfl ?_
    refine r_iload_n (pc := 14) C dX5_turn_14 rfl rfl ?_
    refine r_calli (cr_V (pc := 15) C (c_X5_makeTurn E A H hs hq) dX5_turn_15 cm_X5_makeTurn ml_X5_107 im_X5_makeTurn se_X5_makeTurn E.L.o rfl ⟨⟨Nat.le_of_ble_eq_true rfl, Nat.le_of_ble_eq_true rfl⟩, Nat.le_of_ble_eq_true rfl, Nat.le_of_ble_eq_true rfl⟩ rfl rfl (Nat.le_of_ble_eq_true rfl)) (fun v15 h15 hq15 => ?_)
    obtain ⟨rfl, XTr, f⟩ := hq15
    exact r_iret (pc := 18) C rfl (Nat.le_of_ble_eq_true rfl) (Nat.le_of_ble_eq_true rfl) ⟨_, rfl, ⟨rfl, XTr, f⟩⟩ dX5_turn_18
  · have e0 : spTurnP t z w = (-101, t) := cif_f hz
    refine r_aload_n (pc := 0) C dX5_turn_0 rfl rfl ?_
    refine r_iload_n (pc := 1) C dX5_turn_1 rfl rfl ?_
    refine r_iload_n (pc := 2) C dX5_turn_2 rfl rfl ?_
    refine r_callq (cr_V (pc := 3) C (c_X5_taskAt E B _ _) dX5_turn_3 cm_X5_taskAt ml_X5_103 im_X5_taskAt se_X5_taskAt E.L.o rfl ⟨⟨Nat.le_of_ble_eq_true rfl, Nat.le_of_ble_eq_true rfl⟩, Nat.le_of_ble_eq_true rfl, Nat.le_of_ble_eq_true rfl⟩ rfl rfl (Nat.le_of_ble_eq_true rfl)) (fun v3 h3 hq3 => ?_)
    obtain ⟨rfl, rfl⟩ := hq3
    rw [show tkA t x z w = none from cif_f hz]
    refine r_ifnonnullN (pc := 6) C dX5_turn_6 ?_
    refine r_bipush (pc := 9) (v := (-101)) C dX5_turn_9 (by decide) ?_
    exact r_iret (pc := 11) C rfl (Nat.le_of_ble_eq_true rfl) (Nat.le_of_ble_eq_true rfl) ⟨_, rfl, (xp e0 E H Fq.rf)⟩ dX5_turn_11
def XR (x m : Nat) (h0 : AH) (t : TS) (h : AH) : Prop := (∃ e, RX x m t e h ∧ Ext t e) ∧ Fq (Px m) h0 h
variable {F : FX} {Q : State → Prop}
theorem xrun_l3 (C : CX G F mX5_run (Rm 6 0 0)) {J : TS → Prop} (hJ : JD J) {h0 : AH} {r s : Nat} {z : Int32} {e : Nat × TS} (k : ∀ h x5, XR x m h0 e.2 h → WA G F mX5_run h 0 0 Q 69 [some (.ref x), some (.int z), some (.int (nI e.1)), some (.int (nI r)), some (.int (nI s)), some (.int x5)] []) :
    ∀ (n q d : Nat) (t : TS) (h : AH), q + n = tN t 1 s → s < tN t 0 0 → spRq s n q d t = e → J t → XR x m h0 t h → WA G F mX5_run h 0 0 Q 38 [some (.ref x), some (.int z), some (.int (nI d)), some (.int (nI r)), some (.int (nI s)), some (.int (nI q))] [] := by
  intro n
  induction n with
  | zero =>
    intro q d t h hq hs he hj XX
    obtain ⟨⟨ee, E, H⟩, f⟩ := id XX
    have B := (hJ.1 t hj).1.1
    have b0 := B.S
    have b1 := B.P (s := s) (by omega)
    rw [show spRq s 0 q d t = (d, t) from rfl] at he
    subst he
    refine r_iload (pc := 38) C dX5_run_38 rfl ?_
    refine r_aload_n (pc := 40) C dX5_run_40 rfl rfl ?_
    refine r_iload (pc := 41) C dX5_run_41 rfl ?_
    refine r_calli (cr_V (pc := 43) C (c_X5_widthOf E B _) dX5_run_43 cm_X5_widthOf ml_X5_110 im_X5_widthOf se_X5_widthOf E.L.o rfl ⟨⟨Nat.le_of_ble_eq_true rfl, Nat.le_of_ble_eq_true rfl⟩, Nat.le_of_ble_eq_true rfl, Nat.le_of_ble_eq_true rfl⟩ rfl rfl (Nat.le_of_ble_eq_true rfl)) (fun v43 h43 hq43 => ?_)
    obtain ⟨rfl, rfl⟩ := hq43
    rw [wdI_n B hs]
    refine n_icmp_ge (pc := 46) (tgt := 69) C (by omega) (by omega) dX5_run_46 (by decide) (fun c46 => ?_) (fun c46 => absurd c46 (by omega))
    exact k _ _ XX
  | succ n ih =>
    intro q d t h hq hs he hj XX
    obtain ⟨⟨ee, E, H⟩, f⟩ := id XX
    have A := hJ.1 t hj
    have B := A.1.1
    have b0 := B.S
    have b1 := B.P (s := s) (by omega)
    have b2 := (SP.turn (t := t) (s := s) (q := q)).2
    unfold spRq at he
    refine r_iload (pc := 38) C dX5_run_38 rfl ?_
    refine r_aload_n (pc := 40) C dX5_run_40 rfl rfl ?_
    refine r_iload (pc := 41) C dX5_run_41 rfl ?_
    refine r_calli (cr_V (pc := 43) C (c_X5_widthOf E B _) dX5_run_43 cm_X5_widthOf ml_X5_110 im_X5_widthOf se_X5_widthOf E.L.o rfl ⟨⟨Nat.le_of_ble_eq_true rfl, Nat.le_of_ble_eq_true rfl⟩, Nat.le_of_ble_eq_true rfl, Nat.le_of_ble_eq_true rfl⟩ rfl rfl (Nat.le_of_ble_eq_true rfl)) (fun v43 h43 hq43 => ?_)
    obtain ⟨rfl, rfl⟩ := hq43
    rw [wdI_n B hs]
    refine n_icmp_ge (pc := 46) (tgt := 69) C (by omega) (by omega) dX5_run_46 (by decide) (fun c46 => absurd c46 (by omega)) (fun c46 => ?_)
    refine r_aload_n (pc := 49) C dX5_run_49 rfl rfl ?_
    refine r_iload (pc := 50) C dX5_run_50 rfl ?_
    refine r_iload (pc := 52) C dX5_run_52 rfl ?_
    refine r_calli (cr_V (pc := 54) C (c_X5_makeTurn E A H hs (q := q) (by omega)) dX5_run_54 cm_X5_makeTurn ml_X5_107 im_X5_makeTurn se_X5_makeTurn E.L.o rfl ⟨⟨Nat.le_of_ble_eq_true rfl, Nat.le_of_ble_eq_true rfl⟩, Nat.le_of_ble_eq_true rfl, Nat.le_of_ble_eq_true rfl⟩ rfl rfl (Nat.le_of_ble_eq_true rfl)) (fun v54 h54 hq54 => ?_)
    obtain ⟨rfl, XTr, f2⟩ := hq54
    refine n_if_eq (pc := 57) (tgt := 63) C (by omega) dX5_run_57 (by decide) (fun c57 => ?_) (fun c57 => ?_)
    · refine n_iinc (pc := 63) (lv' := [_, _, _, _, _, _]) C dX5_run_63 rfl (by decide) rfl rfl ?_
      refine r_goto (pc := 66) (tgt := 38) C dX5_run_66 (by decide) ?_
      refine ih (q + 1) _ _ _ (by rw [SP.turn.1.1]; omega) (by rw [SP.turn.1.2]; exact hs) ?_ (hJ.2 t s q hj hs (by omega)) ⟨XTr, f.tr f2⟩
      rw [← he]
      first | (rw [if_pos c57]; rfl) | rw [if_neg c57]
    · refine n_iinc (pc := 60) (lv' := [_, _, _, _, _, _]) C dX5_run_60 rfl (by decide) rfl rfl ?_
      refine n_iinc (pc := 63) (lv' := [_, _, _, _, _, _]) C dX5_run_63 rfl (by decide) rfl rfl ?_
      refine r_goto (pc := 66) (tgt := 38) C dX5_run_66 (by decide) ?_
      refine ih (q + 1) _ _ _ (by rw [SP.turn.1.1]; omega) (by rw [SP.turn.1.2]; exact hs) ?_ (hJ.2 t s q hj hs (by omega)) ⟨XTr, f.tr f2⟩
      rw [← he]
      first | (rw [if_pos c57]; rfl) | rw [if_neg c57]
theorem xrun_l2 (C : CX G F mX5_run (Rm 6 0 0)) {J : TS → Prop} (hJ : JD J) {h0 : AH} {r : Nat} {z : Int32} {e : Nat × TS} (k : ∀ h x4 x5, XR x m h0 e.2 h → WA G F mX5_run h 0 0 Q 75 [some (.ref x), some (.int z), some (.int (nI e.1)), some (.int (nI r)), some (.int x4), x5] []) :
    ∀ (n s d : Nat) (t : TS) (h : AH) (x5 : Option Value), s + n = tN t 0 0 → spRs n s d t = e → J t → XR x m h0 t h → WA G F mX5_run h 0 0 Q 26 [some (.ref x), some (.int z), some (.int (nI d)), some (.int (nI r)), some (.int (nI s)), x5] [] := by
  intro n
  induction n with
  | zero =>
    intro s d t h x5 hs he hj XX
    obtain ⟨⟨ee, E, H⟩, f⟩ := id XX
    have B := (hJ.1 t hj).1.1
    have b0 := B.S
    rw [show spRs 0 s d t = (d, t) from rfl] at he
    subst he
    refine r_iload (pc := 26) C dX5_run_26 rfl ?_
    refine r_aload_n (pc := 28) C dX5_run_28 rfl rfl ?_
    refine r_getIe (pc := 29) C fl_X5_64 E.L.o rfl E.S dX5_run_29 ?_
    refine n_icmp_ge (pc := 32) (tgt := 75) C (by omega) (by omega) dX5_run_32 (by decide) (fun c32 => ?_) (fun c32 => absurd c32 (by omega))
    exact k h _ _ XX
  | succ n ih =>
    intro s d t h x5 hs he hj XX
    obtain ⟨⟨ee, E, H⟩, f⟩ := id XX
    have B := (hJ.1 t hj).1.1
    have b0 := B.S
    have b1 := B.P (s := s) (by omega)
    unfold spRs at he
    refine r_iload (pc := 26) C dX5_run_26 rfl ?_
    refine r_aload_n (pc := 28) C dX5_run_28 rfl rfl ?_
    refine r_getIe (pc := 29) C fl_X5_64 E.L.o rfl E.S dX5_run_29 ?_
    refine n_icmp_ge (pc := 32) (tgt := 75) C (by omega) (by omega) dX5_run_32 (by decide) (fun c32 => absurd c32 (by omega)) (fun c32 => ?_)
    refine r_iconst (pc := 35) (v := (nI 0)) C dX5_run_35 (by decide) ?_
    refine r_istore (pc := 36) (lv' := [_, _, _, _, _, _]) C dX5_run_36 (by decide) rfl rfl ?_
    refine xrun_l3 C hJ (fun h1 x5 X1 => ?_) (tN t 1 s) 0 d t h (Nat.zero_add _) (by omega) rfl hj XX
    refine n_iinc (pc := 69) (lv' := [_, _, _, _, _, _]) C dX5_run_69 rfl (by decide) rfl rfl ?_
    refine r_goto (pc := 72) (tgt := 26) C dX5_run_72 (by decide) ?_
    exact ih (s + 1) _ _ h1 _ (by rw [(SP.rq _ _ _ _).2]; omega) he (hJ.C.rq _ 0 _ _ hj (by omega) (Nat.zero_add _)) X1
theorem xrun_l1 (C : CX G F mX5_run (Rm 6 0 0)) {J : TS → Prop} (hJ : JD J) {h0 : AH} {p : Nat} (hp : p ≤ 50) {e : Nat × TS} (k : ∀ h x3 x4 x5, XR x m h0 e.2 h → WA G F mX5_run h 0 0 Q 81 [some (.ref x), some (.int (nI p)), some (.int (nI e.1)), some (.int x3), x4, x5] []) :
    ∀ (n r d : Nat) (t : TS) (h : AH) (x4 x5 : Option Value), r + n = p → spRr n d t = e → J t → XR x m h0 t h → WA G F mX5_run h 0 0 Q 18 [some (.ref x), some (.int (nI p)), some (.int (nI d)), some (.int (nI r)), x4, x5] [] := by
  intro n
  induction n with
  | zero =>
    intro r d t h x4 x5 hr he hj XX
    rw [show spRr 0 d t = (d, t) from rfl] at he
    subst he
    refine r_iload_n (pc := 18) C dX5_run_18 rfl rfl ?_
    refine r_iload_n (pc := 19) C dX5_run_19 rfl rfl ?_
    refine n_icmp_ge (pc := 20) (tgt := 81) C (by omega) (by omega) dX5_run_20 (by decide) (fun c20 => ?_) (fun c20 => absurd c20 (by omega))
    exact k h _ _ _ XX
  | succ n ih =>
    intro r d t h x4 x5 hr he hj XX
    have B := (hJ.1 t hj).1.1
    have b0 := B.S
    unfold spRr at he
    refine r_iload_n (pc := 18) C dX5_run_18 rfl rfl ?_
    refine r_iload_n (pc := 19) C dX5_run_19 rfl rfl ?_
    refine n_icmp_ge (pc := 20) (tgt := 81) C (by omega) (by omega) dX5_run_20 (by decide) (fun c20 => absurd c20 (by omega)) (fun c20 => ?_)
    refine r_iconst (pc := 23) (v := (nI 0)) C dX5_run_23 (by decide) ?_
    refine r_istore (pc := 24) (lv' := [_, _, _, _, _, _]) C dX5_run_24 (by decide) rfl rfl ?_
    refine xrun_l2 C hJ (fun h1 x4 x5 X1 => ?_) (tN t 0 0) 0 d t h _ (Nat.zero_add _) rfl hj XX
    refine n_iinc (pc := 75) (lv' := [_, _, _, _, _, _]) C dX5_run_75 rfl (by decide) rfl rfl ?_
    refine r_goto (pc := 78) (tgt := 18) C dX5_run_78 (by decide) ?_
    exact ih (r + 1) _ _ h1 _ _ (by omega) he (hJ.C.rs _ 0 _ _ hj (Nat.zero_add _)) X1
end CR70
theorem c_X5_run {G : GP} {x m : Nat} {t : TS} {e : ES} {h : AH} (E : RX x m t e h) (H : Ext t e) {J : TS → Prop} (hJ : JD J) (hj : J t) (z : Int32) : MA G mX5_run 6 0 0 [.ref x, .int z] h (Oi (XP x m h (spRun t z))) := by
  refine MA.intro (lv := [some (.ref x), some (.int z), none, none, none, none]) (by decide) (Nat.le_of_ble_eq_true rfl) rfl (fun F C => ?_)
  have t18 : ∀ p, p ≤ 50 → nI 1 ≤ nI p ∧ nI p ≤ nI 50 → WA G F mX5_run h 0 0 (MQA G F 0 0 (Oi (XP x m h (spRun t (nI p))))) 18 [some (.ref x), some (.int (nI p)), some (.int (nI 0)), some (.int (nI 0)), none, none] [] := by
    intro p hp c7
    refine xrun_l1 C hJ hp (fun h1 x3 x4 x5 X1 => ?_) p 0 0 t h _ _ (Nat.zero_add _) rfl hj ⟨⟨e, E, H⟩, Fq.rf⟩
    have e0 : spRun t (nI p) = (nI (spRr p 0 t).1, (spRr p 0 t).2) := (cif_t c7).trans (by rw [cl (by omega)])
    rw [e0]
    refine r_iload_n (pc := 81) C dX5_run_81 rfl rfl ?_
    exact r_iret (pc := 82) C rfl (Nat.le_of_ble_eq_true rfl) (Nat.le_of_ble_eq_true rfl) ⟨_, rfl, ⟨rfl, X1.1, X1.2⟩⟩ dX5_run_82
  refine r_iload_n (pc := 0) C dX5_run_0 rfl rfl ?_
  refine r_iconst (pc := 1) (v := (nI 1)) C dX5_run_1 (by decide) ?_
  refine r_icmp_lt (pc := 2) (tgt := 11) C dX5_run_2 (by decide) (fun c2 => ?_) (fun c2 => ?_)
  · refine r_bipush (pc := 11) (v := (-102)) C dX5_run_11 (by decide) ?_
    exact r_iret (pc := 13) C rfl (Nat.le_of_ble_eq_true rfl) (Nat.le_of_ble_eq_true rfl) ⟨_, rfl, (xp (cif_f (fun q => by first | exact absurd c2 (Int32.not_lt.mpr q.1) | exact c8 q.2)) E H Fq.rf)⟩ dX5_run_13
  · refine r_iload_n (pc := 5) C dX5_run_5 rfl rfl ?_
    refine r_bipush (pc := 6) (v := (nI 50)) C dX5_run_6 (by decide) ?_
    refine r_icmp_le (pc := 8) (tgt := 14) C dX5_run_8 (by decide) (fun c8 => ?_) (fun c8 => ?_)
    · have c7 : nI 1 ≤ z ∧ z ≤ nI 50 := ⟨Int32.not_lt.mp c2, c8⟩
      obtain ⟨p, h1, h2, rfl⟩ := inR_of (by decide) c7
      refine r_iconst (pc := 14) (v := (nI 0)) C dX5_run_14 (by decide) ?_
      refine r_istore_n (pc := 15) (lv' := [_, _, _, _, _, _]) C dX5_run_15 rfl (by decide) rfl rfl ?_
      refine r_iconst (pc := 16) (v := (nI 0)) C dX5_run_16 (by decide) ?_
      refine r_istore_n (pc := 17) (lv' := [_, _, _, _, _, _]) C dX5_run_17 rfl (by decide) rfl rfl ?_
      exact t18 p h2 c7
    · refine r_bipush (pc := 11) (v := (-102)) C dX5_run_11 (by decide) ?_
      exact r_iret (pc := 13) C rfl (Nat.le_of_ble_eq_true rfl) (Nat.le_of_ble_eq_true rfl) ⟨_, rfl, (xp (cif_f (fun q => by first | exact absurd c2 (Int32.not_lt.mpr q.1) | exact c8 q.2)) E H Fq.rf)⟩ dX5_run_13
