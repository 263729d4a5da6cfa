/-! ===== the class: mark ===== -/
theorem XL.bl {x m S n k : Nat} {h h' : AH} (L : XL x m S n h) (K : Bl k h h') (hk : m + 24 + 7 * n ≤ k) : XL x m S n h' := by
  have b := L.b
  have KS : ∀ z, z < m + 24 + 7 * n → hS h' z = hS h z := fun z hz => (K z (by omega)).1
  have KR : ∀ z, z < m + 24 + 7 * n → hR h' z = hR h z := fun z hz => (K z (by omega)).2.2.2
  refine ⟨b, ?_, ⟨?_, ?_⟩, ⟨?_, ?_⟩, ⟨?_, ?_⟩, ⟨?_, ?_⟩, ⟨?_, ?_⟩, ?_, ⟨?_, ?_⟩, fun c hc => ⟨?_, ?_, ?_⟩, ⟨?_, ?_⟩, fun i hi => ⟨?_, ?_⟩, fun j hj => ?_, fun j hj => ?_⟩
  · rw [KS x (by omega)]; exact L.o
  · rw [KR x (by omega)]; exact L.r1
  · rw [KS (x + 1) (by omega)]; exact L.s1
  · rw [KR x (by omega)]; exact L.r2
  · exact L.I.cg (fun z h1 h2 => ⟨KS z (by omega), KR z (by omega)⟩)
  · rw [KR x (by omega)]; exact L.r3
  · exact L.T.cg (fun z h1 h2 => ⟨KS z (by omega), KR z (by omega)⟩)
  · rw [KR x (by omega)]; exact L.r6
  · rw [KS (x + 9) (by omega)]; exact L.s6
  · rw [KR x (by omega)]; exact L.r7
  · exact L.F.cg (fun z h1 h2 => ⟨KS z (by omega), KR z (by omega)⟩)
  · rw [KS (x + 13) (by omega)]; exact L.sb
  · rw [KR x (by omega)]; exact L.r4
  · rw [KS (x + 14) (by omega)]; exact L.s4
  · rw [KR (x + 14) (by omega)]; exact (L.ch hc).1
  · rw [KS (x + 15 + c) (by omega)]; exact (L.ch hc).2.1
  · rw [KR (x + 15 + c) (by omega)]; exact (L.ch hc).2.2
  · rw [KR x (by omega)]; exact L.r5
  · rw [KS (x + 16 * S - 1) (by omega)]; exact L.s5
  · rw [KR (x + 16 * S - 1) (by omega)]; exact (L.tk hi).1
  · rw [KS (x + 16 * S + i) (by omega)]; exact (L.tk hi).2
  · rw [KR (x + 9) (by omega)]; exact L.mk hj
  · exact (L.M hj).cg (fun z h1 h2 => ⟨KS z (by omega), KR z (by omega)⟩)
theorem RX.bl {x m k : Nat} {t : TS} {e : ES} {h h' : AH} (E : RX x m t e h) (K : Bl k h h') (hk : m + 24 + 7 * tN t 0 4 ≤ k) : RX x m t e h' := by
  have b := E.L.b
  have iB : ∀ z, z < m + 24 + 7 * tN t 0 4 → hI h' z = hI h z := fun z hz => (K z (by omega)).2.1
  have lB : ∀ z, z < m + 24 + 7 * tN t 0 4 → hL h' z = hL h z := fun z hz => (K z (by omega)).2.2.1
  refine ⟨E.L.bl K hk, ?_, ?_, ?_, ?_, ?_, ?_, ?_, ?_, ?_, ?_, ?_, ?_, ?_, ?_, ?_, ?_, ?_⟩
  · rw [iB x (by omega)]; exact E.k_ob
  · rw [iB (x + 1) (by omega)]; exact E.k_P
  · rw [iB (x + 2) (by omega)]; exact E.k_fed
  · rw [iB (x + 3) (by omega)]; exact E.k_key
  · rw [lB (x + 4) (by omega)]; exact E.k_val
  · rw [iB (x + 5) (by omega)]; exact E.k_unr
  · rw [iB (x + 7) (by omega)]; exact E.k_many
  · rw [lB (x + 8) (by omega)]; exact E.k_sum
  · rw [iB (x + 13) (by omega)]; exact E.k_beh
  · intro c hc; rw [iB (x + 15 + c) (by omega)]; exact E.k_ch c hc
  · intro i hi; rw [iB (x + 16 * tN t 0 0 + i) (by omega)]; exact E.k_tk i hi
  · intro j hj; rw [iB (m + 24 + 7 * j) (by omega)]; exact E.k_mo j hj
  · intro j hj; rw [iB (m + 24 + 7 * j + 4) (by omega)]; exact E.k_mr j hj
  · intro j hj; rw [iB (m + 24 + 7 * j + 5) (by omega)]; exact E.k_mf j hj
  · intro j hj; rw [iB (m + 24 + 7 * j + 2) (by omega)]; exact E.k_mt j hj
  · intro j hj; rw [lB (m + 24 + 7 * j + 3) (by omega)]; exact E.k_ms j hj
  · intro j hj; rw [iB (m + 24 + 7 * j + 6) (by omega)]; exact E.k_mw j hj
/-- what a call that may make cells leaves -/
def XM (x m : Nat) (h : AH) (r : Int32 × TS) : Int32 → AH → Prop := fun v h' => v = r.1 ∧ (∃ e', RX x m r.2 e' h' ∧ Ext r.2 e') ∧ Kp m h h' ∧ hN h' = m + 24 + 7 * tN r.2 0 4
section CM73
variable {G : GP} {x m : Nat}
theorem part_lo {t : TS} {s q lo : Nat} : tI (spPart t s q lo) 0 0 = tI t 0 0 := by
  obtain ⟨h1, h2, h3, h4, h5, h6, h7, h8, h9, h10, h11, h12, h13, h14, h15, h16⟩ := Same.part (t := t) (s := s) (q := q) (lo := lo)
  rw [h12]
theorem xmark_l {F : FX} {Q : State → Prop} (C : CX G F mX5_mark (Rm 4 7 543)) {h0 : AH} {M lo : Nat} {tf : TS} (k : ∀ h x2, (∃ e, RX x m tf e h ∧ Ext tf e) → Fq (Px m) h0 h → WA G F mX5_mark h 7 543 Q 110 [some (.ref x), some (.int (nI M)), some (.int x2)] []) :
    ∀ (n q : Nat) (t : TS) (e : ES) (h : AH), q + n = tN t 1 0 → TB t → RX x m t e h → Ext t e → Fq (Px m) h0 h → lo = cif (tI t 0 0 = 0) 1 0 → spMk lo n q t = tf → WA G F mX5_mark h 7 543 Q 69 [some (.ref x), some (.int (nI M)), some (.int (nI q))] [] := by
  intro n
  induction n with
  | zero =>
    intro q t e h hn B E H f hlo hf
    have b := B.S
    have b1 := B.P (s := 0) (by omega)
    rw [show spMk lo 0 q t = t from rfl] at hf
    subst hf
    refine r_iload_n (pc := 69) C dX5_mark_69 rfl rfl ?_
    refine r_aload_n (pc := 70) C dX5_mark_70 rfl rfl ?_
    refine r_iconst (pc := 71) (v := (nI 0)) C dX5_mark_71 (by decide) ?_
    refine r_calli (cr_V (pc := 72) C (c_X5_widthOf E B _) dX5_mark_72 cm_X5_widthOf ml_X5_110 im_X5_widthOf se_X5_widthOf E.L.o rfl ⟨⟨Nat.le_of_ble_eq_true rfl, Nat.le_of_ble_eq_true rfl⟩, Nat.le_of_ble_eq_true rfl, Nat.le_of_ble_eq_true rfl⟩ rfl rfl (Nat.le_of_ble_eq_true rfl)) (fun v72 h72 hq72 => ?_)
    obtain ⟨rfl, rfl⟩ := hq72
    rw [wdI_n B (by omega)]
    refine n_icmp_ge (pc := 75) (tgt := 110) C (by omega) (by omega) dX5_mark_75 (by decide) (fun c75 => ?_) (fun c75 => absurd c75 (by omega))
    exact k _ _ ⟨e, E, H⟩ f
  | succ n ih =>
    intro q t e h hn B E H f hlo hf
    have b := B.S
    have bm := B.marks
    have bu := B.uw
    have b1 := B.P (s := 0) (by omega)
    unfold spMk at hf
    by_cases hu : tN t 0 5 = 0
    · rw [if_pos hu] at hf
      subst hf
      refine r_iload_n (pc := 69) C dX5_mark_69 rfl rfl ?_
      refine r_aload_n (pc := 70) C dX5_mark_70 rfl rfl ?_
      refine r_iconst (pc := 71) (v := (nI 0)) C dX5_mark_71 (by decide) ?_
      refine r_calli (cr_V (pc := 72) C (c_X5_widthOf E B _) dX5_mark_72 cm_X5_widthOf ml_X5_110 im_X5_widthOf se_X5_widthOf E.L.o rfl ⟨⟨Nat.le_of_ble_eq_true rfl, Nat.le_of_ble_eq_true rfl⟩, Nat.le_of_ble_eq_true rfl, Nat.le_of_ble_eq_true rfl⟩ rfl rfl (Nat.le_of_ble_eq_true rfl)) (fun v72 h72 hq72 => ?_)
      obtain ⟨rfl, rfl⟩ := hq72
      rw [wdI_n B (by omega)]
      refine n_icmp_ge (pc := 75) (tgt := 110) C (by omega) (by omega) dX5_mark_75 (by decide) (fun c75 => absurd c75 (by omega)) (fun c75 => ?_)
      refine r_aload_n (pc := 78) C dX5_mark_78 rfl rfl ?_
      refine r_getIe (pc := 79) C fl_X5_40 E.L.o rfl E.uw dX5_mark_79 ?_
      refine r_iconst (pc := 82) (v := (-1)) C dX5_mark_82 (by decide) ?_
      refine r_icmp_eq (pc := 83) (tgt := 110) C dX5_mark_83 (by decide) (fun c83 => ?_) (fun c83 => absurd c83 (fun z => z (uw0 hu)))
      exact k _ _ ⟨e, E, H⟩ f
    · rw [if_neg hu] at hf
      have hu' : tN t 0 5 = (tN t 0 5 - 1) + 1 := by omega
      by_cases hb : tI t 0 0 = 0
      · have el : lo = 1 := hlo.trans (cif_t hb)
        rw [el] at hf
        refine r_iload_n (pc := 69) C dX5_mark_69 rfl rfl ?_
        refine r_aload_n (pc := 70) C dX5_mark_70 rfl rfl ?_
        refine r_iconst (pc := 71) (v := (nI 0)) C dX5_mark_71 (by decide) ?_
        refine r_calli (cr_V (pc := 72) C (c_X5_widthOf E B _) dX5_mark_72 cm_X5_widthOf ml_X5_110 im_X5_widthOf se_X5_widthOf E.L.o rfl ⟨⟨Nat.le_of_ble_eq_true rfl, Nat.le_of_ble_eq_true rfl⟩, Nat.le_of_ble_eq_true rfl, Nat.le_of_ble_eq_true rfl⟩ rfl rfl (Nat.le_of_ble_eq_true rfl)) (fun v72 h72 hq72 => ?_)
        obtain ⟨rfl, rfl⟩ := hq72
        rw [wdI_n B (by omega)]
        refine n_icmp_ge (pc := 75) (tgt := 110) C (by omega) (by omega) dX5_mark_75 (by decide) (fun c75 => absurd c75 (by omega)) (fun c75 => ?_)
        refine r_aload_n (pc := 78) C dX5_mark_78 rfl rfl ?_
        refine r_getIe (pc := 79) C fl_X5_40 E.L.o rfl E.uw dX5_mark_79 ?_
        refine r_iconst (pc := 82) (v := (-1)) C dX5_mark_82 (by decide) ?_
        refine r_icmp_eq (pc := 83) (tgt := 110) C dX5_mark_83 (by decide) (fun c83 => absurd c83 (fun z => hu ((uwm1 (by omega)).mp z))) (fun c83 => ?_)
        refine r_aload_n (pc := 86) C dX5_mark_86 rfl rfl ?_
        refine r_iconst (pc := 87) (v := (nI 0)) C dX5_mark_87 (by decide) ?_
        refine r_iload_n (pc := 88) C dX5_mark_88 rfl rfl ?_
        refine r_aload_n (pc := 89) C dX5_mark_89 rfl rfl ?_
        refine r_getIe (pc := 90) C fl_X5_49 E.L.o rfl E.bnd dX5_mark_90 ?_
        refine r_if_ne (pc := 93) (tgt := 100) C dX5_mark_93 (by decide) (fun c93 => absurd c93 (fun z => z hb)) (fun c93 => ?_)
        refine r_iconst (pc := 96) (v := (nI 1)) C dX5_mark_96 (by decide) ?_
        refine r_goto (pc := 97) (tgt := 101) C dX5_mark_97 (by decide) ?_
        refine r_callv (cr_V (pc := 101) C (c_X5_takePart E B hu' (H.U hu') H.B.C (s := 0) (q := q) (by omega) (by omega) (lo := 1) (by decide)) dX5_mark_101 cm_X5_takePart ml_X5_116 im_X5_takePart se_X5_takePart E.L.o rfl ⟨⟨Nat.le_of_ble_eq_true rfl, Nat.le_of_ble_eq_true rfl⟩, Nat.le_of_ble_eq_true rfl, Nat.le_of_ble_eq_true rfl⟩ rfl rfl (Nat.le_of_ble_eq_true rfl)) (fun h101 hq101 => ?_)
        obtain ⟨⟨e2, E2, H2⟩, f2⟩ := hq101
        refine n_iinc (pc := 104) (lv' := [_, _, _]) C dX5_mark_104 rfl (by decide) rfl rfl ?_
        refine r_goto (pc := 107) (tgt := 69) C dX5_mark_107 (by decide) ?_
        exact ih (q + 1) (spPart t 0 q 1) e2 _ (by rw [Same.part.1]; omega) (B.part (by omega) (by omega)) E2 H2 (f.tr f2) (by rw [part_lo]; exact hlo) (by rw [el]; exact hf)
      · have el : lo = 0 := hlo.trans (cif_f hb)
        rw [el] at hf
        refine r_iload_n (pc := 69) C dX5_mark_69 rfl rfl ?_
        refine r_aload_n (pc := 70) C dX5_mark_70 rfl rfl ?_
        refine r_iconst (pc := 71) (v := (nI 0)) C dX5_mark_71 (by decide) ?_
        refine r_calli (cr_V (pc := 72) C (c_X5_widthOf E B _) dX5_mark_72 cm_X5_widthOf ml_X5_110 im_X5_widthOf se_X5_widthOf E.L.o rfl ⟨⟨Nat.le_of_ble_eq_true rfl, Nat.le_of_ble_eq_true rfl⟩, Nat.le_of_ble_eq_true rfl, Nat.le_of_ble_eq_true rfl⟩ rfl rfl (Nat.le_of_ble_eq_true rfl)) (fun v72 h72 hq72 => ?_)
        obtain ⟨rfl, rfl⟩ := hq72
        rw [wdI_n B (by omega)]
        refine n_icmp_ge (pc := 75) (tgt := 110) C (by omega) (by omega) dX5_mark_75 (by decide) (fun c75 => absurd c75 (by omega)) (fun c75 => ?_)
        refine r_aload_n (pc := 78) C dX5_mark_78 rfl rfl ?_
        refine r_getIe (pc := 79) C fl_X5_40 E.L.o rfl E.uw dX5_mark_79 ?_
        refine r_iconst (pc := 82) (v := (-1)) C dX5_mark_82 (by decide) ?_
        refine r_icmp_eq (pc := 83) (tgt := 110) C dX5_mark_83 (by decide) (fun c83 => absurd c83 (fun z => hu ((uwm1 (by omega)).mp z))) (fun c83 => ?_)
        refine r_aload_n (pc := 86) C dX5_mark_86 rfl rfl ?_
        refine r_iconst (pc := 87) (v := (nI 0)) C dX5_mark_87 (by decide) ?_
        refine r_iload_n (pc := 88) C dX5_mark_88 rfl rfl ?_
        refine r_aload_n (pc := 89) C dX5_mark_89 rfl rfl ?_
        refine r_getIe (pc := 90) C fl_X5_49 E.L.o rfl E.bnd dX5_mark_90 ?_
        refine r_if_ne (pc := 93) (tgt := 100) C dX5_mark_93 (by decide) (fun c93 => ?_) (fun c93 => absurd c93 (fun z => hb z))
        refine r_iconst (pc := 100) (v := (nI 0)) C dX5_mark_100 (by decide) ?_
        refine r_callv (cr_V (pc := 101) C (c_X5_takePart E B hu' (H.U hu') H.B.C (s := 0) (q := q) (by omega) (by omega) (lo := 0) (by decide)) dX5_mark_101 cm_X5_takePart ml_X5_116 im_X5_takePart se_X5_takePart E.L.o rfl ⟨⟨Nat.le_of_ble_eq_true rfl, Nat.le_of_ble_eq_true rfl⟩, Nat.le_of_ble_eq_true rfl, Nat.le_of_ble_eq_true rfl⟩ rfl rfl (Nat.le_of_ble_eq_true rfl)) (fun h101 hq101 => ?_)
        obtain ⟨⟨e2, E2, H2⟩, f2⟩ := hq101
        refine n_iinc (pc := 104) (lv' := [_, _, _]) C dX5_mark_104 rfl (by decide) rfl rfl ?_
        refine r_goto (pc := 107) (tgt := 69) C dX5_mark_107 (by decide) ?_
        exact ih (q + 1) (spPart t 0 q 0) e2 _ (by rw [Same.part.1]; omega) (B.part (by omega) (by omega)) E2 H2 (f.tr f2) (by rw [part_lo]; exact hlo) (by rw [el]; exact hf)
theorem mk_4 {lo : Nat} : ∀ (n q : Nat) (t : TS), tN (spMk lo n q t) 0 4 = tN t 0 4
  | 0, q, t => rfl
  | n + 1, q, t => by
    unfold spMk
    split
    · rfl
    · rw [mk_4 n (q + 1)]
      obtain ⟨h1, h2, h3, h4, h5, h6, h7, h8, h9, h10, _⟩ := Same.part (t := t) (s := 0) (q := q) (lo := lo)
      exact h10
theorem c_X5_mark {t : TS} {e : ES} {h : AH} (E : RX x m t e h) (B : TB t) (H : Ext t e) (Fz : tN t 0 4 < 8 → Frs t) (hn : hN h = m + 24 + 7 * tN t 0 4) : MA G mX5_mark 4 7 543 [.ref x] h (Oi (XM x m h (spMark t))) := by
  have b := B.S
  have bm := B.marks
  have bu := B.uw
  have bl := E.L.b
  refine MA.intro (lv := [some (.ref x), none, none]) (by decide) (Nat.le_of_ble_eq_true rfl) rfl (fun F C => ?_)
  by_cases hu : tN t 0 5 = 0
  · by_cases hM : tN t 0 4 = 8
    · have e0 : spMark t = (-104, t) := by unfold spMark; rw [cif_t hu, cif_t hM]
      refine r_aload_n (pc := 0) C dX5_mark_0 rfl rfl ?_
      refine r_getIe (pc := 1) C fl_X5_40 E.L.o rfl E.uw dX5_mark_1 ?_
      refine r_iconst (pc := 4) (v := (-1)) C dX5_mark_4 (by decide) ?_
      refine r_icmp_eq (pc := 5) (tgt := 11) C dX5_mark_5 (by decide) (fun c5 => ?_) (fun c5 => absurd c5 (fun z => z (uw0 hu)))
      refine r_aload_n (pc := 11) C dX5_mark_11 rfl rfl ?_
      refine r_getIe (pc := 12) C fl_X5_36 E.L.o rfl E.marks dX5_mark_12 ?_
      refine r_aload_n (pc := 15) C dX5_mark_15 rfl rfl ?_
      refine r_getR (pc := 16) C fl_X5_29 E.L.o rfl E.L.r6 dX5_mark_16 ?_
      refine r_alen (pc := 19) C E.L.s6 (by decide) (by decide) dX5_mark_19 ?_
      refine n_icmp_lt (pc := 20) (tgt := 26) C (by omega) (by omega) dX5_mark_20 (by decide) (fun c20 => absurd c20 (by omega)) (fun c20 => ?_)
      refine r_bipush (pc := 23) (v := (-104)) C dX5_mark_23 (by decide) ?_
      exact r_iret (pc := 25) C rfl (Nat.le_of_ble_eq_true rfl) (Nat.le_of_ble_eq_true rfl) ⟨_, rfl, (by rw [e0]; exact ⟨rfl, ⟨e, E, H⟩, Kp.rf, hn⟩)⟩ dX5_mark_25
    · have hM' : tN t 0 4 < 8 := by omega
      have e0 : spMark t = (nI (tN t 0 4), spMk (cif (tI t 0 0 = 0) 1 0) (tN t 1 0) 0 (spMk0 t)) := by unfold spMark; rw [cif_t hu, cif_f hM]
      have F0 := Fz hM'
      have E0 := E
      have fin : ∀ h5, RX x m (spMk0 t) (xMk t e) h5 → Kp m h h5 → hN h5 = m + 24 + 7 * (tN t 0 4 + 1) → WA G F mX5_mark h5 7 543 (MQA G F 7 543 (Oi (XM x m h (spMark t)))) 69 [some (.ref x), some (.int (nI (tN t 0 4))), some (.int (nI 0))] [] := fun h5 E5 K5 n5 => by
        refine xmark_l (tf := (spMark t).2) (lo := cif (tI t 0 0 = 0) 1 0) C (fun h' x2 hx f => ?_) (tN t 1 0) 0 (spMk0 t) (xMk t e) h5 (by rw [m0_n (by decide) (by decide) (by decide)]; omega) (B.mk0 hM') E5 (H.newmark hu F0 b.2) Fq.rf (by rw [m0_I (by decide)]) (by rw [e0])
        refine r_iload_n (pc := 110) C dX5_mark_110 rfl rfl ?_
        exact r_iret (pc := 111) C rfl (Nat.le_of_ble_eq_true rfl) (Nat.le_of_ble_eq_true rfl) ⟨_, rfl, ⟨by rw [e0], hx, K5.tr f.kp, by rw [f.1, n5, e0]; show _ = m + 24 + 7 * tN (spMk _ _ _ _) 0 4; rw [mk_4, m0_0, if_neg (by decide), if_pos rfl]⟩⟩ dX5_mark_111
      refine r_aload_n (pc := 0) C dX5_mark_0 rfl rfl ?_
      refine r_getIe (pc := 1) C fl_X5_40 E.L.o rfl E.uw dX5_mark_1 ?_
      refine r_iconst (pc := 4) (v := (-1)) C dX5_mark_4 (by decide) ?_
      refine r_icmp_eq (pc := 5) (tgt := 11) C dX5_mark_5 (by decide) (fun c5 => ?_) (fun c5 => absurd c5 (fun z => z (uw0 hu)))
      refine r_aload_n (pc := 11) C dX5_mark_11 rfl rfl ?_
      refine r_getIe (pc := 12) C fl_X5_36 E.L.o rfl E.marks dX5_mark_12 ?_
      refine r_aload_n (pc := 15) C dX5_mark_15 rfl rfl ?_
      refine r_getR (pc := 16) C fl_X5_29 E.L.o rfl E.L.r6 dX5_mark_16 ?_
      refine r_alen (pc := 19) C E.L.s6 (by decide) (by decide) dX5_mark_19 ?_
      refine n_icmp_lt (pc := 20) (tgt := 26) C (by omega) (by omega) dX5_mark_20 (by decide) (fun c20 => ?_) (fun c20 => absurd c20 (by omega))
      refine r_aload_n (pc := 26) C dX5_mark_26 rfl rfl ?_
      refine r_getIe (pc := 27) C fl_X5_36 E.L.o rfl E.marks dX5_mark_27 ?_
      refine r_istore_n (pc := 30) (lv' := [_, _, _]) C dX5_mark_30 rfl (by decide) rfl rfl ?_
      refine r_aload_n (pc := 31) C dX5_mark_31 rfl rfl ?_
      refine r_getR (pc := 32) C fl_X5_29 E.L.o rfl E.L.r6 dX5_mark_32 ?_
      refine r_iload_n (pc := 35) C dX5_mark_35 rfl rfl ?_
      refine r_new (pc := 36) (ci := 2) C (by decide) cl_X5_27 ins_2 ini_2 df_2 (Nat.le_of_ble_eq_true rfl) (Nat.le_of_ble_eq_true rfl) dX5_mark_36 ?_
      refine WA.widen (c' := 1) (s' := 9) (Nat.le_of_ble_eq_true rfl) (Nat.le_of_ble_eq_true rfl) ?_
      have E := E.bl (Bl.new (h := h) (sh := (0, 2))) (by omega)
      refine r_dup (pc := 39) C dX5_mark_39 rfl ?_
      refine r_aload_n (pc := 40) C dX5_mark_40 rfl rfl ?_
      refine r_getR (pc := 41) C fl_X5_9 E.L.o rfl E.L.r1 dX5_mark_41 ?_
      refine r_aload_n (pc := 44) C dX5_mark_44 rfl rfl ?_
      refine r_getIe (pc := 45) C fl_X5_43 E.L.o rfl E.turns dX5_mark_45 ?_
      refine r_callv (cr_I (pc := 48) C (c_X2_init (a := hN h) (w := x + 1) (by rw [hS_new, if_pos rfl]) rfl E.L.s1 (by omega)) dX5_mark_48 cm_X2_init rfl rfl ml_X5_114 im_X2_init ⟨⟨Nat.le_of_ble_eq_true rfl, Nat.le_of_ble_eq_true rfl⟩, Nat.le_of_ble_eq_true rfl, Nat.le_of_ble_eq_true rfl⟩ rfl rfl (Nat.le_of_ble_eq_true rfl)) (fun h48 hq48 => ?_)
      obtain ⟨g1, g2, ⟨g3, g5, g6, g7, g8⟩, g9, g10, g11, g12⟩ := hq48
      have K2 : Bl (m + 24 + 7 * tN t 0 4) h h48 := (Bl.new.less (by omega)).tr (g12.less (by omega))
      have E2 := E0.bl K2 (Nat.le_refl _)
      rw [hn] at g1 g2 g3 g5 g6 g7 g8 g9 g10 g11 ⊢
      refine n_aast (pc := 51) C E2.L.s6 (by decide) g1.1 (by omega) dX5_mark_51 ?_ (by omega)
      refine r_aload_n (pc := 52) C dX5_mark_52 rfl rfl ?_
      refine r_dup (pc := 53) C dX5_mark_53 rfl ?_
      refine r_getIe (pc := 54) C fl_X5_36 E2.L.o rfl E2.marks dX5_mark_54 ?_
      refine r_iconst (pc := 57) (v := (nI 1)) C dX5_mark_57 (by decide) ?_
      refine n_iadd (pc := 58) C dX5_mark_58 ?_
      refine r_putI (pc := 59) C fl_X5_36 E2.L.o rfl rfl rfl rfl dX5_mark_59 ?_
      refine r_aload_n (pc := 62) C dX5_mark_62 rfl rfl ?_
      refine r_iload_n (pc := 63) C dX5_mark_63 rfl rfl ?_
      refine r_putI (pc := 64) C fl_X5_40 E2.L.o rfl rfl rfl rfl dX5_mark_64 ?_
      refine r_iconst (pc := 67) (v := (nI 0)) C dX5_mark_67 (by decide) ?_
      refine r_istore_n (pc := 68) (lv' := [_, _, _]) C dX5_mark_68 rfl (by decide) rfl rfl ?_
      exact fin _ (E0.newmark hM' F0 b K2 g1 (g3.trans rfl) g5 g6 g7 g8 g9 g10 (g11.trans (Bl.new (h := h) (sh := (0, 2)) (x + 1) (by omega)).2.1) nI_0) (fun z h1 h2 => ⟨(K2 z (by omega)).1, (by show hI (pI (pI _ x 8 _) x 9 _) z = _; rw [hI_ne (by omega), hI_ne (by omega)]; exact (K2 z (by omega)).2.1), (K2 z (by omega)).2.2.1, (by show hR (pR _ (x + 9) _ _) z = _; rw [hR_pRf, if_neg (by omega)]; exact (K2 z (by omega)).2.2.2)⟩) (by show hN h48 = _; omega)
  · have e0 : spMark t = (-103, t) := cif_f hu
    refine r_aload_n (pc := 0) C dX5_mark_0 rfl rfl ?_
    refine r_getIe (pc := 1) C fl_X5_40 E.L.o rfl E.uw dX5_mark_1 ?_
    refine r_iconst (pc := 4) (v := (-1)) C dX5_mark_4 (by decide) ?_
    refine r_icmp_eq (pc := 5) (tgt := 11) C dX5_mark_5 (by decide) (fun c5 => absurd c5 (fun z => hu ((uwm1 (by omega)).mp z))) (fun c5 => ?_)
    refine r_bipush (pc := 8) (v := (-103)) C dX5_mark_8 (by decide) ?_
    exact r_iret (pc := 10) C rfl (Nat.le_of_ble_eq_true rfl) (Nat.le_of_ble_eq_true rfl) ⟨_, rfl, (by rw [e0]; exact ⟨rfl, ⟨e, E, H⟩, Kp.rf, hn⟩)⟩ dX5_mark_10
end CM73
