/-! ===== the class: a barrier comes ===== -/
theorem cmN_put {t : TS} {s q f : Nat} (h5 : tN t 5 (16 * (s - 1) + 4 * f + q) = 0) (hf : f < 4) (hq : q < 4) (hs : 1 ≤ s) {s' q' : Nat} (hs' : 1 ≤ s') (hq' : q' < 4) : ∀ n, n ≤ 4 → cmN (uN (uN t 5 (16 * (s - 1) + 4 * f + q) 1) 4 (16 * (s - 1) + 4 * f + q) 0) s' q' n = cmN t s' q' n + (if (s' = s ∧ q' = q) ∧ f < n then 1 else 0) := by
  intro n
  induction n with
  | zero => intro _; rw [if_neg (by omega)]; rfl
  | succ n ih =>
    intro hn
    unfold cmN
    rw [ih (by omega)]
    have e5 : tN (uN (uN t 5 (16 * (s - 1) + 4 * f + q) 1) 4 (16 * (s - 1) + 4 * f + q) 0) 5 (16 * (s' - 1) + 4 * n + q') = if 16 * (s' - 1) + 4 * n + q' = 16 * (s - 1) + 4 * f + q then 1 else tN t 5 (16 * (s' - 1) + 4 * n + q') := by
      rw [tN_uN_n (by decide), tN_uN]
      simp
    rw [e5]
    by_cases h1 : 16 * (s' - 1) + 4 * n + q' = 16 * (s - 1) + 4 * f + q
    · have k1 : s' = s := by omega
      have k2 : q' = q := by omega
      have k3 : n = f := by omega
      rw [if_pos h1, if_neg (by omega), if_pos ⟨⟨k1, k2⟩, by omega⟩, h1, h5]
    · rw [if_neg h1]
      by_cases h2 : (s' = s ∧ q' = q) ∧ f < n
      · rw [if_pos h2, if_pos ⟨h2.1, by omega⟩]; omega
      · rw [if_neg h2, if_neg (fun z => h2 ⟨z.1, by omega⟩)]; omega
theorem EU.ce {t t' : TS} {e e' : ES} {j : Nat} (U : EU j t e) (h0 : xN e' 0 = xN e 0) (h1 : xN e' 1 = xN e 1) (h3 : xN e' 3 = xN e 3) (h4 : xN e' 4 = xN e 4) (i1 : xI e' 1 = xI e 1) : EU j t e' := by
  unfold EU ExtA
  rw [h0, h1, h3, h4, i1]
  exact U
section CB65
variable {G : GP} {x m : Nat} {t : TS} {e : ES} {h : AH}
theorem c_X5_takeBarrier (E : RX x m t e h) (B : TB t) (H : Ext t e) {j s q f c : Nat} (hu : tN t 0 5 = j + 1) (hs1 : 1 ≤ s) (hs : s < tN t 0 0) (hq : q < tN t 1 s) (hf : f < tN t 1 (s - 1)) (hcd : c = 16 * (s - 1) + 4 * f + q) (h5 : tN t 5 c = 0) : MA G mX5_takeBarrier 4 0 0 [.ref x, .ref (x + 15 + c), .int (nI s), .int (nI q)] h (Ov (XT x m h (spCame t s q c))) := by
  have b := E.L.b
  have bS := B.S
  have b1 := B.P (s := s) (by omega)
  have b2 := B.P (s := s - 1) (by omega)
  have bu := B.uw
  have bm := B.marks
  have hj : j < tN t 0 4 := by omega
  have hc : c < 16 * (tN t 0 0 - 1) := by omega
  have hi : 4 * s + q < 4 * tN t 0 0 := by omega
  have L := E.L.ch hc
  have T := E.L.tk hi
  have K := E.k_tk _ hi
  have U := H.U hu
  have V := H.B
  have bc := H.cm B hs (q := q) (by omega)
  have B1 : TB (uN (uN t 5 c 1) 4 c 0) := (B.p5 (by decide)).p4 (Nat.zero_le _)
  have ht1 : uN (uN t 4 c 0) 5 c 1 = uN (uN t 5 c 1) 4 c 0 := by
    refine TS_ext (fun k => ?_) rfl rfl rfl rfl
    simp only [tN_u]
    by_cases h4 : k = 4
    · subst h4; rfl
    · by_cases h5 : k = 5
      · subst h5; rfl
      · simp [h4, h5]
  obtain ⟨e1, he1⟩ : ∃ e1, e1 = vN (if xN e 2 (4 * s + q) = 0 then vI e 0 (4 * s + q) (tI t 0 1) else e) 2 (4 * s + q) (xN e 2 (4 * s + q) + 1) := ⟨_, rfl⟩
  have x0 : xN e1 0 = xN e 0 ∧ xN e1 1 = xN e 1 ∧ xN e1 3 = xN e 3 ∧ xN e1 4 = xN e 4 ∧ xI e1 1 = xI e 1 := by
    rw [he1]; split <;> exact ⟨rfl, rfl, rfl, rfl, rfl⟩
  have x2 : ∀ i, xN e1 2 i = if i = 4 * s + q then xN e 2 (4 * s + q) + 1 else xN e 2 i := by
    intro i
    rw [he1, xN_vN]
    by_cases hii : i = 4 * s + q
    · rw [if_pos ⟨rfl, hii⟩, if_pos hii]
    · rw [if_neg (fun z => hii z.2), if_neg hii]; split <;> rfl
  have x3 : ∀ i, i ≠ 4 * s + q → xI e1 0 i = xI e 0 i := by
    intro i hii
    rw [he1]
    split
    · show xI (vI e 0 (4 * s + q) (tI t 0 1)) 0 i = _
      rw [xI_vI, if_neg (fun z => hii z.2)]
    · rfl
  have x4 : xI e1 0 (4 * s + q) = if xN e 2 (4 * s + q) = 0 then tI t 0 1 else xI e 0 (4 * s + q) := by
    rw [he1]
    split
    · show xI (vI e 0 (4 * s + q) (tI t 0 1)) 0 (4 * s + q) = _
      rw [xI_vI, if_pos ⟨rfl, rfl⟩]
    · rfl
  have U1 : EU j (uN (uN t 5 c 1) 4 c 0) e1 := EU.ce (t := uN (uN t 5 c 1) 4 c 0) (t' := t) (e := e) (U.cg rfl rfl rfl rfl rfl rfl rfl rfl rfl rfl) x0.1 x0.2.1 x0.2.2.1 x0.2.2.2.1 x0.2.2.2.2
  have V1 : ExtC s q (uN (uN t 5 c 1) 4 c 0) e1 := by
    refine ⟨fun s' q' h1 h2 => ?_, fun s' q' h1 h2 hne => ?_⟩
    · have h1 : s' < tN t 0 0 := h1
      rw [x2]
      by_cases h0 : s' = 0
      · rw [if_pos h0, if_neg (by omega), V.1 s' q' h1 h2, if_pos h0]
      · rw [if_neg h0]
        show _ = cmN (uN (uN t 5 c 1) 4 c 0) s' q' (tN t 1 (s' - 1))
        rw [hcd, cmN_put (t := t) (s := s) (q := q) (f := f) (s' := s') (q' := q') (by rw [← hcd]; exact h5) (by omega) (by omega) hs1 (by omega) h2 _ (show tN t 1 (s' - 1) ≤ 4 from (B.P (by omega)).2)]
        show _ = cmN t s' q' (tN t 1 (s' - 1)) + (if (s' = s ∧ q' = q) ∧ f < tN t 1 (s' - 1) then 1 else 0)
        by_cases hne : 4 * s' + q' = 4 * s + q
        · have k1 : s' = s := by omega
          have k2 : q' = q := by omega
          rw [if_pos hne, if_pos ⟨⟨k1, k2⟩, by rw [k1]; exact hf⟩, V.1 s q hs (by omega), if_neg (by omega), k1, k2]
        · rw [if_neg hne, if_neg (fun z => hne (by rw [z.1.1, z.1.2])), V.1 s' q' h1 h2, if_neg h0]; rfl
    · rw [x2, if_neg hne, x3 _ hne]
      exact V.2 s' q' h1 h2
  refine MA.intro (lv := [some (.ref x), some (.ref (x + 15 + c)), some (.int (nI s)), some (.int (nI q)), none]) (by decide) (Nat.le_of_ble_eq_true rfl) rfl (fun F C => ?_)
  have t87 : ∀ t2 e2 h2, RX x m t2 e2 h2 → TB t2 → Ext t2 e2 → Fq (Px m) h h2 → spCame1 (uN (uN t 5 c 1) 4 c 0) s q c = t2 → WA G F mX5_takeBarrier h2 0 0 (MQA G F 0 0 (Ov (XT x m h (spCame t s q c)))) 87 [some (.ref x), some (.ref (x + 15 + c)), some (.int (nI s)), some (.int (nI q)), some (.ref (x + 16 * tN t 0 0 + (4 * s + q)))] [] := by
    intro t2 e2 h2 E B2 H2 f2 ht2
    have es : spCame t s q c = spSettle t2 := by unfold spCame; rw [ht2]
    have bu2 := B2.uw
    have bm2 := B2.marks
    by_cases hu2 : tN t2 0 5 = 0
    · rw [es, show spSettle t2 = t2 from cif_f (fun z => z.1 hu2)]
      refine r_aload_n (pc := 87) C dX5_takeBarrier_87 rfl rfl ?_
      refine r_getIe (pc := 88) C fl_X5_40 E.L.o rfl E.uw dX5_takeBarrier_88 ?_
      refine r_iconst (pc := 91) (v := (-1)) C dX5_takeBarrier_91 (by decide) ?_
      refine r_icmp_eq (pc := 92) (tgt := 107) C dX5_takeBarrier_92 (by decide) (fun c92 => ?_) (fun c92 => absurd c92 (fun z => z (uw0 hu2)))
      exact r_vret (pc := 107) C rfl (Nat.le_of_ble_eq_true rfl) (Nat.le_of_ble_eq_true rfl) ⟨rfl, ⟨⟨e2, E, H2⟩, f2⟩⟩ dX5_takeBarrier_107
    · have hj2 : tN t2 0 5 = tN t2 0 5 - 1 + 1 := by omega
      by_cases hw : allW t2
      · rw [es, show spSettle t2 = spEnd t2 1 from cif_t ⟨hu2, hw⟩]
        refine r_aload_n (pc := 87) C dX5_takeBarrier_87 rfl rfl ?_
        refine r_getIe (pc := 88) C fl_X5_40 E.L.o rfl E.uw dX5_takeBarrier_88 ?_
        refine r_iconst (pc := 91) (v := (-1)) C dX5_takeBarrier_91 (by decide) ?_
        refine r_icmp_eq (pc := 92) (tgt := 107) C dX5_takeBarrier_92 (by decide) (fun c92 => absurd c92 (fun z => hu2 ((uwm1 (by omega)).mp z))) (fun c92 => ?_)
        refine r_aload_n (pc := 95) C dX5_takeBarrier_95 rfl rfl ?_
        refine r_calli (cr_V (pc := 96) C (c_X5_isComplete E B2 H2.B) dX5_takeBarrier_96 cm_X5_isComplete ml_X5_319 im_X5_isComplete se_X5_isComplete E.L.o rfl ⟨⟨Nat.le_of_ble_eq_true rfl, Nat.le_of_ble_eq_true rfl⟩, Nat.le_of_ble_eq_true rfl, Nat.le_of_ble_eq_true rfl⟩ rfl rfl (Nat.le_of_ble_eq_true rfl)) (fun v96 h96 hq96 => ?_)
        obtain ⟨rfl, rfl⟩ := hq96
        refine b_if_eq (pc := 99) (tgt := 107) C dX5_takeBarrier_99 (by decide) (fun c99 => absurd c99 (fun z => z hw)) (fun c99 => ?_)
        refine r_aload_n (pc := 102) C dX5_takeBarrier_102 rfl rfl ?_
        refine r_iconst (pc := 103) (v := (nI 1)) C dX5_takeBarrier_103 (by decide) ?_
        refine r_callv (cr_V (pc := 104) C (c_X5_endMark E B2 hj2 (how := 1) (by decide)) dX5_takeBarrier_104 cm_X5_endMark ml_X5_120 im_X5_endMark se_X5_endMark E.L.o rfl ⟨⟨Nat.le_of_ble_eq_true rfl, Nat.le_of_ble_eq_true rfl⟩, Nat.le_of_ble_eq_true rfl, Nat.le_of_ble_eq_true rfl⟩ rfl rfl (Nat.le_of_ble_eq_true rfl)) (fun h104 hq104 => ?_)
        obtain ⟨E3, f3⟩ := hq104
        exact r_vret (pc := 107) C rfl (Nat.le_of_ble_eq_true rfl) (Nat.le_of_ble_eq_true rfl) ⟨rfl, ⟨⟨_, E3, H2.A.end hj2⟩, f2.tr f3⟩⟩ dX5_takeBarrier_107
      · rw [es, show spSettle t2 = t2 from cif_f (fun z => hw z.2)]
        refine r_aload_n (pc := 87) C dX5_takeBarrier_87 rfl rfl ?_
        refine r_getIe (pc := 88) C fl_X5_40 E.L.o rfl E.uw dX5_takeBarrier_88 ?_
        refine r_iconst (pc := 91) (v := (-1)) C dX5_takeBarrier_91 (by decide) ?_
        refine r_icmp_eq (pc := 92) (tgt := 107) C dX5_takeBarrier_92 (by decide) (fun c92 => absurd c92 (fun z => hu2 ((uwm1 (by omega)).mp z))) (fun c92 => ?_)
        refine r_aload_n (pc := 95) C dX5_takeBarrier_95 rfl rfl ?_
        refine r_calli (cr_V (pc := 96) C (c_X5_isComplete E B2 H2.B) dX5_takeBarrier_96 cm_X5_isComplete ml_X5_319 im_X5_isComplete se_X5_isComplete E.L.o rfl ⟨⟨Nat.le_of_ble_eq_true rfl, Nat.le_of_ble_eq_true rfl⟩, Nat.le_of_ble_eq_true rfl, Nat.le_of_ble_eq_true rfl⟩ rfl rfl (Nat.le_of_ble_eq_true rfl)) (fun v96 h96 hq96 => ?_)
        obtain ⟨rfl, rfl⟩ := hq96
        refine b_if_eq (pc := 99) (tgt := 107) C dX5_takeBarrier_99 (by decide) (fun c99 => ?_) (fun c99 => absurd c99 hw)
        exact r_vret (pc := 107) C rfl (Nat.le_of_ble_eq_true rfl) (Nat.le_of_ble_eq_true rfl) ⟨rfl, ⟨⟨e2, E, H2⟩, f2⟩⟩ dX5_takeBarrier_107
  have t33 : ∀ h1, RX x m (uN (uN t 5 c 1) 4 c 0) e1 h1 → Fq (Px m) h h1 → WA G F mX5_takeBarrier h1 0 0 (MQA G F 0 0 (Ov (XT x m h (spCame t s q c)))) 33 [some (.ref x), some (.ref (x + 15 + c)), some (.int (nI s)), some (.int (nI q)), some (.ref (x + 16 * tN t 0 0 + (4 * s + q)))] [] := by
    intro h1 E f1
    have L := E.L.ch (c := c) hc
    have K := E.k_ch c hc
    have T : hR h1 (x + 16 * tN t 0 0 - 1) (4 * s + q) = _ ∧ hS h1 (x + 16 * tN t 0 0 + (4 * s + q)) = (0, 4) := E.L.tk (i := 4 * s + q) hi
    have KT : kTk (4 * s + q) (uN (uN t 5 c 1) 4 c 0) e1 (hI h1 (x + 16 * tN t 0 0 + (4 * s + q))) := E.k_tk (4 * s + q) hi
    have k6 : hI h1 (x + 16 * tN t 0 0 + (4 * s + q)) 0 = nI (tN t 6 (4 * s + q)) := KT.1
    have k7 : hI h1 (x + 15 + c) 7 = nI (tN t 12 (48 * j + c)) := K.2.2.2.2.2.2.trans (by rw [U1.1 c hc]; rfl)
    have b6 := (B.bool (4 * s + q)).2.1
    have b12 := (B.bool (48 * j + c)).2.2.2
    have H7 := V.2 s q hs (by omega)
    have W := wdI_n B1 (s := s - 1) (by show s - 1 < tN t 0 0; omega)
    have W' : wdI (uN (uN t 5 c 1) 4 c 0) (nI (s - 1)) = tN t 1 (s - 1) := W
    have cmv : xN e1 2 (4 * s + q) = cmN (uN (uN t 5 c 1) 4 c 0) s q (tN t 1 (s - 1)) := by
      have := V1.1 s q hs (by omega)
      rw [if_neg (by omega)] at this
      exact this
    have D : xN e1 2 (4 * s + q) = tN t 1 (s - 1) ↔ allC (uN (uN t 5 c 1) 4 c 0) s q := by
      rw [cmv]; exact cmN_all B1 _
    have bc1 : xN e1 2 (4 * s + q) ≤ 5 := by rw [x2, if_pos rfl]; omega
    have u1 : tN (uN (uN t 5 c 1) 4 c 0) 0 5 = j + 1 := hu
    by_cases h6 : tN t 6 (4 * s + q) = 0
    · by_cases hlo : tN t 12 (48 * j + c) ≠ 0 ∨ tI t 0 0 = 0
      · have es : spCame1 (uN (uN t 5 c 1) 4 c 0) s q c = spPart (uN (uN t 5 c 1) 4 c 0) s q 1 := by
          unfold spCame1
          rw [cif_t (show tN (uN (uN t 5 c 1) 4 c 0) 6 (4 * s + q) = 0 from h6), u1, Nat.add_sub_cancel]
          exact cif_t hlo
        refine r_aload (pc := 33) C dX5_takeBarrier_33 rfl ?_
        refine r_getIe (pc := 35) C fl_X5_174 T.2 rfl k6 dX5_takeBarrier_35 ?_
        refine n_if_ne (pc := 38) (tgt := 87) C (by omega) dX5_takeBarrier_38 (by decide) (fun c38 => absurd c38 (by omega)) (fun c38 => ?_)
        refine r_aload_n (pc := 41) C dX5_takeBarrier_41 rfl rfl ?_
        refine r_getIe (pc := 42) C fl_X5_316 L.2.1 rfl k7 dX5_takeBarrier_42 ?_
        refine n_if_ne (pc := 45) (tgt := 55) C (by omega) dX5_takeBarrier_45 (by decide) (fun c45 => ?_) (fun c45 => ?_)
        · refine r_aload_n (pc := 55) C dX5_takeBarrier_55 rfl rfl ?_
          refine r_iload_n (pc := 56) C dX5_takeBarrier_56 rfl rfl ?_
          refine r_iload_n (pc := 57) C dX5_takeBarrier_57 rfl rfl ?_
          refine r_iconst (pc := 58) (v := (nI 1)) C dX5_takeBarrier_58 (by decide) ?_
          refine r_callv (cr_V (pc := 59) C (c_X5_takePart E B1 hu U1 V1 hs hq (lo := 1) (by decide)) dX5_takeBarrier_59 cm_X5_takePart ml_X5_116 im_X5_takePart se_X5_takePart E.L.o rfl ⟨⟨Nat.le_of_ble_eq_true rfl, Nat.le_of_ble_eq_true rfl⟩, Nat.le_of_ble_eq_true rfl, Nat.le_of_ble_eq_true rfl⟩ rfl rfl (Nat.le_of_ble_eq_true rfl)) (fun h59 hq59 => ?_)
          obtain ⟨⟨e2, E2, H2⟩, f2⟩ := hq59
          have E := E2
          refine r_goto (pc := 62) (tgt := 87) C dX5_takeBarrier_62 (by decide) ?_
          exact t87 _ e2 _ E2 (B1.part (by omega) (by omega)) H2 (f1.tr f2) es
        · refine r_aload_n (pc := 48) C dX5_takeBarrier_48 rfl rfl ?_
          refine r_getIe (pc := 49) C fl_X5_49 E.L.o rfl (show _ = tI t 0 0 from E.bnd) dX5_takeBarrier_49 ?_
          refine r_if_ne (pc := 52) (tgt := 65) C dX5_takeBarrier_52 (by decide) (fun c52 => absurd c52 (fun z => by rcases hlo with y | y; (exact y (by omega)); (exact z y))) (fun c52 => ?_)
          refine r_aload_n (pc := 55) C dX5_takeBarrier_55 rfl rfl ?_
          refine r_iload_n (pc := 56) C dX5_takeBarrier_56 rfl rfl ?_
          refine r_iload_n (pc := 57) C dX5_takeBarrier_57 rfl rfl ?_
          refine r_iconst (pc := 58) (v := (nI 1)) C dX5_takeBarrier_58 (by decide) ?_
          refine r_callv (cr_V (pc := 59) C (c_X5_takePart E B1 hu U1 V1 hs hq (lo := 1) (by decide)) dX5_takeBarrier_59 cm_X5_takePart ml_X5_116 im_X5_takePart se_X5_takePart E.L.o rfl ⟨⟨Nat.le_of_ble_eq_true rfl, Nat.le_of_ble_eq_true rfl⟩, Nat.le_of_ble_eq_true rfl, Nat.le_of_ble_eq_true rfl⟩ rfl rfl (Nat.le_of_ble_eq_true rfl)) (fun h59 hq59 => ?_)
          obtain ⟨⟨e2, E2, H2⟩, f2⟩ := hq59
          have E := E2
          refine r_goto (pc := 62) (tgt := 87) C dX5_takeBarrier_62 (by decide) ?_
          exact t87 _ e2 _ E2 (B1.part (by omega) (by omega)) H2 (f1.tr f2) es
      · by_cases hac : allC (uN (uN t 5 c 1) 4 c 0) s q
        · have es : spCame1 (uN (uN t 5 c 1) 4 c 0) s q c = spPart (uN (uN t 5 c 1) 4 c 0) s q 0 := by
            unfold spCame1
            rw [cif_t (show tN (uN (uN t 5 c 1) 4 c 0) 6 (4 * s + q) = 0 from h6), u1, Nat.add_sub_cancel]
            exact (cif_f hlo).trans (cif_t hac)
          refine r_aload (pc := 33) C dX5_takeBarrier_33 rfl ?_
          refine r_getIe (pc := 35) C fl_X5_174 T.2 rfl k6 dX5_takeBarrier_35 ?_
          refine n_if_ne (pc := 38) (tgt := 87) C (by omega) dX5_takeBarrier_38 (by decide) (fun c38 => absurd c38 (by omega)) (fun c38 => ?_)
          refine r_aload_n (pc := 41) C dX5_takeBarrier_41 rfl rfl ?_
          refine r_getIe (pc := 42) C fl_X5_316 L.2.1 rfl k7 dX5_takeBarrier_42 ?_
          refine n_if_ne (pc := 45) (tgt := 55) C (by omega) dX5_takeBarrier_45 (by decide) (fun c45 => absurd c45 (fun z => hlo (Or.inl z))) (fun c45 => ?_)
          refine r_aload_n (pc := 48) C dX5_takeBarrier_48 rfl rfl ?_
          refine r_getIe (pc := 49) C fl_X5_49 E.L.o rfl (show _ = tI t 0 0 from E.bnd) dX5_takeBarrier_49 ?_
          refine r_if_ne (pc := 52) (tgt := 65) C dX5_takeBarrier_52 (by decide) (fun c52 => ?_) (fun c52 => absurd c52 (fun z => hlo (Or.inr z)))
          refine r_aload (pc := 65) C dX5_takeBarrier_65 rfl ?_
          refine r_getIe (pc := 67) C fl_X5_182 T.2 rfl KT.2.1 dX5_takeBarrier_67 ?_
          refine r_aload_n (pc := 70) C dX5_takeBarrier_70 rfl rfl ?_
          refine r_iload_n (pc := 71) C dX5_takeBarrier_71 rfl rfl ?_
          refine r_iconst (pc := 72) (v := (nI 1)) C dX5_takeBarrier_72 (by decide) ?_
          refine n_isub (pc := 73) C (by omega) dX5_takeBarrier_73 ?_
          refine r_calli (cr_V (pc := 74) C (c_X5_widthOf E B1 _) dX5_takeBarrier_74 cm_X5_widthOf ml_X5_110 im_X5_widthOf se_X5_widthOf E.L.o rfl ⟨⟨Nat.le_of_ble_eq_true rfl, Nat.le_of_ble_eq_true rfl⟩, Nat.le_of_ble_eq_true rfl, Nat.le_of_ble_eq_true rfl⟩ rfl rfl (Nat.le_of_ble_eq_true rfl)) (fun v74 h74 hq74 => ?_)
          obtain ⟨rfl, rfl⟩ := hq74
          rw [W']
          refine n_icmp_ne (pc := 77) (tgt := 87) C (by omega) (by omega) dX5_takeBarrier_77 (by decide) (fun c77 => absurd c77 (fun z => z (D.mpr hac))) (fun c77 => ?_)
          refine r_aload_n (pc := 80) C dX5_takeBarrier_80 rfl rfl ?_
          refine r_iload_n (pc := 81) C dX5_takeBarrier_81 rfl rfl ?_
          refine r_iload_n (pc := 82) C dX5_takeBarrier_82 rfl rfl ?_
          refine r_iconst (pc := 83) (v := (nI 0)) C dX5_takeBarrier_83 (by decide) ?_
          refine r_callv (cr_V (pc := 84) C (c_X5_takePart E B1 hu U1 V1 hs hq (lo := 0) (by decide)) dX5_takeBarrier_84 cm_X5_takePart ml_X5_116 im_X5_takePart se_X5_takePart E.L.o rfl ⟨⟨Nat.le_of_ble_eq_true rfl, Nat.le_of_ble_eq_true rfl⟩, Nat.le_of_ble_eq_true rfl, Nat.le_of_ble_eq_true rfl⟩ rfl rfl (Nat.le_of_ble_eq_true rfl)) (fun h84 hq84 => ?_)
          obtain ⟨⟨e2, E2, H2⟩, f2⟩ := hq84
          have E := E2
          exact t87 _ e2 _ E2 (B1.part (by omega) (by omega)) H2 (f1.tr f2) es
        · have es : ∃ t2, spCame1 (uN (uN t 5 c 1) 4 c 0) s q c = t2 ∧ TB t2 ∧ RX x m t2 e1 h1 ∧ Ext t2 e1 := by
            unfold spCame1
            rw [cif_t (show tN (uN (uN t 5 c 1) 4 c 0) 6 (4 * s + q) = 0 from h6), u1, Nat.add_sub_cancel, cif_f (show ¬ (tN (uN (uN t 5 c 1) 4 c 0) 12 (48 * j + c) ≠ 0 ∨ tI (uN (uN t 5 c 1) 4 c 0) 0 0 = 0) from hlo), cif_f hac]
            by_cases h7 : tN t 7 (4 * s + q) = 0
            · rw [cif_t (show tN (uN (uN t 5 c 1) 4 c 0) 7 (4 * s + q) = 0 from h7)]
              refine ⟨_, rfl, (B1.p7 (by decide)).pI, E, ?_⟩
              have n0 : xN e 2 (4 * s + q) = 0 := Decidable.byContradiction (fun z => H7.1.mpr ⟨z, h6⟩ h7)
              refine EU.ext (t := uI (uN (uN (uN t 5 c 1) 4 c 0) 7 (4 * s + q) 1) 1 (4 * s + q) (tI (uN (uN t 5 c 1) 4 c 0) 0 1)) (j := j) (U1.cg rfl rfl rfl rfl rfl rfl rfl rfl rfl rfl) ⟨fun s' q' h1 h2 => ?_, fun s' q' h1 h2 => ?_⟩ hu
              · rw [cmN_cg (t := uN (uN t 5 c 1) 4 c 0) (t' := uI (uN (uN (uN t 5 c 1) 4 c 0) 7 (4 * s + q) 1) 1 (4 * s + q) (tI (uN (uN t 5 c 1) 4 c 0) 0 1)) rfl]; exact V1.1 s' q' h1 h2
              · show (tN (uN (uN (uN t 5 c 1) 4 c 0) 7 (4 * s + q) 1) 7 (4 * s' + q') ≠ 0 ↔ (xN e1 2 (4 * s' + q') ≠ 0 ∧ tN t 6 (4 * s' + q') = 0)) ∧ (tN (uN (uN (uN t 5 c 1) 4 c 0) 7 (4 * s + q) 1) 7 (4 * s' + q') ≠ 0 → xI e1 0 (4 * s' + q') = tI (uI t 1 (4 * s + q) (tI t 0 1)) 1 (4 * s' + q'))
                rw [tN_uN, tI_uI]
                by_cases hne : 4 * s' + q' = 4 * s + q
                · rw [if_pos ⟨rfl, hne⟩, if_pos ⟨rfl, hne⟩, hne, x2, if_pos rfl, x4, if_pos n0]
                  exact ⟨⟨fun _ => ⟨by omega, h6⟩, fun _ => by decide⟩, fun _ => rfl⟩
                · rw [if_neg (fun z => hne z.2), if_neg (fun z => hne z.2)]
                  exact V1.2 s' q' h1 h2 hne
            · rw [cif_f (show ¬ tN (uN (uN t 5 c 1) 4 c 0) 7 (4 * s + q) = 0 from h7)]
              refine ⟨_, rfl, B1, E, ?_⟩
              have n0 := (H7.1.mp h7).1
              refine EU.ext (j := j) U1 ⟨V1.1, fun s' q' h1 h2 => ?_⟩ hu
              by_cases hne : 4 * s' + q' = 4 * s + q
              · rw [hne, x2, if_pos rfl, x4, if_neg n0]
                exact ⟨⟨fun _ => ⟨by omega, h6⟩, fun _ => h7⟩, fun _ => H7.2 h7⟩
              · exact V1.2 s' q' h1 h2 hne
          obtain ⟨t2, es, B2, E2, H2⟩ := es
          refine r_aload (pc := 33) C dX5_takeBarrier_33 rfl ?_
          refine r_getIe (pc := 35) C fl_X5_174 T.2 rfl k6 dX5_takeBarrier_35 ?_
          refine n_if_ne (pc := 38) (tgt := 87) C (by omega) dX5_takeBarrier_38 (by decide) (fun c38 => absurd c38 (by omega)) (fun c38 => ?_)
          refine r_aload_n (pc := 41) C dX5_takeBarrier_41 rfl rfl ?_
          refine r_getIe (pc := 42) C fl_X5_316 L.2.1 rfl k7 dX5_takeBarrier_42 ?_
          refine n_if_ne (pc := 45) (tgt := 55) C (by omega) dX5_takeBarrier_45 (by decide) (fun c45 => absurd c45 (fun z => hlo (Or.inl z))) (fun c45 => ?_)
          refine r_aload_n (pc := 48) C dX5_takeBarrier_48 rfl rfl ?_
          refine r_getIe (pc := 49) C fl_X5_49 E.L.o rfl (show _ = tI t 0 0 from E.bnd) dX5_takeBarrier_49 ?_
          refine r_if_ne (pc := 52) (tgt := 65) C dX5_takeBarrier_52 (by decide) (fun c52 => ?_) (fun c52 => absurd c52 (fun z => hlo (Or.inr z)))
          refine r_aload (pc := 65) C dX5_takeBarrier_65 rfl ?_
          refine r_getIe (pc := 67) C fl_X5_182 T.2 rfl KT.2.1 dX5_takeBarrier_67 ?_
          refine r_aload_n (pc := 70) C dX5_takeBarrier_70 rfl rfl ?_
          refine r_iload_n (pc := 71) C dX5_takeBarrier_71 rfl rfl ?_
          refine r_iconst (pc := 72) (v := (nI 1)) C dX5_takeBarrier_72 (by decide) ?_
          refine n_isub (pc := 73) C (by omega) dX5_takeBarrier_73 ?_
          refine r_calli (cr_V (pc := 74) C (c_X5_widthOf E B1 _) dX5_takeBarrier_74 cm_X5_widthOf ml_X5_110 im_X5_widthOf se_X5_widthOf E.L.o rfl ⟨⟨Nat.le_of_ble_eq_true rfl, Nat.le_of_ble_eq_true rfl⟩, Nat.le_of_ble_eq_true rfl, Nat.le_of_ble_eq_true rfl⟩ rfl rfl (Nat.le_of_ble_eq_true rfl)) (fun v74 h74 hq74 => ?_)
          obtain ⟨rfl, rfl⟩ := hq74
          rw [W']
          refine n_icmp_ne (pc := 77) (tgt := 87) C (by omega) (by omega) dX5_takeBarrier_77 (by decide) (fun c77 => ?_) (fun c77 => absurd c77 (fun z => hac (D.mp z)))
          exact t87 _ e1 _ E2 B2 H2 f1 es
    · have es : spCame1 (uN (uN t 5 c 1) 4 c 0) s q c = uN (uN t 5 c 1) 4 c 0 := cif_f (show ¬ tN (uN (uN t 5 c 1) 4 c 0) 6 (4 * s + q) = 0 from h6)
      have H1 : Ext (uN (uN t 5 c 1) 4 c 0) e1 := by
        refine EU.ext (j := j) U1 ⟨V1.1, fun s' q' h1 h2 => ?_⟩ hu
        by_cases hne : 4 * s' + q' = 4 * s + q
        · rw [hne]
          have z7 : ¬ tN t 7 (4 * s + q) ≠ 0 := fun z => h6 (H7.1.mp z).2
          exact ⟨⟨fun z => absurd z z7, fun z => absurd z.2 h6⟩, fun z => absurd z z7⟩
        · exact V1.2 s' q' h1 h2 hne
      refine r_aload (pc := 33) C dX5_takeBarrier_33 rfl ?_
      refine r_getIe (pc := 35) C fl_X5_174 T.2 rfl k6 dX5_takeBarrier_35 ?_
      refine n_if_ne (pc := 38) (tgt := 87) C (by omega) dX5_takeBarrier_38 (by decide) (fun c38 => ?_) (fun c38 => absurd c38 h6)
      exact t87 _ e1 _ E B1 H1 f1 es
  refine r_aload_n (pc := 0) C dX5_takeBarrier_0 rfl rfl ?_
  refine r_iload_n (pc := 1) C dX5_takeBarrier_1 rfl rfl ?_
  refine r_iload_n (pc := 2) C dX5_takeBarrier_2 rfl rfl ?_
  refine r_callq (cr_V (pc := 3) C (c_X5_taskAt E B _ _) dX5_takeBarrier_3 cm_X5_taskAt ml_X5_103 im_X5_taskAt se_X5_taskAt E.L.o rfl ⟨⟨Nat.le_of_ble_eq_true rfl, Nat.le_of_ble_eq_true rfl⟩, Nat.le_of_ble_eq_true rfl, Nat.le_of_ble_eq_true rfl⟩ rfl rfl (Nat.le_of_ble_eq_true rfl)) (fun v3 h3 hq3 => ?_)
  obtain ⟨rfl, rfl⟩ := hq3
  rw [tkA_n B hs hq]
  refine r_astore (pc := 6) (lv' := [_, _, _, _, _]) C dX5_takeBarrier_6 (by decide) rfl rfl ?_
  refine r_aload (pc := 8) C dX5_takeBarrier_8 rfl ?_
  refine r_ifnonnull (pc := 10) (tgt := 14) C dX5_takeBarrier_10 (by decide) ?_
  refine r_aload_n (pc := 14) C dX5_takeBarrier_14 rfl rfl ?_
  refine r_iconst (pc := 15) (v := (-1)) C dX5_takeBarrier_15 (by decide) ?_
  refine r_putI (pc := 16) C fl_X5_192 L.2.1 rfl rfl rfl rfl dX5_takeBarrier_16 ?_
  have E := E.p_bar hc 0 (z := -1) (by decide)
  refine r_aload_n (pc := 19) C dX5_takeBarrier_19 rfl rfl ?_
  refine r_iconst (pc := 20) (v := (nI 1)) C dX5_takeBarrier_20 (by decide) ?_
  refine r_putI (pc := 21) C fl_X5_195 (show hS h3 (x + 15 + c) = _ from L.2.1) rfl rfl rfl rfl dX5_takeBarrier_21 ?_
  have E := RX.eq (E.p_came (c := c) hc 1) ht1 rfl
  refine r_aload (pc := 24) C dX5_takeBarrier_24 rfl ?_
  refine r_aload_n (pc := 26) C dX5_takeBarrier_26 rfl rfl ?_
  refine r_getIe (pc := 27) C fl_X5_43 E.L.o rfl (show _ = tI t 0 1 from E.turns) dX5_takeBarrier_27 ?_
  refine r_callv (cr_V (pc := 30) C (c_X4_barrierCame (n := xN e 2 (4 * s + q)) (show hS h3 (x + 16 * tN t 0 0 + (4 * s + q)) = (0, 4) from T.2) (show _ = nI (xN e 2 (4 * s + q)) from (E.k_tk (4 * s + q) hi).2.1) (by omega)) dX5_takeBarrier_30 cm_X4_barrierCame ml_X5_313 im_X4_barrierCame se_X4_barrierCame (show hS h3 (x + 16 * tN t 0 0 + (4 * s + q)) = (0, 4) from T.2) rfl ⟨⟨Nat.le_of_ble_eq_true rfl, Nat.le_of_ble_eq_true rfl⟩, Nat.le_of_ble_eq_true rfl, Nat.le_of_ble_eq_true rfl⟩ rfl rfl (Nat.le_of_ble_eq_true rfl)) (fun h30 hq30 => ?_)
  subst hq30
  refine t33 _ ?_ ?_
  · rw [he1]
    by_cases n0 : xN e 2 (4 * s + q) = 0
    · rw [if_pos n0, if_pos n0]
      exact (E.p_fc (i := 4 * s + q) hi (tI t 0 1)).p_cm (i := 4 * s + q) hi _
    · rw [if_neg n0, if_neg n0]
      exact E.p_cm (i := 4 * s + q) hi _
  · have g : Fq (Px m) h3 (pI (pI h3 (x + 15 + c) 5 (-1)) (x + 15 + c) 6 (nI 1)) := (Fq.rf.pI (Or.inl (by omega))).pI (Or.inl (by omega))
    by_cases n0 : xN e 2 (4 * s + q) = 0
    · rw [if_pos n0]; exact (g.pI (Or.inl (by omega))).pI (Or.inl (by omega))
    · rw [if_neg n0]; exact g.pI (Or.inl (by omega))
end CB65
