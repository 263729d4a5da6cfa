/-! ===== the class: taking part, a barrier comes ===== -/
/-- as ExtB, but for the waiting of one task -/
def ExtC (s0 q0 : Nat) (t : TS) (e : ES) : Prop :=
  (∀ s q, s < tN t 0 0 → q < 4 → xN e 2 (4 * s + q) = if s = 0 then 0 else cmN t s q (tN t 1 (s - 1))) ∧
  ∀ s q, s < tN t 0 0 → q < 4 → 4 * s + q ≠ 4 * s0 + q0 → (tN t 7 (4 * s + q) ≠ 0 ↔ (xN e 2 (4 * s + q) ≠ 0 ∧ tN t 6 (4 * s + q) = 0)) ∧ (tN t 7 (4 * s + q) ≠ 0 → xI e 0 (4 * s + q) = tI t 1 (4 * s + q))
theorem ExtB.C {t : TS} {e : ES} (V : ExtB t e) {s q : Nat} : ExtC s q t e := ⟨V.1, fun s' q' h1 h2 _ => V.2 s' q' h1 h2⟩
section CC64
variable {G : GP} {x m : Nat} {t : TS} {e : ES} {h : AH}
theorem c_X5_takePart (E : RX x m t e h) (B : TB t) {j s q lo : Nat} (hu : tN t 0 5 = j + 1) (U : EU j t e) (V : ExtC s q t e) (hs : s < tN t 0 0) (hq : q < tN t 1 s) (hlo : lo ≤ 1) : MA G mX5_takePart 3 0 0 [.ref x, .int (nI s), .int (nI q), .int (nI lo)] h (Ov (XT x m h (spPart t s q lo))) := by
  have b := E.L.b
  have bS := B.S
  have b1 := B.P (s := s) (by omega)
  have bu := B.uw
  have bm := B.marks
  have hj : j < tN t 0 4 := by omega
  have hi : 4 * s + q < 4 * tN t 0 0 := by omega
  have M := E.L.M hj
  have T := E.L.tk hi
  have e0 : spPart t s q lo = spTo j s q lo (wdI t (nI (s + 1))) 0 (spSave (uN (uN t 6 (4 * s + q) 1) 7 (4 * s + q) 0) j s q) := by
    unfold spPart
    rw [hu, Nat.add_sub_cancel]
    by_cases h1 : s + 1 < tN t 0 0
    · rw [if_pos h1, wdI_n B h1]
    · rw [if_neg h1, wdI_0 B (by omega) (by omega)]; rfl
  have BT : TB (spSave (uN (uN t 6 (4 * s + q) 1) 7 (4 * s + q) 0) j s q) := ((B.p6 (by decide)).p7 (by decide)).save
  have UT : EU j (spSave (uN (uN t 6 (4 * s + q) 1) 7 (4 * s + q) 0) j s q) e := U.cg rfl rfl rfl rfl rfl rfl rfl rfl rfl rfl
  have VT : ExtB (spSave (uN (uN t 6 (4 * s + q) 1) 7 (4 * s + q) 0) j s q) e := by
    refine ⟨fun s' q' h1 h2 => ?_, fun s' q' h1 h2 => ?_⟩
    · rw [cmN_cg (t := t) (t' := spSave (uN (uN t 6 (4 * s + q) 1) 7 (4 * s + q) 0) j s q) rfl]; exact V.1 s' q' h1 h2
    · show (tN (uN (uN t 6 (4 * s + q) 1) 7 (4 * s + q) 0) 7 (4 * s' + q') ≠ 0 ↔ (xN e 2 (4 * s' + q') ≠ 0 ∧ tN (uN t 6 (4 * s + q) 1) 6 (4 * s' + q') = 0)) ∧ (tN (uN (uN t 6 (4 * s + q) 1) 7 (4 * s + q) 0) 7 (4 * s' + q') ≠ 0 → xI e 0 (4 * s' + q') = tI t 1 (4 * s' + q'))
      simp only [tN_uN]
      by_cases hne : 4 * s' + q' = 4 * s + q
      · simp [hne]
      · have := V.2 s' q' h1 h2 hne
        simpa [hne] using this
  refine MA.intro (lv := [some (.ref x), some (.int (nI s)), some (.int (nI q)), some (.int (nI lo)), none, none, none, none]) (by decide) (Nat.le_of_ble_eq_true rfl) rfl (fun F C => ?_)
  rw [e0]
  have t54 : ∀ h', RX x m (spSave (uN (uN t 6 (4 * s + q) 1) 7 (4 * s + q) 0) j s q) e h' → Fq (Px m) h h' → WA G F mX5_takePart h' 0 0 (MQA G F 0 0 (Ov (XT x m h (spTo j s q lo (wdI t (nI (s + 1))) 0 (spSave (uN (uN t 6 (4 * s + q) 1) 7 (4 * s + q) 0) j s q))))) 54 [some (.ref x), some (.int (nI s)), some (.int (nI q)), some (.int (nI lo)), some (.ref (m + 24 + 7 * j)), some (.ref (x + 16 * tN t 0 0 + (4 * s + q))), none, none] [] := by
    intro h' E f
    refine r_iconst (pc := 54) (v := (nI 0)) C dX5_takePart_54 (by decide) ?_
    refine r_istore (pc := 55) (lv' := [_, _, _, _, _, _, _, _]) C dX5_takePart_55 (by decide) rfl rfl ?_
    exact part_l (S := tN t 0 0) (Ps := tN t 1) C hs hq hlo rfl (wdI t (nI (s + 1))) 0 (spSave (uN (uN t 6 (4 * s + q) 1) 7 (4 * s + q) 0) j s q) e h' _ rfl rfl (Nat.zero_add _) E BT hu UT VT f rfl
  refine r_aload_n (pc := 0) C dX5_takePart_0 rfl rfl ?_
  refine r_aload_n (pc := 1) C dX5_takePart_1 rfl rfl ?_
  refine r_getIe (pc := 2) C fl_X5_40 E.L.o rfl E.uw dX5_takePart_2 ?_
  refine r_callq (cr_V (pc := 5) C (c_X5_markAt E B _) dX5_takePart_5 cm_X5_markAt ml_X5_124 im_X5_markAt se_X5_markAt E.L.o rfl ⟨⟨Nat.le_of_ble_eq_true rfl, Nat.le_of_ble_eq_true rfl⟩, Nat.le_of_ble_eq_true rfl, Nat.le_of_ble_eq_true rfl⟩ rfl rfl (Nat.le_of_ble_eq_true rfl)) (fun v5 h5 hq5 => ?_)
  obtain ⟨rfl, rfl⟩ := hq5
  rw [uwS hu, mkA_n B hj]
  refine r_astore (pc := 8) (lv' := [_, _, _, _, _, _, _, _]) C dX5_takePart_8 (by decide) rfl rfl ?_
  refine r_aload_n (pc := 10) C dX5_takePart_10 rfl rfl ?_
  refine r_iload_n (pc := 11) C dX5_takePart_11 rfl rfl ?_
  refine r_iload_n (pc := 12) C dX5_takePart_12 rfl rfl ?_
  refine r_callq (cr_V (pc := 13) C (c_X5_taskAt E B _ _) dX5_takePart_13 cm_X5_taskAt ml_X5_103 im_X5_taskAt se_X5_taskAt E.L.o rfl ⟨⟨Nat.le_of_ble_eq_true rfl, Nat.le_of_ble_eq_true rfl⟩, Nat.le_of_ble_eq_true rfl, Nat.le_of_ble_eq_true rfl⟩ rfl rfl (Nat.le_of_ble_eq_true rfl)) (fun v13 h13 hq13 => ?_)
  obtain ⟨rfl, rfl⟩ := hq13
  rw [tkA_n B hs hq]
  refine r_astore (pc := 16) (lv' := [_, _, _, _, _, _, _, _]) C dX5_takePart_16 (by decide) rfl rfl ?_
  refine r_aload (pc := 18) C dX5_takePart_18 rfl ?_
  refine r_ifnull (pc := 20) C dX5_takePart_20 ?_
  refine r_aload (pc := 23) C dX5_takePart_23 rfl ?_
  refine r_ifnonnull (pc := 25) (tgt := 29) C dX5_takePart_25 (by decide) ?_
  refine r_aload (pc := 29) C dX5_takePart_29 rfl ?_
  refine r_iconst (pc := 31) (v := (nI 1)) C dX5_takePart_31 (by decide) ?_
  refine r_putI (pc := 32) C fl_X5_174 T.2 rfl rfl rfl rfl dX5_takePart_32 ?_
  have E1 := E.p_took hi 1
  refine r_aload (pc := 35) C dX5_takePart_35 rfl ?_
  refine r_getR (pc := 37) C fl_X5_139 (show hS h13 (m + 24 + 7 * j) = _ from M.1) rfl (show hR h13 (m + 24 + 7 * j) 2 = _ from M.2.2.2.1) dX5_takePart_37 ?_
  refine r_aload_n (pc := 40) C dX5_takePart_40 rfl rfl ?_
  refine r_getR (pc := 41) C fl_X5_23 (show hS h13 x = _ from E.L.o) rfl (show hR h13 x 3 = _ from E.L.r3) dX5_takePart_41 ?_
  refine r_iload_n (pc := 44) C dX5_takePart_44 rfl rfl ?_
  refine r_iload_n (pc := 45) C dX5_takePart_45 rfl rfl ?_
  refine r_aload_n (pc := 46) C dX5_takePart_46 rfl rfl ?_
  refine r_iload_n (pc := 47) C dX5_takePart_47 rfl rfl ?_
  refine r_calli (cr_V (pc := 48) C (c_X5_widthOf E1 (B.p6 (by decide)) _) dX5_takePart_48 cm_X5_widthOf ml_X5_110 im_X5_widthOf se_X5_widthOf (show hS h13 x = _ from E.L.o) rfl ⟨⟨Nat.le_of_ble_eq_true rfl, Nat.le_of_ble_eq_true rfl⟩, Nat.le_of_ble_eq_true rfl, Nat.le_of_ble_eq_true rfl⟩ rfl rfl (Nat.le_of_ble_eq_true rfl)) (fun v48 h48 hq48 => ?_)
  obtain ⟨rfl, rfl⟩ := hq48
  rw [wdI_n (t := uN t 6 (4 * s + q) 1) (B.p6 (by decide)) hs]
  refine r_callv (cr_V (pc := 51) C (c_X3_copyOwned (a := m + 24 + 7 * j + 1) (b := x + 6) (w := tN t 1 s) (show T3 (m + 24 + 7 * j + 1) _ from M.2.2.2.2.1) (show T3 (x + 6) _ from E.L.T) (by omega) (by omega) b1 (by omega)) dX5_takePart_51 cm_X3_copyOwned ml_X5_322 im_X3_copyOwned se_X3_copyOwned (show hS h13 (m + 24 + 7 * j + 1) = (0, 3) from M.2.2.2.2.1.1) rfl ⟨⟨Nat.le_of_ble_eq_true rfl, Nat.le_of_ble_eq_true rfl⟩, Nat.le_of_ble_eq_true rfl, Nat.le_of_ble_eq_true rfl⟩ rfl rfl (Nat.le_of_ble_eq_true rfl)) (fun h51 hq51 => ?_)
  obtain ⟨f2, g1, g2⟩ := hq51
  have E2 := E1.g_save (j := j) hj (p := fun i => if 64 * j + 16 * s ≤ i ∧ i < 64 * j + 16 * s + 16 ∧ (i - (64 * j + 16 * s)) % tN t 1 s = q then tN t 3 (i - 64 * j) else tN t 11 i) (q := fun i => if 64 * j + 16 * s ≤ i ∧ i < 64 * j + 16 * s + 16 ∧ (i - (64 * j + 16 * s)) % tN t 1 s = q then tL t 1 (i - 64 * j) else tL t 2 i) ?_ ?_ ?_ (f2.wd (fun z hz => hz))
  · exact t54 _ E2 ((Fq.rf.pI (Or.inl (by omega))).tr (f2.wd (fun z hz => Or.inr (by omega))))
  · intro i hi2
    refine (congrFun g1 i).trans ?_
    unfold cpO
    rw [hI_ne (by omega), hI_ne (by omega)]
    by_cases hc : 16 * s ≤ i ∧ i < 16 * s + 16 ∧ (i - 16 * s) % tN t 1 s = q
    · rw [if_pos hc, if_pos (by refine ⟨by omega, by omega, ?_⟩; rw [show 64 * j + i - (64 * j + 16 * s) = i - 16 * s by omega]; exact hc.2.2), show 64 * j + i - 64 * j = i by omega]
      exact E.k_many i hi2
    · rw [if_neg hc, if_neg (fun z => hc (by refine ⟨by omega, by omega, ?_⟩; have := z.2.2; rw [show 64 * j + i - (64 * j + 16 * s) = i - 16 * s by omega] at this; exact this))]
      exact E.k_mt j hj i hi2
  · intro i hi2
    refine (congrFun g2 i).trans ?_
    unfold cpO
    rw [hL_pI]
    by_cases hc : 16 * s ≤ i ∧ i < 16 * s + 16 ∧ (i - 16 * s) % tN t 1 s = q
    · rw [if_pos hc, if_pos (by refine ⟨by omega, by omega, ?_⟩; rw [show 64 * j + i - (64 * j + 16 * s) = i - 16 * s by omega]; exact hc.2.2), show 64 * j + i - 64 * j = i by omega]
      exact E.k_sum i hi2
    · rw [if_neg hc, if_neg (fun z => hc (by refine ⟨by omega, by omega, ?_⟩; have := z.2.2; rw [show 64 * j + i - (64 * j + 16 * s) = i - 16 * s by omega] at this; exact this))]
      exact E.k_ms j hj i hi2
  · intro i hi2
    exact ⟨if_neg (fun z => hi2 (by omega)), if_neg (fun z => hi2 (by omega))⟩
  skip
theorem wdI_pred (B : TB t) {s : Nat} (hs : s < tN t 0 0) : wdI t (nI s - nI 1) = if s = 0 then 0 else tN t 1 (s - 1) := by
  have b := B.S
  by_cases h0 : s = 0
  · subst h0
    rw [if_pos rfl, show nI 0 - nI 1 = -1 by decide]
    exact cif_f (m1_no (by omega))
  · rw [if_neg h0, pk_sub (by omega), wdI_n B (by omega)]
theorem cmN_all (B : TB t) {s q : Nat} : ∀ n, cmN t s q n = n ↔ ∀ f, f < n → tN t 5 (16 * (s - 1) + 4 * f + q) = 1
  | 0 => ⟨fun _ f hf => absurd hf (Nat.not_lt_zero f), fun _ => rfl⟩
  | n + 1 => by
    have ih := cmN_all B (s := s) (q := q) n
    have hle := cmN_le B (s := s) (q := q) n
    have h1 := (B.bool (16 * (s - 1) + 4 * n + q)).1
    constructor
    · intro hc f hf
      unfold cmN at hc
      rcases Nat.lt_or_ge f n with z | z
      · exact ih.mp (by omega) f z
      · rw [show f = n by omega]; omega
    · intro hf
      unfold cmN
      rw [ih.mpr (fun f z => hf f (by omega)), hf n (by omega)]
theorem done_iff (B : TB t) (V : ExtB t e) {s q : Nat} (hs : s < tN t 0 0) (hq : q < tN t 1 s) : xN e 2 (4 * s + q) = (if s = 0 then 0 else tN t 1 (s - 1)) ↔ (s = 0 ∨ allC t s q) := by
  have b := B.S
  have b1 := B.P (s := s) (by omega)
  rw [V.1 s q hs (by omega)]
  by_cases h0 : s = 0
  · rw [if_pos h0, if_pos h0]; exact ⟨fun _ => Or.inl h0, fun _ => rfl⟩
  · rw [if_neg h0, if_neg h0, cmN_all B]
    exact ⟨fun z => Or.inr z, fun z => z.elim (fun y => absurd y h0) id⟩
section IC64
variable {F : FX} {Q : State → Prop}
theorem comp_l2 (C : CX G F mX5_isComplete (Rm 2 0 0)) (E : RX x m t e h) (B : TB t) (V : ExtB t e) {s : Nat} (hs : s < tN t 0 0)
    (kk : (∀ q, q < tN t 1 s → tN t 6 (4 * s + q) = 1 ∧ (s = 0 ∨ allC t s q)) → ∀ x2 x3, WA G F mX5_isComplete h 0 0 (MQA G F 0 0 (Oi (fun v h' => v = bI (allW t) ∧ h' = h))) 61 [some (.ref x), some (.int (nI s)), some (.int x2), x3] []) :
    ∀ (n q : Nat) (x3 : Option Value), q + n = tN t 1 s → (∀ q', q' < q → tN t 6 (4 * s + q') = 1 ∧ (s = 0 ∨ allC t s q')) → WA G F mX5_isComplete h 0 0 (MQA G F 0 0 (Oi (fun v h' => v = bI (allW t) ∧ h' = h))) 12 [some (.ref x), some (.int (nI s)), some (.int (nI q)), x3] [] := by
  have b := B.S
  have b1 := B.P (s := s) (by omega)
  intro n
  induction n with
  | zero =>
    intro q x3 hq hd
    refine r_iload_n (pc := 12) C dX5_isComplete_12 rfl rfl ?_
    refine r_aload_n (pc := 13) C dX5_isComplete_13 rfl rfl ?_
    refine r_iload_n (pc := 14) C dX5_isComplete_14 rfl rfl ?_
    refine r_calli (cr_V (pc := 15) C (c_X5_widthOf E B _) dX5_isComplete_15 cm_X5_widthOf ml_X5_110 im_X5_widthOf se_X5_widthOf E.L.o rfl ⟨⟨Nat.le_of_ble_eq_true rfl, Nat.le_of_ble_eq_true rfl⟩, Nat.le_of_ble_eq_true rfl, Nat.le_of_ble_eq_true rfl⟩ rfl rfl (Nat.le_of_ble_eq_true rfl)) (fun v15 h15 hq15 => ?_)
    obtain ⟨rfl, rfl⟩ := hq15
    rw [wdI_n B hs]
    refine n_icmp_ge (pc := 18) (tgt := 61) C (by omega) (by omega) dX5_isComplete_18 (by decide) (fun c18 => ?_) (fun c18 => absurd c18 (by omega))
    exact kk (fun q' hq' => hd q' (by omega)) _ _
  | succ n ih =>
    intro q x3 hq hd
    have hi : 4 * s + q < 4 * tN t 0 0 := by omega
    have T := E.L.tk hi
    have K := E.k_tk _ hi
    have b6 := B.bool (4 * s + q)
    have D := done_iff B V hs (q := q) (by omega)
    have bc : xN e 2 (4 * s + q) ≤ 4 := by
      rw [V.1 s q hs (by omega)]
      split
      · omega
      · have := cmN_le B (s := s) (q := q) (tN t 1 (s - 1)); have := B.P (s := s - 1) (by omega); omega
    have bw := wdI_le B (z := nI s - nI 1)
    have W := wdI_pred B hs
    have no : ¬ (tN t 6 (4 * s + q) = 1 ∧ (s = 0 ∨ allC t s q)) → ¬ allW t := fun z y => z (y s hs q (by omega))
    refine r_iload_n (pc := 12) C dX5_isComplete_12 rfl rfl ?_
    refine r_aload_n (pc := 13) C dX5_isComplete_13 rfl rfl ?_
    refine r_iload_n (pc := 14) C dX5_isComplete_14 rfl rfl ?_
    refine r_calli (cr_V (pc := 15) C (c_X5_widthOf E B _) dX5_isComplete_15 cm_X5_widthOf ml_X5_110 im_X5_widthOf se_X5_widthOf E.L.o rfl ⟨⟨Nat.le_of_ble_eq_true rfl, Nat.le_of_ble_eq_true rfl⟩, Nat.le_of_ble_eq_true rfl, Nat.le_of_ble_eq_true rfl⟩ rfl rfl (Nat.le_of_ble_eq_true rfl)) (fun v15 h15 hq15 => ?_)
    obtain ⟨rfl, rfl⟩ := hq15
    rw [wdI_n B hs]
    refine n_icmp_ge (pc := 18) (tgt := 61) C (by omega) (by omega) dX5_isComplete_18 (by decide) (fun c18 => absurd c18 (by omega)) (fun c18 => ?_)
    refine r_aload_n (pc := 21) C dX5_isComplete_21 rfl rfl ?_
    refine r_iload_n (pc := 22) C dX5_isComplete_22 rfl rfl ?_
    refine r_iload_n (pc := 23) C dX5_isComplete_23 rfl rfl ?_
    refine r_callq (cr_V (pc := 24) C (c_X5_taskAt E B _ _) dX5_isComplete_24 cm_X5_taskAt ml_X5_103 im_X5_taskAt se_X5_taskAt E.L.o rfl ⟨⟨Nat.le_of_ble_eq_true rfl, Nat.le_of_ble_eq_true rfl⟩, Nat.le_of_ble_eq_true rfl, Nat.le_of_ble_eq_true rfl⟩ rfl rfl (Nat.le_of_ble_eq_true rfl)) (fun v24 h24 hq24 => ?_)
    obtain ⟨rfl, rfl⟩ := hq24
    rw [tkA_n B hs (by omega)]
    refine r_astore_n (pc := 27) (lv' := [_, _, _, _]) C dX5_isComplete_27 rfl (by decide) rfl rfl ?_
    refine r_aload_n (pc := 28) C dX5_isComplete_28 rfl rfl ?_
    refine r_ifnull (pc := 29) C dX5_isComplete_29 ?_
    refine r_aload_n (pc := 32) C dX5_isComplete_32 rfl rfl ?_
    refine r_getIe (pc := 33) C fl_X5_174 T.2 rfl K.1 dX5_isComplete_33 ?_
    refine n_if_eq (pc := 36) (tgt := 53) C (by omega) dX5_isComplete_36 (by decide) (fun c36 => ?_) (fun c36 => ?_)
    · refine r_iconst (pc := 53) (v := (nI 0)) C dX5_isComplete_53 (by decide) ?_
      exact r_zret (pc := 54) C rfl (by first | exact bI_01 | exact Or.inl rfl | exact Or.inr rfl) (Nat.le_of_ble_eq_true rfl) (Nat.le_of_ble_eq_true rfl) ⟨_, rfl, ⟨ff0 (no (fun z => by first | omega | exact c50 ((D.mpr z.2).trans W.symm))), rfl⟩⟩ dX5_isComplete_54
    · refine r_aload_n (pc := 39) C dX5_isComplete_39 rfl rfl ?_
      refine r_getIe (pc := 40) C fl_X5_182 T.2 rfl K.2.1 dX5_isComplete_40 ?_
      refine r_aload_n (pc := 43) C dX5_isComplete_43 rfl rfl ?_
      refine r_iload_n (pc := 44) C dX5_isComplete_44 rfl rfl ?_
      refine r_iconst (pc := 45) (v := (nI 1)) C dX5_isComplete_45 (by decide) ?_
      refine r_isub (pc := 46) C dX5_isComplete_46 ?_
      refine r_calli (cr_V (pc := 47) C (c_X5_widthOf E B _) dX5_isComplete_47 cm_X5_widthOf ml_X5_110 im_X5_widthOf se_X5_widthOf E.L.o rfl ⟨⟨Nat.le_of_ble_eq_true rfl, Nat.le_of_ble_eq_true rfl⟩, Nat.le_of_ble_eq_true rfl, Nat.le_of_ble_eq_true rfl⟩ rfl rfl (Nat.le_of_ble_eq_true rfl)) (fun v47 h47 hq47 => ?_)
      obtain ⟨rfl, rfl⟩ := hq47
      refine n_icmp_eq (pc := 50) (tgt := 55) C (by omega) (by omega) dX5_isComplete_50 (by decide) (fun c50 => ?_) (fun c50 => ?_)
      · refine n_iinc (pc := 55) (lv' := [_, _, _, _]) C dX5_isComplete_55 rfl (by decide) rfl rfl ?_
        refine r_goto (pc := 58) (tgt := 12) C dX5_isComplete_58 (by decide) ?_
        refine ih (q + 1) _ (by omega) (fun q' hq' => ?_)
        rcases Nat.lt_or_ge q' q with z | z
        · exact hd q' z
        · rw [show q' = q by omega]; exact ⟨by omega, D.mp (c50.trans W)⟩
      · refine r_iconst (pc := 53) (v := (nI 0)) C dX5_isComplete_53 (by decide) ?_
        exact r_zret (pc := 54) C rfl (by first | exact bI_01 | exact Or.inl rfl | exact Or.inr rfl) (Nat.le_of_ble_eq_true rfl) (Nat.le_of_ble_eq_true rfl) ⟨_, rfl, ⟨ff0 (no (fun z => by first | omega | exact c50 ((D.mpr z.2).trans W.symm))), rfl⟩⟩ dX5_isComplete_54
theorem comp_l1 (C : CX G F mX5_isComplete (Rm 2 0 0)) (E : RX x m t e h) (B : TB t) (V : ExtB t e) :
    ∀ (n s : Nat) (x2 x3 : Option Value), s + n = tN t 0 0 → (∀ s', s' < s → ∀ q, q < tN t 1 s' → tN t 6 (4 * s' + q) = 1 ∧ (s' = 0 ∨ allC t s' q)) → WA G F mX5_isComplete h 0 0 (MQA G F 0 0 (Oi (fun v h' => v = bI (allW t) ∧ h' = h))) 2 [some (.ref x), some (.int (nI s)), x2, x3] [] := by
  have b := B.S
  intro n
  induction n with
  | zero =>
    intro s x2 x3 hs hd
    refine r_iload_n (pc := 2) C dX5_isComplete_2 rfl rfl ?_
    refine r_aload_n (pc := 3) C dX5_isComplete_3 rfl rfl ?_
    refine r_getIe (pc := 4) C fl_X5_64 E.L.o rfl E.S dX5_isComplete_4 ?_
    refine n_icmp_ge (pc := 7) (tgt := 67) C (by omega) (by omega) dX5_isComplete_7 (by decide) (fun c7 => ?_) (fun c7 => absurd c7 (by omega))
    refine r_iconst (pc := 67) (v := (nI 1)) C dX5_isComplete_67 (by decide) ?_
    exact r_zret (pc := 68) C rfl (by first | exact bI_01 | exact Or.inl rfl | exact Or.inr rfl) (Nat.le_of_ble_eq_true rfl) (Nat.le_of_ble_eq_true rfl) ⟨_, rfl, ⟨tt1 (fun s' hs' => hd s' (by omega)), rfl⟩⟩ dX5_isComplete_68
  | succ n ih =>
    intro s x2 x3 hs hd
    refine r_iload_n (pc := 2) C dX5_isComplete_2 rfl rfl ?_
    refine r_aload_n (pc := 3) C dX5_isComplete_3 rfl rfl ?_
    refine r_getIe (pc := 4) C fl_X5_64 E.L.o rfl E.S dX5_isComplete_4 ?_
    refine n_icmp_ge (pc := 7) (tgt := 67) C (by omega) (by omega) dX5_isComplete_7 (by decide) (fun c7 => absurd c7 (by omega)) (fun c7 => ?_)
    refine r_iconst (pc := 10) (v := (nI 0)) C dX5_isComplete_10 (by decide) ?_
    refine r_istore_n (pc := 11) (lv' := [_, _, _, _]) C dX5_isComplete_11 rfl (by decide) rfl rfl ?_
    refine comp_l2 C E B V (s := s) (by omega) (fun hk x2 x3 => ?_) (tN t 1 s) 0 _ (Nat.zero_add _) (fun q' hq' => absurd hq' (Nat.not_lt_zero q'))
    refine n_iinc (pc := 61) (lv' := [_, _, _, _]) C dX5_isComplete_61 rfl (by decide) rfl rfl ?_
    refine r_goto (pc := 64) (tgt := 2) C dX5_isComplete_64 (by decide) ?_
    refine ih (s + 1) _ _ (by omega) (fun s' hs' => ?_)
    rcases Nat.lt_or_ge s' s with z | z
    · exact hd s' z
    · rw [show s' = s by omega]; exact hk
end IC64
theorem c_X5_isComplete (E : RX x m t e h) (B : TB t) (V : ExtB t e) : MA G mX5_isComplete 2 0 0 [.ref x] h (Oi (fun v h' => v = bI (allW t) ∧ h' = h)) := by
  refine MA.intro (lv := [some (.ref x), none, none, none]) (by decide) (Nat.le_of_ble_eq_true rfl) rfl (fun F C => ?_)
  refine r_iconst (pc := 0) (v := (nI 0)) C dX5_isComplete_0 (by decide) ?_
  refine r_istore_n (pc := 1) (lv' := [_, _, _, _]) C dX5_isComplete_1 rfl (by decide) rfl rfl ?_
  exact comp_l1 C E B V (tN t 0 0) 0 _ _ (Nat.zero_add _) (fun s' hs' => absurd hs' (Nat.not_lt_zero s'))
end CC64
