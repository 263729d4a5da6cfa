/-! ===== the class: a turn ===== -/
section CT68
variable {G : GP} {x m : Nat} {t : TS} {e : ES} {h : AH}
/-- where the first channel with the barrier at its front stands -/
def barA (t : TS) (x s q : Nat) (o : Option Nat) : Option Nat := match o with
  | some f => some (x + 15 + (16 * (s - 1) + 4 * f + q))
  | none => none
theorem cwb_l {F : FX} (C : CX G F mX5_channelWithBarrier (Rm 2 0 0)) (E : RX x m t e h) (B : TB t) {s q : Nat} (hs1 : 1 ≤ s) (hs : s < tN t 0 0) (hq : q < tN t 1 s) {o : Option Nat} :
    ∀ (n f : Nat) (x4 : Option Value), f + n = tN t 1 (s - 1) → fstB t s q n f = o → WA G F mX5_channelWithBarrier h 0 0 (MQA G F 0 0 (Oq (fun v h' => v = barA t x s q o ∧ h' = h))) 2 [some (.ref x), some (.int (nI s)), some (.int (nI q)), some (.int (nI f)), x4] [] := by
  have b := B.S
  have b1 := B.P (s := s) (by omega)
  have b2 := B.P (s := s - 1) (by omega)
  have W := wdI_n B (s := s - 1) (by omega)
  intro n
  induction n with
  | zero =>
    intro f x4 hf ho
    refine r_iload_n (pc := 2) C dX5_channelWithBarrier_2 rfl rfl ?_
    refine r_aload_n (pc := 3) C dX5_channelWithBarrier_3 rfl rfl ?_
    refine r_iload_n (pc := 4) C dX5_channelWithBarrier_4 rfl rfl ?_
    refine r_iconst (pc := 5) (v := (nI 1)) C dX5_channelWithBarrier_5 (by decide) ?_
    refine n_isub (pc := 6) C (by omega) dX5_channelWithBarrier_6 ?_
    refine r_calli (cr_V (pc := 7) C (c_X5_widthOf E B _) dX5_channelWithBarrier_7 cm_X5_widthOf ml_X5_110 im_X5_widthOf se_X5_widthOf E.L.o rfl ⟨⟨Nat.le_of_ble_eq_true rfl, Nat.le_of_ble_eq_true rfl⟩, Nat.le_of_ble_eq_true rfl, Nat.le_of_ble_eq_true rfl⟩ rfl rfl (Nat.le_of_ble_eq_true rfl)) (fun v7 h7 hq7 => ?_)
    obtain ⟨rfl, rfl⟩ := hq7
    rw [W]
    refine n_icmp_ge (pc := 10) (tgt := 46) C (by omega) (by omega) dX5_channelWithBarrier_10 (by decide) (fun c10 => ?_) (fun c10 => absurd c10 (by omega))
    refine r_null (pc := 46) C dX5_channelWithBarrier_46 ?_
    exact r_aret (pc := 47) (o := none) C rfl (Or.inl ⟨_, rfl⟩) (Nat.le_of_ble_eq_true rfl) (Nat.le_of_ble_eq_true rfl) ⟨_, rfl, ⟨by rw [← ho]; rfl, rfl⟩⟩ dX5_channelWithBarrier_47
  | succ n ih =>
    intro f x4 hf ho
    have hcc : 16 * (s - 1) + 4 * f + q < 16 * (tN t 0 0 - 1) := by omega
    have L := E.L.ch hcc
    have K := E.k_ch _ hcc
    have bb := B.bar (16 * (s - 1) + 4 * f + q)
    have bl := B.len (16 * (s - 1) + 4 * f + q)
    have ec : chA t x (nI (s - 1)) (nI f) (nI q) = some (x + 15 + (16 * (s - 1) + 4 * f + q)) := chA_n B (g := s - 1) (by omega) (by omega) (by rw [show s - 1 + 1 = s by omega]; exact hq)
    unfold fstB at ho
    refine r_iload_n (pc := 2) C dX5_channelWithBarrier_2 rfl rfl ?_
    refine r_aload_n (pc := 3) C dX5_channelWithBarrier_3 rfl rfl ?_
    refine r_iload_n (pc := 4) C dX5_channelWithBarrier_4 rfl rfl ?_
    refine r_iconst (pc := 5) (v := (nI 1)) C dX5_channelWithBarrier_5 (by decide) ?_
    refine n_isub (pc := 6) C (by omega) dX5_channelWithBarrier_6 ?_
    refine r_calli (cr_V (pc := 7) C (c_X5_widthOf E B _) dX5_channelWithBarrier_7 cm_X5_widthOf ml_X5_110 im_X5_widthOf se_X5_widthOf E.L.o rfl ⟨⟨Nat.le_of_ble_eq_true rfl, Nat.le_of_ble_eq_true rfl⟩, Nat.le_of_ble_eq_true rfl, Nat.le_of_ble_eq_true rfl⟩ rfl rfl (Nat.le_of_ble_eq_true rfl)) (fun v7 h7 hq7 => ?_)
    obtain ⟨rfl, rfl⟩ := hq7
    rw [W]
    refine n_icmp_ge (pc := 10) (tgt := 46) C (by omega) (by omega) dX5_channelWithBarrier_10 (by decide) (fun c10 => absurd c10 (by omega)) (fun c10 => ?_)
    refine r_aload_n (pc := 13) C dX5_channelWithBarrier_13 rfl rfl ?_
    refine r_iload_n (pc := 14) C dX5_channelWithBarrier_14 rfl rfl ?_
    refine r_iconst (pc := 15) (v := (nI 1)) C dX5_channelWithBarrier_15 (by decide) ?_
    refine n_isub (pc := 16) C (by omega) dX5_channelWithBarrier_16 ?_
    refine r_iload_n (pc := 17) C dX5_channelWithBarrier_17 rfl rfl ?_
    refine r_iload_n (pc := 18) C dX5_channelWithBarrier_18 rfl rfl ?_
    refine r_callq (cr_V (pc := 19) C (c_X5_channelAt E B _ _ _) dX5_channelWithBarrier_19 cm_X5_channelAt ml_X5_185 im_X5_channelAt se_X5_channelAt E.L.o rfl ⟨⟨Nat.le_of_ble_eq_true rfl, Nat.le_of_ble_eq_true rfl⟩, Nat.le_of_ble_eq_true rfl, Nat.le_of_ble_eq_true rfl⟩ rfl rfl (Nat.le_of_ble_eq_true rfl)) (fun v19 h19 hq19 => ?_)
    obtain ⟨rfl, rfl⟩ := hq19
    rw [ec]
    refine r_astore (pc := 22) (lv' := [_, _, _, _, _]) C dX5_channelWithBarrier_22 (by decide) rfl rfl ?_
    refine r_aload (pc := 24) C dX5_channelWithBarrier_24 rfl ?_
    refine r_ifnull (pc := 26) C dX5_channelWithBarrier_26 ?_
    refine r_aload (pc := 29) C dX5_channelWithBarrier_29 rfl ?_
    refine r_getIe (pc := 31) C fl_X5_192 L.2.1 rfl K.2.2.2.2.1 dX5_channelWithBarrier_31 ?_
    refine r_if_ne (pc := 34) (tgt := 40) C dX5_channelWithBarrier_34 (by decide) (fun c34 => ?_) (fun c34 => ?_)
    · rw [if_neg (fun z => c34 ((bar_0 (by omega)).mpr z))] at ho
      refine n_iinc (pc := 40) (lv' := [_, _, _, _, _]) C dX5_channelWithBarrier_40 rfl (by decide) rfl rfl ?_
      refine r_goto (pc := 43) (tgt := 2) C dX5_channelWithBarrier_43 (by decide) ?_
      exact ih (f + 1) _ (by omega) ho
    · rw [if_pos ((bar_0 (by omega)).mp c34)] at ho
      refine r_aload (pc := 37) C dX5_channelWithBarrier_37 rfl ?_
      exact r_aret (pc := 39) (o := (some _)) C rfl (Or.inl ⟨_, rfl⟩) (Nat.le_of_ble_eq_true rfl) (Nat.le_of_ble_eq_true rfl) ⟨_, rfl, ⟨by rw [← ho]; rfl, rfl⟩⟩ dX5_channelWithBarrier_39
theorem c_X5_channelWithBarrier (E : RX x m t e h) (B : TB t) {s q : Nat} (hs1 : 1 ≤ s) (hs : s < tN t 0 0) (hq : q < tN t 1 s) : MA G mX5_channelWithBarrier 2 0 0 [.ref x, .int (nI s), .int (nI q)] h (Oq (fun v h' => v = barA t x s q (fstB t s q (tN t 1 (s - 1)) 0) ∧ h' = h)) := by
  refine MA.intro (lv := [some (.ref x), some (.int (nI s)), some (.int (nI q)), none, none]) (by decide) (Nat.le_of_ble_eq_true rfl) rfl (fun F C => ?_)
  refine r_iconst (pc := 0) (v := (nI 0)) C dX5_channelWithBarrier_0 (by decide) ?_
  refine r_istore_n (pc := 1) (lv' := [_, _, _, _, _]) C dX5_channelWithBarrier_1 rfl (by decide) rfl rfl ?_
  exact cwb_l C E B hs1 hs hq (tN t 1 (s - 1)) 0 _ (Nat.zero_add _) rfl
/-- a row can be taken from task f -/
def canT (t : TS) (s q f : Nat) : Prop := ¬ (tC t (16 * (s - 1) + 4 * f + q) = [] ∨ shut t s q (16 * (s - 1) + 4 * f + q)) ∧ ¬ (s + 1 < tN t 0 0 ∧ tN t 0 1 ≤ (tC t (outC t s q ((tC t (16 * (s - 1) + 4 * f + q)).headD 0))).length)
noncomputable def fstT (t : TS) (s q a : Nat) : Nat → Nat → Option Nat
  | 0, _ => none
  | n + 1, i => cif (canT t s q ((a + i) % tN t 1 (s - 1))) (some ((a + i) % tN t 1 (s - 1))) (fstT t s q a n (i + 1))
def fI (o : Option Nat) : Int32 := match o with
  | none => -1
  | some f => nI f
theorem fstB_none {s q : Nat} : ∀ n f, fstB t s q n f = none → ∀ f', f ≤ f' → f' < f + n → tN t 4 (16 * (s - 1) + 4 * f' + q) ≠ 1
  | 0, f, _, f', h1, h2 => by omega
  | n + 1, f, ho, f', h1, h2 => by
    unfold fstB at ho
    split at ho
    · cases ho
    · rename_i hne
      rcases Nat.lt_or_ge f f' with z | z
      · exact fstB_none n (f + 1) ho f' (by omega) (by omega)
      · rw [show f' = f by omega]; exact hne
theorem fstB_some {s q f0 : Nat} : ∀ n f, fstB t s q n f = some f0 → f ≤ f0 ∧ f0 < f + n ∧ tN t 4 (16 * (s - 1) + 4 * f0 + q) = 1
  | 0, f, ho => by cases ho
  | n + 1, f, ho => by
    unfold fstB at ho
    split at ho
    · rename_i hne
      injection ho with ho
      subst ho
      exact ⟨Nat.le_refl _, by omega, hne⟩
    · have := fstB_some n (f + 1) ho
      exact ⟨by omega, by omega, this.2.2⟩
theorem shut_iff (H : Ext t e) (hw : ∀ q, tN t 7 q ≠ 0 → tN t 0 5 ≠ 0) {s q c : Nat} (hs : s < tN t 0 0) (hq : q < 4) : (tN t 5 c ≠ 0 ∧ xN e 2 (4 * s + q) ≠ 0 ∧ tN t 6 (4 * s + q) = 0) ↔ shut t s q c := by
  have H7 := (H.2.2.2.2.2.2.1 s q hs hq).1
  exact ⟨fun z => ⟨hw _ (H7.mpr z.2), H7.mpr z.2, z.1⟩, fun z => ⟨z.2.2, H7.mp z.2.1⟩⟩
theorem home_out (HM : ∀ c r, r ∈ tC t c → ∃ g, g + 1 < tN t 0 0 ∧ c = home t g (tN t 2 r)) (B : TB t) {s q f r : Nat} (hs1 : 1 ≤ s) (hs : s < tN t 0 0) (hq : q < tN t 1 s) (hf : f < tN t 1 (s - 1)) (hr : r ∈ tC t (16 * (s - 1) + 4 * f + q)) : tN t 2 r % tN t 1 s = q ∧ home t s (tN t 2 r) = outC t s q r := by
  have b := B.S
  have b1 := B.P (s := s) (by omega)
  have b2 := B.P (s := s - 1) (by omega)
  obtain ⟨g, hg, hc⟩ := HM _ _ hr
  have m1 := B.P (s := g) (by omega)
  have m2 := B.P (s := g + 1) (by omega)
  have k1 := Nat.mod_lt (tN t 2 r) (show tN t 1 g > 0 by omega)
  have k2 := Nat.mod_lt (tN t 2 r) (show tN t 1 (g + 1) > 0 by omega)
  unfold home at hc
  have hgs : g = s - 1 := by omega
  subst hgs
  rw [show s - 1 + 1 = s by omega] at hc k2
  have hqq : tN t 2 r % tN t 1 s = q := by omega
  refine ⟨hqq, ?_⟩
  unfold home outC
  rw [hqq]
theorem ctt_l {F : FX} (C : CX G F mX5_channelToTake (Rm 4 0 0)) (E : RX x m t e h) (B : TB t) (H : Ext t e) (HM : ∀ c r, r ∈ tC t c → ∃ g, g + 1 < tN t 0 0 ∧ c = home t g (tN t 2 r)) (hw : ∀ q, tN t 7 q ≠ 0 → tN t 0 5 ≠ 0) {s q : Nat} (hs1 : 1 ≤ s) (hs : s < tN t 0 0) (hq : q < tN t 1 s) (hnb : ∀ f, f < tN t 1 (s - 1) → tN t 4 (16 * (s - 1) + 4 * f + q) ≠ 1) {o : Option Nat} :
    ∀ (n i : Nat) (x6 x7 : Option Value), i + n = tN t 1 (s - 1) → fstT t s q (tN t 8 (4 * s + q)) n i = o → WA G F mX5_channelToTake h 0 0 (MQA G F 0 0 (Oi (fun v h' => v = fI o ∧ h' = h))) 12 [some (.ref x), some (.ref (x + 16 * tN t 0 0 + (4 * s + q))), some (.int (nI s)), some (.int (nI q)), some (.int (nI (tN t 1 (s - 1)))), some (.int (nI i)), x6, x7] [] := by
  have b := B.S
  have b1 := B.P (s := s) (by omega)
  have b2 := B.P (s := s - 1) (by omega)
  have b8 := B.next (4 * s + q)
  have hi : 4 * s + q < 4 * tN t 0 0 := by omega
  have T := E.L.tk hi
  have KT := E.k_tk _ hi
  have bc := H.cm B hs (q := q) (by omega)
  intro n
  induction n with
  | zero =>
    intro i x6 x7 hin ho
    refine r_iload (pc := 12) C dX5_channelToTake_12 rfl ?_
    refine r_iload (pc := 14) C dX5_channelToTake_14 rfl ?_
    refine n_icmp_ge (pc := 16) (tgt := 90) C (by omega) (by omega) dX5_channelToTake_16 (by decide) (fun c16 => ?_) (fun c16 => absurd c16 (by omega))
    refine r_iconst (pc := 90) (v := (-1)) C dX5_channelToTake_90 (by decide) ?_
    exact r_iret (pc := 91) C rfl (Nat.le_of_ble_eq_true rfl) (Nat.le_of_ble_eq_true rfl) ⟨_, rfl, ⟨by rw [← ho]; rfl, rfl⟩⟩ dX5_channelToTake_91
  | succ n ih =>
    intro i x6 x7 hin ho
    have hfl := Nat.mod_lt (tN t 8 (4 * s + q) + i) (show tN t 1 (s - 1) > 0 by omega)
    obtain ⟨f, hf⟩ : ∃ f, f = (tN t 8 (4 * s + q) + i) % tN t 1 (s - 1) := ⟨_, rfl⟩
    rw [← hf] at hfl
    have hcc : 16 * (s - 1) + 4 * f + q < 16 * (tN t 0 0 - 1) := by omega
    have L := E.L.ch hcc
    have K := E.k_ch _ hcc
    have bb := B.bar (16 * (s - 1) + 4 * f + q)
    have bl := B.len (16 * (s - 1) + 4 * f + q)
    have ec : chA t x (nI (s - 1)) (nI f) (nI q) = some (x + 15 + (16 * (s - 1) + 4 * f + q)) := chA_n B (g := s - 1) (by omega) hfl (by rw [show s - 1 + 1 = s by omega]; exact hq)
    have er : rndI (tN t 8 (4 * s + q) + i) (tN t 1 (s - 1)) = f := (if_neg (by omega)).trans hf.symm
    have nb := hnb f hfl
    have SH := shut_iff H hw (s := s) (q := q) (c := 16 * (s - 1) + 4 * f + q) hs (by omega)
    unfold fstT at ho
    rw [← hf] at ho
    have w0 : ¬ canT t s q f → ∀ x6 x7, WA G F mX5_channelToTake h 0 0 (MQA G F 0 0 (Oi (fun v h' => v = fI o ∧ h' = h))) 84 [some (.ref x), some (.ref (x + 16 * tN t 0 0 + (4 * s + q))), some (.int (nI s)), some (.int (nI q)), some (.int (nI (tN t 1 (s - 1)))), some (.int (nI i)), x6, x7] [] := by
      intro hc x6 x7
      rw [cif_f hc] at ho
      refine n_iinc (pc := 84) (lv' := [_, _, _, _, _, _, _, _]) C dX5_channelToTake_84 rfl (by decide) rfl rfl ?_
      refine r_goto (pc := 87) (tgt := 12) C dX5_channelToTake_87 (by decide) ?_
      exact ih (i + 1) _ _ (by omega) ho
    by_cases hem : tC t (16 * (s - 1) + 4 * f + q) = []
    · have hl0 : (tC t (16 * (s - 1) + 4 * f + q)).length = 0 := by rw [hem]; rfl
      refine r_iload (pc := 12) C dX5_channelToTake_12 rfl ?_
      refine r_iload (pc := 14) C dX5_channelToTake_14 rfl ?_
      refine n_icmp_ge (pc := 16) (tgt := 90) C (by omega) (by omega) dX5_channelToTake_16 (by decide) (fun c16 => absurd c16 (by omega)) (fun c16 => ?_)
      refine r_aload_n (pc := 19) C dX5_channelToTake_19 rfl rfl ?_
      refine r_getIe (pc := 20) C fl_X5_150 T.2 rfl KT.2.2.2 dX5_channelToTake_20 ?_
      refine r_iload (pc := 23) C dX5_channelToTake_23 rfl ?_
      refine n_iadd (pc := 25) C dX5_channelToTake_25 ?_
      refine r_iload (pc := 26) C dX5_channelToTake_26 rfl ?_
      refine r_calli (cr_S (pc := 28) C (c_X5_around _ _ _ (by omega) (by omega)) dX5_channelToTake_28 cm_X5_around ml_X5_277 st_X5_around ⟨⟨Nat.le_of_ble_eq_true rfl, Nat.le_of_ble_eq_true rfl⟩, Nat.le_of_ble_eq_true rfl, Nat.le_of_ble_eq_true rfl⟩ rfl rfl (Nat.le_of_ble_eq_true rfl)) (fun v28 h28 hq28 => ?_)
      obtain ⟨rfl, rfl⟩ := hq28
      rw [er]
      refine r_istore (pc := 31) (lv' := [_, _, _, _, _, _, _, _]) C dX5_channelToTake_31 (by decide) rfl rfl ?_
      refine r_aload_n (pc := 33) C dX5_channelToTake_33 rfl rfl ?_
      refine r_iload_n (pc := 34) C dX5_channelToTake_34 rfl rfl ?_
      refine r_iconst (pc := 35) (v := (nI 1)) C dX5_channelToTake_35 (by decide) ?_
      refine n_isub (pc := 36) C (by omega) dX5_channelToTake_36 ?_
      refine r_iload (pc := 37) C dX5_channelToTake_37 rfl ?_
      refine r_iload_n (pc := 39) C dX5_channelToTake_39 rfl rfl ?_
      refine r_callq (cr_V (pc := 40) C (c_X5_channelAt E B _ _ _) dX5_channelToTake_40 cm_X5_channelAt ml_X5_185 im_X5_channelAt se_X5_channelAt E.L.o rfl ⟨⟨Nat.le_of_ble_eq_true rfl, Nat.le_of_ble_eq_true rfl⟩, Nat.le_of_ble_eq_true rfl, Nat.le_of_ble_eq_true rfl⟩ rfl rfl (Nat.le_of_ble_eq_true rfl)) (fun v40 h40 hq40 => ?_)
      obtain ⟨rfl, rfl⟩ := hq40
      rw [ec]
      refine r_astore (pc := 43) (lv' := [_, _, _, _, _, _, _, _]) C dX5_channelToTake_43 (by decide) rfl rfl ?_
      refine r_aload (pc := 45) C dX5_channelToTake_45 rfl ?_
      refine r_ifnull (pc := 47) C dX5_channelToTake_47 ?_
      refine r_aload (pc := 50) C dX5_channelToTake_50 rfl ?_
      refine r_calli (cr_V (pc := 52) C (c_X0_hasRowInFront L.2.1 K.2.2.2.1 K.2.2.2.2.1 (by omega) (by omega)) dX5_channelToTake_52 cm_X0_hasRowInFront ml_X5_301 im_X0_hasRowInFront se_X0_hasRowInFront L.2.1 rfl ⟨⟨Nat.le_of_ble_eq_true rfl, Nat.le_of_ble_eq_true rfl⟩, Nat.le_of_ble_eq_true rfl, Nat.le_of_ble_eq_true rfl⟩ rfl rfl (Nat.le_of_ble_eq_true rfl)) (fun v52 h52 hq52 => ?_)
      obtain ⟨rfl, rfl⟩ := hq52
      refine b_if_eq (pc := 55) (tgt := 84) C dX5_channelToTake_55 (by decide) (fun c55 => ?_) (fun c55 => absurd c55 (fun z => z.1 hl0))
      exact w0 (fun z => z.1 (Or.inl hem)) _ _
    · have hl0 : (tC t (16 * (s - 1) + 4 * f + q)).length ≠ 0 := fun z => hem (List.length_eq_zero_iff.mp z)
      have hhd : (tC t (16 * (s - 1) + 4 * f + q)).getD 0 0 ∈ tC t (16 * (s - 1) + 4 * f + q) := getD_mem (by omega)
      have hhe : (tC t (16 * (s - 1) + 4 * f + q)).getD 0 0 = (tC t (16 * (s - 1) + 4 * f + q)).headD 0 := by
        cases tC t (16 * (s - 1) + 4 * f + q) with
        | nil => rfl
        | cons a l => rfl
      have hr := B.row hhd
      have HO := (home_out HM B hs1 hs hq hfl hhd).2
      refine r_iload (pc := 12) C dX5_channelToTake_12 rfl ?_
      refine r_iload (pc := 14) C dX5_channelToTake_14 rfl ?_
      refine n_icmp_ge (pc := 16) (tgt := 90) C (by omega) (by omega) dX5_channelToTake_16 (by decide) (fun c16 => absurd c16 (by omega)) (fun c16 => ?_)
      refine r_aload_n (pc := 19) C dX5_channelToTake_19 rfl rfl ?_
      refine r_getIe (pc := 20) C fl_X5_150 T.2 rfl KT.2.2.2 dX5_channelToTake_20 ?_
      refine r_iload (pc := 23) C dX5_channelToTake_23 rfl ?_
      refine n_iadd (pc := 25) C dX5_channelToTake_25 ?_
      refine r_iload (pc := 26) C dX5_channelToTake_26 rfl ?_
      refine r_calli (cr_S (pc := 28) C (c_X5_around _ _ _ (by omega) (by omega)) dX5_channelToTake_28 cm_X5_around ml_X5_277 st_X5_around ⟨⟨Nat.le_of_ble_eq_true rfl, Nat.le_of_ble_eq_true rfl⟩, Nat.le_of_ble_eq_true rfl, Nat.le_of_ble_eq_true rfl⟩ rfl rfl (Nat.le_of_ble_eq_true rfl)) (fun v28 h28 hq28 => ?_)
      obtain ⟨rfl, rfl⟩ := hq28
      rw [er]
      refine r_istore (pc := 31) (lv' := [_, _, _, _, _, _, _, _]) C dX5_channelToTake_31 (by decide) rfl rfl ?_
      refine r_aload_n (pc := 33) C dX5_channelToTake_33 rfl rfl ?_
      refine r_iload_n (pc := 34) C dX5_channelToTake_34 rfl rfl ?_
      refine r_iconst (pc := 35) (v := (nI 1)) C dX5_channelToTake_35 (by decide) ?_
      refine n_isub (pc := 36) C (by omega) dX5_channelToTake_36 ?_
      refine r_iload (pc := 37) C dX5_channelToTake_37 rfl ?_
      refine r_iload_n (pc := 39) C dX5_channelToTake_39 rfl rfl ?_
      refine r_callq (cr_V (pc := 40) C (c_X5_channelAt E B _ _ _) dX5_channelToTake_40 cm_X5_channelAt ml_X5_185 im_X5_channelAt se_X5_channelAt E.L.o rfl ⟨⟨Nat.le_of_ble_eq_true rfl, Nat.le_of_ble_eq_true rfl⟩, Nat.le_of_ble_eq_true rfl, Nat.le_of_ble_eq_true rfl⟩ rfl rfl (Nat.le_of_ble_eq_true rfl)) (fun v40 h40 hq40 => ?_)
      obtain ⟨rfl, rfl⟩ := hq40
      rw [ec]
      refine r_astore (pc := 43) (lv' := [_, _, _, _, _, _, _, _]) C dX5_channelToTake_43 (by decide) rfl rfl ?_
      refine r_aload (pc := 45) C dX5_channelToTake_45 rfl ?_
      refine r_ifnull (pc := 47) C dX5_channelToTake_47 ?_
      refine r_aload (pc := 50) C dX5_channelToTake_50 rfl ?_
      refine r_calli (cr_V (pc := 52) C (c_X0_hasRowInFront L.2.1 K.2.2.2.1 K.2.2.2.2.1 (by omega) (by omega)) dX5_channelToTake_52 cm_X0_hasRowInFront ml_X5_301 im_X0_hasRowInFront se_X0_hasRowInFront L.2.1 rfl ⟨⟨Nat.le_of_ble_eq_true rfl, Nat.le_of_ble_eq_true rfl⟩, Nat.le_of_ble_eq_true rfl, Nat.le_of_ble_eq_true rfl⟩ rfl rfl (Nat.le_of_ble_eq_true rfl)) (fun v52 h52 hq52 => ?_)
      obtain ⟨rfl, rfl⟩ := hq52
      refine b_if_eq (pc := 55) (tgt := 84) C dX5_channelToTake_55 (by decide) (fun c55 => absurd c55 (fun z => z ⟨hl0, nb⟩)) (fun c55 => ?_)
      refine r_aload (pc := 58) C dX5_channelToTake_58 rfl ?_
      refine r_aload_n (pc := 60) C dX5_channelToTake_60 rfl rfl ?_
      refine r_calli (cr_S (pc := 61) C (c_X5_isShut E B hcc hi (by omega)) dX5_channelToTake_61 cm_X5_isShut ml_X5_197 st_X5_isShut ⟨⟨Nat.le_of_ble_eq_true rfl, Nat.le_of_ble_eq_true rfl⟩, Nat.le_of_ble_eq_true rfl, Nat.le_of_ble_eq_true rfl⟩ rfl rfl (Nat.le_of_ble_eq_true rfl)) (fun v61 h61 hq61 => ?_)
      obtain ⟨rfl, rfl⟩ := hq61
      refine b_if_ne (pc := 64) (tgt := 84) C dX5_channelToTake_64 (by decide) (fun c64 => ?_) (fun c64 => ?_)
      · exact w0 (fun z => z.1 (Or.inr (SH.mp c64))) _ _
      · refine r_aload_n (pc := 67) C dX5_channelToTake_67 rfl rfl ?_
        refine r_iload_n (pc := 68) C dX5_channelToTake_68 rfl rfl ?_
        refine r_aload (pc := 69) C dX5_channelToTake_69 rfl ?_
        refine r_iconst (pc := 71) (v := (nI 0)) C dX5_channelToTake_71 (by decide) ?_
        refine r_calli (cr_V (pc := 72) C (c_X0_rowAt L.2.1 L.2.2 E.L.sb K.2.1 K.2.2.2.1 (E.k_beh _ hcc) (fun r hr => by have := B.row hr; have := B.fed; omega) bl _) dX5_channelToTake_72 cm_X0_rowAt ml_X5_201 im_X0_rowAt se_X0_rowAt L.2.1 rfl ⟨⟨Nat.le_of_ble_eq_true rfl, Nat.le_of_ble_eq_true rfl⟩, Nat.le_of_ble_eq_true rfl, Nat.le_of_ble_eq_true rfl⟩ rfl rfl (Nat.le_of_ble_eq_true rfl)) (fun v72 h72 hq72 => ?_)
        obtain ⟨rfl, rfl⟩ := hq72
        rw [cif_t (inN_ok (by omega)), cl (by decide)]
        refine r_calli (cr_V (pc := 75) C (c_X5_canGoOn E B hs hr) dX5_channelToTake_75 cm_X5_canGoOn ml_X5_294 im_X5_canGoOn se_X5_canGoOn E.L.o rfl ⟨⟨Nat.le_of_ble_eq_true rfl, Nat.le_of_ble_eq_true rfl⟩, Nat.le_of_ble_eq_true rfl, Nat.le_of_ble_eq_true rfl⟩ rfl rfl (Nat.le_of_ble_eq_true rfl)) (fun v75 h75 hq75 => ?_)
        obtain ⟨rfl, rfl⟩ := hq75
        rw [HO, hhe]
        refine b_if_eq (pc := 78) (tgt := 84) C dX5_channelToTake_78 (by decide) (fun c78 => ?_) (fun c78 => ?_)
        · exact w0 (fun z => c78 (fun y => by have := z.2; omega)) _ _
        · refine r_iload (pc := 81) C dX5_channelToTake_81 rfl ?_
          exact r_iret (pc := 83) C rfl (Nat.le_of_ble_eq_true rfl) (Nat.le_of_ble_eq_true rfl) ⟨_, rfl, ⟨by rw [cif_t (show canT t s q f from ⟨fun z => z.elim hem (fun y => c64 (SH.mpr y)), fun z => by have := c78 z.1; omega⟩)] at ho; rw [← ho]; rfl, rfl⟩⟩ dX5_channelToTake_83
theorem c_X5_channelToTake (E : RX x m t e h) (B : TB t) (H : Ext t e) (HM : ∀ c r, r ∈ tC t c → ∃ g, g + 1 < tN t 0 0 ∧ c = home t g (tN t 2 r)) (hw : ∀ q, tN t 7 q ≠ 0 → tN t 0 5 ≠ 0) {s q : Nat} (hs1 : 1 ≤ s) (hs : s < tN t 0 0) (hq : q < tN t 1 s) (hnb : ∀ f, f < tN t 1 (s - 1) → tN t 4 (16 * (s - 1) + 4 * f + q) ≠ 1) : MA G mX5_channelToTake 4 0 0 [.ref x, .ref (x + 16 * tN t 0 0 + (4 * s + q)), .int (nI s), .int (nI q)] h (Oi (fun v h' => v = fI (fstT t s q (tN t 8 (4 * s + q)) (tN t 1 (s - 1)) 0) ∧ h' = h)) := by
  have b := B.S
  refine MA.intro (lv := [some (.ref x), some (.ref (x + 16 * tN t 0 0 + (4 * s + q))), some (.int (nI s)), some (.int (nI q)), none, none, none, none]) (by decide) (Nat.le_of_ble_eq_true rfl) rfl (fun F C => ?_)
  refine r_aload_n (pc := 0) C dX5_channelToTake_0 rfl rfl ?_
  refine r_iload_n (pc := 1) C dX5_channelToTake_1 rfl rfl ?_
  refine r_iconst (pc := 2) (v := (nI 1)) C dX5_channelToTake_2 (by decide) ?_
  refine n_isub (pc := 3) C (by omega) dX5_channelToTake_3 ?_
  refine r_calli (cr_V (pc := 4) C (c_X5_widthOf E B _) dX5_channelToTake_4 cm_X5_widthOf ml_X5_110 im_X5_widthOf se_X5_widthOf E.L.o rfl ⟨⟨Nat.le_of_ble_eq_true rfl, Nat.le_of_ble_eq_true rfl⟩, Nat.le_of_ble_eq_true rfl, Nat.le_of_ble_eq_true rfl⟩ rfl rfl (Nat.le_of_ble_eq_true rfl)) (fun v4 h4 hq4 => ?_)
  obtain ⟨rfl, rfl⟩ := hq4
  rw [wdI_n B (s := s - 1) (by omega)]
  refine r_istore (pc := 7) (lv' := [_, _, _, _, _, _, _, _]) C dX5_channelToTake_7 (by decide) rfl rfl ?_
  refine r_iconst (pc := 9) (v := (nI 0)) C dX5_channelToTake_9 (by decide) ?_
  refine r_istore (pc := 10) (lv' := [_, _, _, _, _, _, _, _]) C dX5_channelToTake_10 (by decide) rfl rfl ?_
  exact ctt_l C E B H HM hw hs1 hs hq hnb (tN t 1 (s - 1)) 0 _ _ (Nat.zero_add _) rfl
end CT68
