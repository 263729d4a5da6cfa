/-! ===== the class: audit, all of it ===== -/
def zNN : Nat → Nat := fun _ => 0
/-- the flow behind n channels -/
def NNf (t : TS) : Nat → (Nat → Nat)
  | 0 => zNN
  | n + 1 => fNs t (n / 16) (tC t n) (NNf t n)
def SSf (t : TS) : Nat → (Nat → Int64)
  | 0 => z0L
  | n + 1 => fLs t (n / 16) (tC t n) (SSf t n)
theorem NNf_at {t : TS} (hk : ∀ i, tN t 2 i ≤ 15) {g k : Nat} (h : k < 16) : ∀ n, NNf t n (16 * g + k) = kcN t k (gl_ t g (min 16 (n - 16 * g))) ∧ SSf t n (16 * g + k) = ksN t k (gl_ t g (min 16 (n - 16 * g)))
  | 0 => by rw [show min 16 (0 - 16 * g) = 0 by omega]; exact ⟨rfl, rfl⟩
  | n + 1 => by
    have ih := NNf_at hk (g := g) h n
    have e1 : NNf t (n + 1) (16 * g + k) = NNf t n (16 * g + k) + (if g = n / 16 then kcN t k (tC t n) else 0) := fNs_at hk h _ _
    have e2 : SSf t (n + 1) (16 * g + k) = SSf t n (16 * g + k) + (if g = n / 16 then ksN t k (tC t n) else 0) := fLs_at hk h _ _
    rw [e1, e2, ih.1, ih.2]
    by_cases hg : g = n / 16
    · rw [if_pos hg, if_pos hg, show min 16 (n + 1 - 16 * g) = min 16 (n - 16 * g) + 1 by omega]
      show _ = kcN t k (gl_ t g (min 16 (n - 16 * g)) ++ tC t (16 * g + min 16 (n - 16 * g))) ∧ _ = ksN t k (gl_ t g (min 16 (n - 16 * g)) ++ tC t (16 * g + min 16 (n - 16 * g)))
      rw [show 16 * g + min 16 (n - 16 * g) = n by omega, kcN_app, ksN_app]
      exact ⟨rfl, rfl⟩
    · rw [if_neg hg, if_neg hg, Int64.add_zero, Nat.add_zero, show min 16 (n + 1 - 16 * g) = min 16 (n - 16 * g) by omega]
      exact ⟨rfl, rfl⟩
section CA79
variable {G : GP} {x m : Nat} {t : TS} {e : ES} {F : FX} {Q : State → Prop}
theorem aud_f (C : CX G F mX5_audit (Rm 4 0 0)) (B : TB t) {h0 : AH}
    (k : ∀ h x1, RX x m t e h → FLW x h (NNf t (16 * (tN t 0 0 - 1))) (SSf t (16 * (tN t 0 0 - 1))) → Fq (Pf x) h0 h → WA G F mX5_audit h 0 0 Q 34 [some (.ref x), some (.int x1), none, none] []) :
    ∀ (n c : Nat) (h : AH), c + n = 16 * (tN t 0 0 - 1) → RX x m t e h → FLW x h (NNf t c) (SSf t c) → Fq (Pf x) h0 h → WA G F mX5_audit h 0 0 Q 9 [some (.ref x), some (.int (nI c)), none, none] [] := by
  have b := B.S
  intro n
  induction n with
  | zero =>
    intro c h hc E f ff
    have hc' : c = 16 * (tN t 0 0 - 1) := by omega
    rw [hc'] at f
    refine r_iload_n (pc := 9) C dX5_audit_9 rfl rfl ?_
    refine r_aload_n (pc := 10) C dX5_audit_10 rfl rfl ?_
    refine r_getR (pc := 11) C fl_X5_75 E.L.o rfl E.L.r4 dX5_audit_11 ?_
    refine r_alen (pc := 14) C E.L.s4 (by decide) (by decide) dX5_audit_14 ?_
    refine n_icmp_ge (pc := 15) (tgt := 34) C (by omega) (by omega) dX5_audit_15 (by decide) (fun c15 => ?_) (fun c15 => absurd c15 (by omega))
    exact k _ _ E f ff
  | succ n ih =>
    intro c h hc E f ff
    have hcl : c < 16 * (tN t 0 0 - 1) := by omega
    refine r_iload_n (pc := 9) C dX5_audit_9 rfl rfl ?_
    refine r_aload_n (pc := 10) C dX5_audit_10 rfl rfl ?_
    refine r_getR (pc := 11) C fl_X5_75 E.L.o rfl E.L.r4 dX5_audit_11 ?_
    refine r_alen (pc := 14) C E.L.s4 (by decide) (by decide) dX5_audit_14 ?_
    refine n_icmp_ge (pc := 15) (tgt := 34) C (by omega) (by omega) dX5_audit_15 (by decide) (fun c15 => absurd c15 (by omega)) (fun c15 => ?_)
    refine r_aload_n (pc := 18) C dX5_audit_18 rfl rfl ?_
    refine r_aload_n (pc := 19) C dX5_audit_19 rfl rfl ?_
    refine r_getR (pc := 20) C fl_X5_75 E.L.o rfl E.L.r4 dX5_audit_20 ?_
    refine r_iload_n (pc := 23) C dX5_audit_23 rfl rfl ?_
    refine n_aald (pc := 24) C E.L.s4 (by decide) (by omega) (E.L.ch hcl).1 dX5_audit_24 ?_ (by omega)
    refine r_callv (cr_V (pc := 25) C (c_X5_addFlow E B hcl f) dX5_audit_25 cm_X5_addFlow ml_X5_237 im_X5_addFlow se_X5_addFlow E.L.o rfl ⟨⟨Nat.le_of_ble_eq_true rfl, Nat.le_of_ble_eq_true rfl⟩, Nat.le_of_ble_eq_true rfl, Nat.le_of_ble_eq_true rfl⟩ rfl rfl (Nat.le_of_ble_eq_true rfl)) (fun h25 hq25 => ?_)
    obtain ⟨E2, f2, g2⟩ := hq25
    refine n_iinc (pc := 28) (lv' := [_, _, _, _]) C dX5_audit_28 rfl (by decide) rfl rfl ?_
    refine r_goto (pc := 31) (tgt := 9) C dX5_audit_31 (by decide) ?_
    exact ih (c + 1) _ (by omega) E2 f2 (ff.tr g2)
theorem aud_m (C : CX G F mX5_audit (Rm 4 0 0)) (B : TB t) {h0 : AH} (AW : ∀ j, j < tN t 0 4 → tN t 9 j = 1 → AgT t (fun i => tN t 11 (64 * j + i)) (kNs t (tK t j) zNN) (fun i => tL t 2 (64 * j + i)) (kLs t (tK t j) z0L))
    (k : ∀ h x2 x3, RX x m t e h → Fq (Pf x) h0 h → WA G F mX5_audit h 0 0 Q 105 [some (.ref x), some (.int (nI 0)), some (.int x2), x3] []) :
    ∀ (n j : Nat) (h : AH) (x3 : Option Value), j + n = tN t 0 4 → RX x m t e h → Fq (Pf x) h0 h → WA G F mX5_audit h 0 0 Q 50 [some (.ref x), some (.int (nI 0)), some (.int (nI j)), x3] [] := by
  have b := B.S
  have bm := B.marks
  intro n
  induction n with
  | zero =>
    intro j h x3 hj E ff
    refine r_iload_n (pc := 50) C dX5_audit_50 rfl rfl ?_
    refine r_aload_n (pc := 51) C dX5_audit_51 rfl rfl ?_
    refine r_getIe (pc := 52) C fl_X5_36 E.L.o rfl E.marks dX5_audit_52 ?_
    refine n_icmp_ge (pc := 55) (tgt := 105) C (by omega) (by omega) dX5_audit_55 (by decide) (fun c55 => ?_) (fun c55 => absurd c55 (by omega))
    exact k _ _ _ E ff
  | succ n ih =>
    intro j h x3 hj E ff
    have hjl : j < tN t 0 4 := by omega
    have bs := B.stat j
    have f7 := (E.k_mo j hjl).2.2.2.1
    have bx := E.L.b
    by_cases h9 : tN t 9 j = 1
    · skip
      refine r_iload_n (pc := 50) C dX5_audit_50 rfl rfl ?_
      refine r_aload_n (pc := 51) C dX5_audit_51 rfl rfl ?_
      refine r_getIe (pc := 52) C fl_X5_36 E.L.o rfl E.marks dX5_audit_52 ?_
      refine n_icmp_ge (pc := 55) (tgt := 105) C (by omega) (by omega) dX5_audit_55 (by decide) (fun c55 => absurd c55 (by omega)) (fun c55 => ?_)
      refine r_aload_n (pc := 58) C dX5_audit_58 rfl rfl ?_
      refine r_iload_n (pc := 59) C dX5_audit_59 rfl rfl ?_
      refine r_callq (cr_V (pc := 60) C (c_X5_markAt E B _) dX5_audit_60 cm_X5_markAt ml_X5_124 im_X5_markAt se_X5_markAt E.L.o rfl ⟨⟨Nat.le_of_ble_eq_true rfl, Nat.le_of_ble_eq_true rfl⟩, Nat.le_of_ble_eq_true rfl, Nat.le_of_ble_eq_true rfl⟩ rfl rfl (Nat.le_of_ble_eq_true rfl)) (fun v60 h60 hq60 => ?_)
      obtain ⟨rfl, rfl⟩ := hq60
      rw [mkA_n B hjl]
      refine r_astore_n (pc := 63) (lv' := [_, _, _, _]) C dX5_audit_63 rfl (by decide) rfl rfl ?_
      refine r_aload_n (pc := 64) C dX5_audit_64 rfl rfl ?_
      refine r_ifnull (pc := 65) C dX5_audit_65 ?_
      refine r_aload_n (pc := 68) C dX5_audit_68 rfl rfl ?_
      refine r_getIe (pc := 69) C fl_X5_132 (E.L.M hjl).1 rfl f7 dX5_audit_69 ?_
      refine r_iconst (pc := 72) (v := (nI 1)) C dX5_audit_72 (by decide) ?_
      refine n_icmp_ne (pc := 73) (tgt := 99) C (by omega) (by omega) dX5_audit_73 (by decide) (fun c73 => absurd c73 (fun z => z h9)) (fun c73 => ?_)
      refine r_aload_n (pc := 76) C dX5_audit_76 rfl rfl ?_
      refine r_getR (pc := 77) C fl_X5_33 E.L.o rfl E.L.r7 dX5_audit_77 ?_
      refine r_callv (cr_V (pc := 80) C (c_X3_clear E.L.F) dX5_audit_80 cm_X3_clear ml_X5_234 im_X3_clear se_X3_clear E.L.F.1 rfl ⟨⟨Nat.le_of_ble_eq_true rfl, Nat.le_of_ble_eq_true rfl⟩, Nat.le_of_ble_eq_true rfl, Nat.le_of_ble_eq_true rfl⟩ rfl rfl (Nat.le_of_ble_eq_true rfl)) (fun h80 hq80 => ?_)
      obtain ⟨g1, g2, g3⟩ := hq80
      have g1 : Fq (Pf x) _ h80 := g1
      have E1 := E.fq g1 (fun a ha => by unfold Pf at ha; omega)
      have f1 : FLW x h80 zNN z0L := ⟨g2, g3⟩
      refine r_aload_n (pc := 83) C dX5_audit_83 rfl rfl ?_
      refine r_aload_n (pc := 84) C dX5_audit_84 rfl rfl ?_
      refine r_callv (cr_V (pc := 85) C (c_X5_addKeptFlow E1 B hjl f1) dX5_audit_85 cm_X5_addKeptFlow ml_X5_248 im_X5_addKeptFlow se_X5_addKeptFlow E1.L.o rfl ⟨⟨Nat.le_of_ble_eq_true rfl, Nat.le_of_ble_eq_true rfl⟩, Nat.le_of_ble_eq_true rfl, Nat.le_of_ble_eq_true rfl⟩ rfl rfl (Nat.le_of_ble_eq_true rfl)) (fun h85 hq85 => ?_)
      obtain ⟨E2, f2, g4⟩ := hq85
      refine r_iload_n (pc := 88) C dX5_audit_88 rfl rfl ?_
      refine r_aload_n (pc := 89) C dX5_audit_89 rfl rfl ?_
      refine r_aload_n (pc := 90) C dX5_audit_90 rfl rfl ?_
      refine r_getR (pc := 91) C fl_X5_139 (E2.L.M hjl).1 rfl (E2.L.M hjl).2.2.2.1 dX5_audit_91 ?_
      refine r_calli (cr_V (pc := 94) C (c_X5_unlike E2 B (E2.L.M hjl).2.2.2.2.1 (fun i hi => E2.k_mt j hjl i hi) (fun i hi => E2.k_ms j hjl i hi) f2 (AW j hjl h9)) dX5_audit_94 cm_X5_unlike ml_X5_241 im_X5_unlike se_X5_unlike E2.L.o rfl ⟨⟨Nat.le_of_ble_eq_true rfl, Nat.le_of_ble_eq_true rfl⟩, Nat.le_of_ble_eq_true rfl, Nat.le_of_ble_eq_true rfl⟩ rfl rfl (Nat.le_of_ble_eq_true rfl)) (fun v94 h94 hq94 => ?_)
      obtain ⟨rfl, rfl⟩ := hq94
      refine n_iadd (pc := 97) C dX5_audit_97 ?_
      refine r_istore_n (pc := 98) (lv' := [_, _, _, _]) C dX5_audit_98 rfl (by decide) rfl rfl ?_
      refine n_iinc (pc := 99) (lv' := [_, _, _, _]) C dX5_audit_99 rfl (by decide) rfl rfl ?_
      refine r_goto (pc := 102) (tgt := 50) C dX5_audit_102 (by decide) ?_
      exact ih (j + 1) _ _ (by omega) E2 ((ff.tr g1).tr g4)
    · skip
      refine r_iload_n (pc := 50) C dX5_audit_50 rfl rfl ?_
      refine r_aload_n (pc := 51) C dX5_audit_51 rfl rfl ?_
      refine r_getIe (pc := 52) C fl_X5_36 E.L.o rfl E.marks dX5_audit_52 ?_
      refine n_icmp_ge (pc := 55) (tgt := 105) C (by omega) (by omega) dX5_audit_55 (by decide) (fun c55 => absurd c55 (by omega)) (fun c55 => ?_)
      refine r_aload_n (pc := 58) C dX5_audit_58 rfl rfl ?_
      refine r_iload_n (pc := 59) C dX5_audit_59 rfl rfl ?_
      refine r_callq (cr_V (pc := 60) C (c_X5_markAt E B _) dX5_audit_60 cm_X5_markAt ml_X5_124 im_X5_markAt se_X5_markAt E.L.o rfl ⟨⟨Nat.le_of_ble_eq_true rfl, Nat.le_of_ble_eq_true rfl⟩, Nat.le_of_ble_eq_true rfl, Nat.le_of_ble_eq_true rfl⟩ rfl rfl (Nat.le_of_ble_eq_true rfl)) (fun v60 h60 hq60 => ?_)
      obtain ⟨rfl, rfl⟩ := hq60
      rw [mkA_n B hjl]
      refine r_astore_n (pc := 63) (lv' := [_, _, _, _]) C dX5_audit_63 rfl (by decide) rfl rfl ?_
      refine r_aload_n (pc := 64) C dX5_audit_64 rfl rfl ?_
      refine r_ifnull (pc := 65) C dX5_audit_65 ?_
      refine r_aload_n (pc := 68) C dX5_audit_68 rfl rfl ?_
      refine r_getIe (pc := 69) C fl_X5_132 (E.L.M hjl).1 rfl f7 dX5_audit_69 ?_
      refine r_iconst (pc := 72) (v := (nI 1)) C dX5_audit_72 (by decide) ?_
      refine n_icmp_ne (pc := 73) (tgt := 99) C (by omega) (by omega) dX5_audit_73 (by decide) (fun c73 => ?_) (fun c73 => absurd c73 (fun z => h9 z))
      refine n_iinc (pc := 99) (lv' := [_, _, _, _]) C dX5_audit_99 rfl (by decide) rfl rfl ?_
      refine r_goto (pc := 102) (tgt := 50) C dX5_audit_102 (by decide) ?_
      exact ih (j + 1) _ _ (by omega) E ff
theorem c_X5_audit {h : AH} (E : RX x m t e h) (B : TB t) (HM : ∀ c r, r ∈ tC t c → ∃ g, g + 1 < tN t 0 0 ∧ c = home t g (tN t 2 r)) (A : AO t) (AW : ∀ j, j < tN t 0 4 → tN t 9 j = 1 → ∀ k, k < 16 → inpN t k (tN t 11 (64 * j + k)) (tN t 0 3) = tN t 11 (64 * j + k) ∧ inpS t k (tN t 11 (64 * j + k)) (tN t 0 3) = tL t 2 (64 * j + k)) : MA G mX5_audit 4 0 0 [.ref x] h (Oi (fun v h' => v = nI 0 ∧ RX x m t e h' ∧ Fq (Pf x) h h')) := by
  have b := B.S
  have bx := E.L.b
  refine MA.intro (lv := [some (.ref x), none, none, none]) (by decide) (Nat.le_of_ble_eq_true rfl) rfl (fun F C => ?_)
  have AT : AgT t (tN t 3) (NNf t (16 * (tN t 0 0 - 1))) (tL t 1) (SSf t (16 * (tN t 0 0 - 1))) := by
    refine ⟨fun g k hg hk => ?_, fun k hk => A.2.2.1 k hk, B.many⟩
    have h1 := A.1 g hg k hk
    have h2 := NNf_at (t := t) B.key (g := g) hk (16 * (tN t 0 0 - 1))
    rw [show min 16 (16 * (tN t 0 0 - 1) - 16 * g) = 16 by omega] at h2
    rw [h2.1, h2.2]
    exact ⟨h1.1.symm, h1.2.symm⟩
  have AW' : ∀ j, j < tN t 0 4 → tN t 9 j = 1 → AgT t (fun i => tN t 11 (64 * j + i)) (kNs t (tK t j) zNN) (fun i => tL t 2 (64 * j + i)) (kLs t (tK t j) z0L) := fun j hj h9 => by
    refine ⟨fun g k hg hk => ?_, fun k hk => AW j hj h9 k hk, fun i => B.kmany _⟩
    have h1 := A.2.2.2 j hj h9 g hg k hk
    rw [kNs_at B.key hk, kLs_at B.key hk, show zNN (16 * g + k) = 0 from rfl, Nat.zero_add, show z0L (16 * g + k) = 0 from rfl, Int64.zero_add]
    show tN t 11 (64 * j + (16 * g + k)) = tN t 11 (64 * j + (16 * (g + 1) + k)) + _ ∧ tL t 2 (64 * j + (16 * g + k)) = tL t 2 (64 * j + (16 * (g + 1) + k)) + _
    rw [show 64 * j + (16 * g + k) = 64 * j + 16 * g + k by omega, show 64 * j + (16 * (g + 1) + k) = 64 * j + 16 * g + 16 + k by omega]
    exact ⟨h1.1.symm, h1.2.symm⟩
  have t105 : ∀ h2 (x2 : Int32) (x3 : Option Value), RX x m t e h2 → Fq (Pf x) h h2 → WA G F mX5_audit h2 0 0 (MQA G F 0 0 (Oi (fun v h' => v = nI 0 ∧ RX x m t e h' ∧ Fq (Pf x) h h'))) 105 [some (.ref x), some (.int (nI 0)), some (.int x2), x3] [] := by
    intro h2 x2 x3 E2 ff
    refine r_iload_n (pc := 105) C dX5_audit_105 rfl rfl ?_
    exact r_iret (pc := 106) C rfl (Nat.le_of_ble_eq_true rfl) (Nat.le_of_ble_eq_true rfl) ⟨_, rfl, ⟨rfl, E2, ff⟩⟩ dX5_audit_106
  have t34 : ∀ h2 (x1 : Int32), RX x m t e h2 → FLW x h2 (NNf t (16 * (tN t 0 0 - 1))) (SSf t (16 * (tN t 0 0 - 1))) → Fq (Pf x) h h2 → WA G F mX5_audit h2 0 0 (MQA G F 0 0 (Oi (fun v h' => v = nI 0 ∧ RX x m t e h' ∧ Fq (Pf x) h h'))) 34 [some (.ref x), some (.int x1), none, none] [] := by
    intro h2 x1 E2 f2 ff
    refine r_aload_n (pc := 34) C dX5_audit_34 rfl rfl ?_
    refine r_aload_n (pc := 35) C dX5_audit_35 rfl rfl ?_
    refine r_getR (pc := 36) C fl_X5_23 E2.L.o rfl E2.L.r3 dX5_audit_36 ?_
    refine r_calli (cr_V (pc := 39) C (c_X5_unlike E2 B E2.L.T (fun i hi => E2.k_many i hi) (fun i hi => E2.k_sum i hi) f2 AT) dX5_audit_39 cm_X5_unlike ml_X5_241 im_X5_unlike se_X5_unlike E2.L.o rfl ⟨⟨Nat.le_of_ble_eq_true rfl, Nat.le_of_ble_eq_true rfl⟩, Nat.le_of_ble_eq_true rfl, Nat.le_of_ble_eq_true rfl⟩ rfl rfl (Nat.le_of_ble_eq_true rfl)) (fun v39 h39 hq39 => ?_)
    obtain ⟨rfl, rfl⟩ := hq39
    refine r_aload_n (pc := 42) C dX5_audit_42 rfl rfl ?_
    refine r_calli (cr_V (pc := 43) C (c_X5_strayRows E2 B HM) dX5_audit_43 cm_X5_strayRows ml_X5_245 im_X5_strayRows se_X5_strayRows E2.L.o rfl ⟨⟨Nat.le_of_ble_eq_true rfl, Nat.le_of_ble_eq_true rfl⟩, Nat.le_of_ble_eq_true rfl, Nat.le_of_ble_eq_true rfl⟩ rfl rfl (Nat.le_of_ble_eq_true rfl)) (fun v43 h43 hq43 => ?_)
    obtain ⟨rfl, rfl⟩ := hq43
    refine n_iadd (pc := 46) C dX5_audit_46 ?_
    refine r_istore_n (pc := 47) (lv' := [_, _, _, _]) C dX5_audit_47 rfl (by decide) rfl rfl ?_
    refine r_iconst (pc := 48) (v := (nI 0)) C dX5_audit_48 (by decide) ?_
    refine r_istore_n (pc := 49) (lv' := [_, _, _, _]) C dX5_audit_49 rfl (by decide) rfl rfl ?_
    exact aud_m C B AW' t105 (tN t 0 4) 0 _ _ (by omega) E2 ff
  refine r_aload_n (pc := 0) C dX5_audit_0 rfl rfl ?_
  refine r_getR (pc := 1) C fl_X5_33 E.L.o rfl E.L.r7 dX5_audit_1 ?_
  refine r_callv (cr_V (pc := 4) C (c_X3_clear E.L.F) dX5_audit_4 cm_X3_clear ml_X5_234 im_X3_clear se_X3_clear E.L.F.1 rfl ⟨⟨Nat.le_of_ble_eq_true rfl, Nat.le_of_ble_eq_true rfl⟩, Nat.le_of_ble_eq_true rfl, Nat.le_of_ble_eq_true rfl⟩ rfl rfl (Nat.le_of_ble_eq_true rfl)) (fun h4 hq4 => ?_)
  obtain ⟨g1, g2, g3⟩ := hq4
  have g1 : Fq (Pf x) h h4 := g1
  have E1 := E.fq g1 (fun a ha => by unfold Pf at ha; omega)
  refine r_iconst (pc := 7) (v := (nI 0)) C dX5_audit_7 (by decide) ?_
  refine r_istore_n (pc := 8) (lv' := [_, _, _, _]) C dX5_audit_8 rfl (by decide) rfl rfl ?_
  exact aud_f C B t34 (16 * (tN t 0 0 - 1)) 0 _ (by omega) E1 ⟨g2, g3⟩ g1
end CA79
