/-! ===== the class: audit ===== -/
section CA78
variable {G : GP} {x m : Nat} {t : TS} {e : ES} {h : AH} {F : FX} {Q : State → Prop}
/-- a tally agrees with the flow, and with the INPUT -/
def AgT (t : TS) (M N : Nat → Nat) (Sm S : Nat → Int64) : Prop :=
  (∀ g k, g + 1 < tN t 0 0 → k < 16 → M (16 * g + k) = M (16 * (g + 1) + k) + N (16 * g + k) ∧ Sm (16 * g + k) = Sm (16 * (g + 1) + k) + S (16 * g + k)) ∧
  (∀ k, k < 16 → inpN t k (M k) (tN t 0 3) = M k ∧ inpS t k (M k) (tN t 0 3) = Sm k) ∧ ∀ i, M i ≤ 200
theorem unl_l2 (C : CX G F mX5_unlike (Rm 3 0 0)) (E : RX x m t e h) (B : TB t) {a : Nat} (T : T3 a h) {M N : Nat → Nat} {Sm S : Nat → Int64} (tM : ∀ i, i < 64 → hI h (a + 1) i = nI (M i)) (tS : ∀ i, i < 64 → hL h (a + 2) i = Sm i) (f : FLW x h N S) (A : AgT t M N Sm S) {k : Nat} (hk : k < 16)
    (kk : ∀ x4, WA G F mX5_unlike h 0 0 Q 94 [some (.ref x), some (.ref a), some (.int (nI 0)), some (.int (nI k)), some (.int x4)] []) :
    ∀ (n g : Nat), g + n = tN t 0 0 - 1 → WA G F mX5_unlike h 0 0 Q 13 [some (.ref x), some (.ref a), some (.int (nI 0)), some (.int (nI k)), some (.int (nI g))] [] := by
  have b := B.S
  intro n
  induction n with
  | zero =>
    intro g hg
    refine r_iload (pc := 13) C dX5_unlike_13 rfl ?_
    refine r_aload_n (pc := 15) C dX5_unlike_15 rfl rfl ?_
    refine r_getIe (pc := 16) C fl_X5_64 E.L.o rfl E.S dX5_unlike_16 ?_
    refine r_iconst (pc := 19) (v := (nI 1)) C dX5_unlike_19 (by decide) ?_
    refine n_isub (pc := 20) C (by omega) dX5_unlike_20 ?_
    refine n_icmp_ge (pc := 21) (tgt := 94) C (by omega) (by omega) dX5_unlike_21 (by decide) (fun c21 => ?_) (fun c21 => absurd c21 (by omega))
    exact kk _
  | succ n ih =>
    intro g hg
    have a1 := A.1 g k (by omega) hk
    have a3 := A.2.2 (16 * g + k)
    refine r_iload (pc := 13) C dX5_unlike_13 rfl ?_
    refine r_aload_n (pc := 15) C dX5_unlike_15 rfl rfl ?_
    refine r_getIe (pc := 16) C fl_X5_64 E.L.o rfl E.S dX5_unlike_16 ?_
    refine r_iconst (pc := 19) (v := (nI 1)) C dX5_unlike_19 (by decide) ?_
    refine n_isub (pc := 20) C (by omega) dX5_unlike_20 ?_
    refine n_icmp_ge (pc := 21) (tgt := 94) C (by omega) (by omega) dX5_unlike_21 (by decide) (fun c21 => absurd c21 (by omega)) (fun c21 => ?_)
    refine r_aload_n (pc := 24) C dX5_unlike_24 rfl rfl ?_
    refine r_iload (pc := 25) C dX5_unlike_25 rfl ?_
    refine r_iload_n (pc := 27) C dX5_unlike_27 rfl rfl ?_
    refine r_calli (cr_V (pc := 28) C (c_X3_rowsOf T (s := g) (k := k) (by omega) hk (tM _ (by omega))) dX5_unlike_28 cm_X3_rowsOf ml_X5_167 im_X3_rowsOf se_X3_rowsOf T.1 rfl ⟨⟨Nat.le_of_ble_eq_true rfl, Nat.le_of_ble_eq_true rfl⟩, Nat.le_of_ble_eq_true rfl, Nat.le_of_ble_eq_true rfl⟩ rfl rfl (Nat.le_of_ble_eq_true rfl)) (fun v28 h28 hq28 => ?_)
    obtain ⟨rfl, rfl⟩ := hq28
    refine r_aload_n (pc := 31) C dX5_unlike_31 rfl rfl ?_
    refine r_iload (pc := 32) C dX5_unlike_32 rfl ?_
    refine r_iconst (pc := 34) (v := (nI 1)) C dX5_unlike_34 (by decide) ?_
    refine n_iadd (pc := 35) C dX5_unlike_35 ?_
    refine r_iload_n (pc := 36) C dX5_unlike_36 rfl rfl ?_
    refine r_calli (cr_V (pc := 37) C (c_X3_rowsOf T (s := g + 1) (k := k) (by omega) hk (tM _ (by omega))) dX5_unlike_37 cm_X3_rowsOf ml_X5_167 im_X3_rowsOf se_X3_rowsOf T.1 rfl ⟨⟨Nat.le_of_ble_eq_true rfl, Nat.le_of_ble_eq_true rfl⟩, Nat.le_of_ble_eq_true rfl, Nat.le_of_ble_eq_true rfl⟩ rfl rfl (Nat.le_of_ble_eq_true rfl)) (fun v37 h37 hq37 => ?_)
    obtain ⟨rfl, rfl⟩ := hq37
    refine r_aload_n (pc := 40) C dX5_unlike_40 rfl rfl ?_
    refine r_getR (pc := 41) C fl_X5_33 E.L.o rfl E.L.r7 dX5_unlike_41 ?_
    refine r_iload (pc := 44) C dX5_unlike_44 rfl ?_
    refine r_iload_n (pc := 46) C dX5_unlike_46 rfl rfl ?_
    refine r_calli (cr_V (pc := 47) C (c_X3_rowsOf E.L.F (s := g) (k := k) (by omega) hk (f.1 _ (by omega))) dX5_unlike_47 cm_X3_rowsOf ml_X5_167 im_X3_rowsOf se_X3_rowsOf E.L.F.1 rfl ⟨⟨Nat.le_of_ble_eq_true rfl, Nat.le_of_ble_eq_true rfl⟩, Nat.le_of_ble_eq_true rfl, Nat.le_of_ble_eq_true rfl⟩ rfl rfl (Nat.le_of_ble_eq_true rfl)) (fun v47 h47 hq47 => ?_)
    obtain ⟨rfl, rfl⟩ := hq47
    refine n_iadd (pc := 50) C dX5_unlike_50 ?_
    refine n_icmp_ne (pc := 51) (tgt := 85) C (by omega) (by omega) dX5_unlike_51 (by decide) (fun c51 => absurd c51 (fun z => z a1.1)) (fun c51 => ?_)
    refine r_aload_n (pc := 54) C dX5_unlike_54 rfl rfl ?_
    refine r_iload (pc := 55) C dX5_unlike_55 rfl ?_
    refine r_iload_n (pc := 57) C dX5_unlike_57 rfl rfl ?_
    refine r_calll (cr_V (pc := 58) C (c_X3_totalOf T (s := g) (k := k) (by omega) hk (tS _ (by omega))) dX5_unlike_58 cm_X3_totalOf ml_X5_170 im_X3_totalOf se_X3_totalOf T.1 rfl ⟨⟨Nat.le_of_ble_eq_true rfl, Nat.le_of_ble_eq_true rfl⟩, Nat.le_of_ble_eq_true rfl, Nat.le_of_ble_eq_true rfl⟩ rfl rfl (Nat.le_of_ble_eq_true rfl)) (fun v58 h58 hq58 => ?_)
    obtain ⟨rfl, rfl⟩ := hq58
    refine r_aload_n (pc := 61) C dX5_unlike_61 rfl rfl ?_
    refine r_iload (pc := 62) C dX5_unlike_62 rfl ?_
    refine r_iconst (pc := 64) (v := (nI 1)) C dX5_unlike_64 (by decide) ?_
    refine n_iadd (pc := 65) C dX5_unlike_65 ?_
    refine r_iload_n (pc := 66) C dX5_unlike_66 rfl rfl ?_
    refine r_calll (cr_V (pc := 67) C (c_X3_totalOf T (s := g + 1) (k := k) (by omega) hk (tS _ (by omega))) dX5_unlike_67 cm_X3_totalOf ml_X5_170 im_X3_totalOf se_X3_totalOf T.1 rfl ⟨⟨Nat.le_of_ble_eq_true rfl, Nat.le_of_ble_eq_true rfl⟩, Nat.le_of_ble_eq_true rfl, Nat.le_of_ble_eq_true rfl⟩ rfl rfl (Nat.le_of_ble_eq_true rfl)) (fun v67 h67 hq67 => ?_)
    obtain ⟨rfl, rfl⟩ := hq67
    refine r_aload_n (pc := 70) C dX5_unlike_70 rfl rfl ?_
    refine r_getR (pc := 71) C fl_X5_33 E.L.o rfl E.L.r7 dX5_unlike_71 ?_
    refine r_iload (pc := 74) C dX5_unlike_74 rfl ?_
    refine r_iload_n (pc := 76) C dX5_unlike_76 rfl rfl ?_
    refine r_calll (cr_V (pc := 77) C (c_X3_totalOf E.L.F (s := g) (k := k) (by omega) hk (f.2 _ (by omega))) dX5_unlike_77 cm_X3_totalOf ml_X5_170 im_X3_totalOf se_X3_totalOf E.L.F.1 rfl ⟨⟨Nat.le_of_ble_eq_true rfl, Nat.le_of_ble_eq_true rfl⟩, Nat.le_of_ble_eq_true rfl, Nat.le_of_ble_eq_true rfl⟩ rfl rfl (Nat.le_of_ble_eq_true rfl)) (fun v77 h77 hq77 => ?_)
    obtain ⟨rfl, rfl⟩ := hq77
    refine r_ladd (pc := 80) C dX5_unlike_80 ?_
    refine r_lcmp (pc := 81) C dX5_unlike_81 ?_
    refine r_if_eq (pc := 82) (tgt := 88) C dX5_unlike_82 (by decide) (fun c82 => ?_) (fun c82 => absurd c82 (fun z => z (lg_cmp0 a1.2)))
    refine n_iinc (pc := 88) (lv' := [_, _, _, _, _]) C dX5_unlike_88 rfl (by decide) rfl rfl ?_
    refine r_goto (pc := 91) (tgt := 13) C dX5_unlike_91 (by decide) ?_
    exact ih (g + 1) (by omega)
theorem unl_l1 (C : CX G F mX5_unlike (Rm 3 0 0)) (E : RX x m t e h) (B : TB t) {a : Nat} (T : T3 a h) {M N : Nat → Nat} {Sm S : Nat → Int64} (tM : ∀ i, i < 64 → hI h (a + 1) i = nI (M i)) (tS : ∀ i, i < 64 → hL h (a + 2) i = Sm i) (f : FLW x h N S) (A : AgT t M N Sm S)
    (kk : ∀ x3 x4, WA G F mX5_unlike h 0 0 Q 126 [some (.ref x), some (.ref a), some (.int (nI 0)), some (.int x3), x4] []) :
    ∀ (n k : Nat) (x4 : Option Value), k + n = 16 → WA G F mX5_unlike h 0 0 Q 4 [some (.ref x), some (.ref a), some (.int (nI 0)), some (.int (nI k)), x4] [] := by
  have b := B.S
  have bf := B.fed
  have hkb := B.key
  intro n
  induction n with
  | zero =>
    intro k x4 hk
    refine r_iload_n (pc := 4) C dX5_unlike_4 rfl rfl ?_
    refine r_bipush (pc := 5) (v := (nI 16)) C dX5_unlike_5 (by decide) ?_
    refine n_icmp_ge (pc := 7) (tgt := 126) C (by omega) (by omega) dX5_unlike_7 (by decide) (fun c7 => ?_) (fun c7 => absurd c7 (by omega))
    exact kk _ _
  | succ n ih =>
    intro k x4 hk
    have a2 := A.2.1 k (by omega)
    have a3 := A.2.2 k
    have t94 : ∀ x4 : Int32, WA G F mX5_unlike h 0 0 Q 94 [some (.ref x), some (.ref a), some (.int (nI 0)), some (.int (nI k)), some (.int x4)] [] := by
      intro x4
      refine r_aload_n (pc := 94) C dX5_unlike_94 rfl rfl ?_
      refine r_getR (pc := 95) C fl_X5_16 E.L.o rfl E.L.r2 dX5_unlike_95 ?_
      refine r_iload_n (pc := 98) C dX5_unlike_98 rfl rfl ?_
      refine r_aload_n (pc := 99) C dX5_unlike_99 rfl rfl ?_
      refine r_iconst (pc := 100) (v := (nI 0)) C dX5_unlike_100 (by decide) ?_
      refine r_iload_n (pc := 101) C dX5_unlike_101 rfl rfl ?_
      refine r_calli (cr_V (pc := 102) C (c_X3_rowsOf T (s := 0) (k := k) (by omega) (by omega) ((tM _ (by omega)).trans (congrArg (fun i => nI (M i)) (show 16 * 0 + k = k by omega)))) dX5_unlike_102 cm_X3_rowsOf ml_X5_167 im_X3_rowsOf se_X3_rowsOf T.1 rfl ⟨⟨Nat.le_of_ble_eq_true rfl, Nat.le_of_ble_eq_true rfl⟩, Nat.le_of_ble_eq_true rfl, Nat.le_of_ble_eq_true rfl⟩ rfl rfl (Nat.le_of_ble_eq_true rfl)) (fun v102 h102 hq102 => ?_)
      obtain ⟨rfl, rfl⟩ := hq102
      refine r_aload_n (pc := 105) C dX5_unlike_105 rfl rfl ?_
      refine r_iconst (pc := 106) (v := (nI 0)) C dX5_unlike_106 (by decide) ?_
      refine r_iload_n (pc := 107) C dX5_unlike_107 rfl rfl ?_
      refine r_calll (cr_V (pc := 108) C (c_X3_totalOf T (s := 0) (k := k) (by omega) (by omega) ((tS _ (by omega)).trans (congrArg (fun i => Sm i) (show 16 * 0 + k = k by omega)))) dX5_unlike_108 cm_X3_totalOf ml_X5_170 im_X3_totalOf se_X3_totalOf T.1 rfl ⟨⟨Nat.le_of_ble_eq_true rfl, Nat.le_of_ble_eq_true rfl⟩, Nat.le_of_ble_eq_true rfl, Nat.le_of_ble_eq_true rfl⟩ rfl rfl (Nat.le_of_ble_eq_true rfl)) (fun v108 h108 hq108 => ?_)
      obtain ⟨rfl, rfl⟩ := hq108
      refine r_calli (cr_V (pc := 111) C (c_X1_startsWith E.L.I E.K1 bf hkb (by omega) a3 a2.1 a2.2) dX5_unlike_111 cm_X1_startsWith ml_X5_359 im_X1_startsWith se_X1_startsWith E.L.I.1 rfl ⟨⟨Nat.le_of_ble_eq_true rfl, Nat.le_of_ble_eq_true rfl⟩, Nat.le_of_ble_eq_true rfl, Nat.le_of_ble_eq_true rfl⟩ rfl rfl (Nat.le_of_ble_eq_true rfl)) (fun v111 h111 hq111 => ?_)
      obtain ⟨rfl, rfl⟩ := hq111
      refine n_if_ne (pc := 114) (tgt := 120) C (by omega) dX5_unlike_114 (by decide) (fun c114 => ?_) (fun c114 => absurd c114 (by omega))
      refine n_iinc (pc := 120) (lv' := [_, _, _, _, _]) C dX5_unlike_120 rfl (by decide) rfl rfl ?_
      refine r_goto (pc := 123) (tgt := 4) C dX5_unlike_123 (by decide) ?_
      exact ih (k + 1) _ (by omega)
    refine r_iload_n (pc := 4) C dX5_unlike_4 rfl rfl ?_
    refine r_bipush (pc := 5) (v := (nI 16)) C dX5_unlike_5 (by decide) ?_
    refine n_icmp_ge (pc := 7) (tgt := 126) C (by omega) (by omega) dX5_unlike_7 (by decide) (fun c7 => absurd c7 (by omega)) (fun c7 => ?_)
    refine r_iconst (pc := 10) (v := (nI 0)) C dX5_unlike_10 (by decide) ?_
    refine r_istore (pc := 11) (lv' := [_, _, _, _, _]) C dX5_unlike_11 (by decide) rfl rfl ?_
    exact unl_l2 C E B T tM tS f A (by omega) t94 (tN t 0 0 - 1) 0 (by omega)
theorem c_X5_unlike (E : RX x m t e h) (B : TB t) {a : Nat} (T : T3 a h) {M N : Nat → Nat} {Sm S : Nat → Int64} (tM : ∀ i, i < 64 → hI h (a + 1) i = nI (M i)) (tS : ∀ i, i < 64 → hL h (a + 2) i = Sm i) (f : FLW x h N S) (A : AgT t M N Sm S) : MA G mX5_unlike 3 0 0 [.ref x, .ref a] h (Oi (fun v h' => v = nI 0 ∧ h' = h)) := by
  refine MA.intro (lv := [some (.ref x), some (.ref a), none, none, none]) (by decide) (Nat.le_of_ble_eq_true rfl) rfl (fun F C => ?_)
  have t126 : ∀ (x3 : Int32) (x4 : Option Value), WA G F mX5_unlike h 0 0 (MQA G F 0 0 (Oi (fun v h' => v = nI 0 ∧ h' = h))) 126 [some (.ref x), some (.ref a), some (.int (nI 0)), some (.int x3), x4] [] := by
    intro x3 x4
    refine r_iload_n (pc := 126) C dX5_unlike_126 rfl rfl ?_
    exact r_iret (pc := 127) C rfl (Nat.le_of_ble_eq_true rfl) (Nat.le_of_ble_eq_true rfl) ⟨_, rfl, ⟨rfl, rfl⟩⟩ dX5_unlike_127
  refine r_iconst (pc := 0) (v := (nI 0)) C dX5_unlike_0 (by decide) ?_
  refine r_istore_n (pc := 1) (lv' := [_, _, _, _, _]) C dX5_unlike_1 rfl (by decide) rfl rfl ?_
  refine r_iconst (pc := 2) (v := (nI 0)) C dX5_unlike_2 (by decide) ?_
  refine r_istore_n (pc := 3) (lv' := [_, _, _, _, _]) C dX5_unlike_3 rfl (by decide) rfl rfl ?_
  exact unl_l1 C E B T tM tS f A t126 16 0 _ (by omega)
theorem str_l2 (C : CX G F mX5_strayRows (Rm 3 0 0)) (E : RX x m t e h) (B : TB t) (HM : ∀ c r, r ∈ tC t c → ∃ g, g + 1 < tN t 0 0 ∧ c = home t g (tN t 2 r)) {c : Nat} (hc : c < 16 * (tN t 0 0 - 1))
    (kk : ∀ x4 x5 x6, WA G F mX5_strayRows h 0 0 Q 88 [some (.ref x), some (.int (nI 0)), some (.int (nI c)), some (.ref (x + 15 + c)), some (.int x4), some (.int x5), x6] []) :
    ∀ (rest : List Nat) (i : Nat) (x6 : Option Value), (tC t c).drop i = rest → i ≤ (tC t c).length → WA G F mX5_strayRows h 0 0 Q 29 [some (.ref x), some (.int (nI 0)), some (.int (nI c)), some (.ref (x + 15 + c)), some (.int (fsI rest)), some (.int (nI i)), x6] [] := by
  have b := B.S
  have bf := B.fed
  have bl := B.len c
  have K := E.k_ch c hc
  intro rest
  induction rest with
  | nil =>
    intro i x6 hd hi
    have hi2 : (tC t c).length ≤ i := List.drop_eq_nil_iff.mp hd
    refine r_iload (pc := 29) C dX5_strayRows_29 rfl ?_
    refine r_aload_n (pc := 31) C dX5_strayRows_31 rfl rfl ?_
    refine r_getIe (pc := 32) C fl_X5_189 (E.L.ch hc).2.1 rfl K.2.2.2.1 dX5_strayRows_32 ?_
    refine n_icmp_ge (pc := 35) (tgt := 88) C (by omega) (by omega) dX5_strayRows_35 (by decide) (fun c35 => ?_) (fun c35 => absurd c35 (by omega))
    exact kk _ _ _
  | cons r rest ih =>
    intro i x6 hd hi
    have hilt : i < (tC t c).length := by
      rcases Nat.lt_or_ge i (tC t c).length with z | z
      · exact z
      · rw [List.drop_eq_nil_iff.mpr z] at hd; cases hd
    have hrm : r ∈ tC t c := List.mem_of_mem_drop (i := i) (by rw [hd]; exact List.mem_cons_self ..)
    have hr := B.row hrm
    have hd2 : (tC t c).drop (i + 1) = rest := by rw [← List.tail_drop, hd]; rfl
    have CH := (E.k_beh c hc).drop i
    rw [hd] at CH
    have k15 := B.key r
    have ek : keyI t (nI r) = nI (tN t 2 r) := by
      unfold keyI
      rw [cif_t ⟨r, hr, rfl⟩, nI_clamp (by omega)]
    obtain ⟨g, hg, hcg⟩ := HM c r hrm
    have hgd := (home_lt B (k := tN t 2 r) hg).2
    have hg' : c / 16 = g := by rw [hcg]; exact hgd
    have hh : home t (c / 16) (tN t 2 r) = c := by rw [hg', ← hcg]
    have hr' : fsI (r :: rest) = nI r := rfl
    rw [hr']
    refine r_iload (pc := 29) C dX5_strayRows_29 rfl ?_
    refine r_aload_n (pc := 31) C dX5_strayRows_31 rfl rfl ?_
    refine r_getIe (pc := 32) C fl_X5_189 (E.L.ch hc).2.1 rfl K.2.2.2.1 dX5_strayRows_32 ?_
    refine n_icmp_ge (pc := 35) (tgt := 88) C (by omega) (by omega) dX5_strayRows_35 (by decide) (fun c35 => absurd c35 (by omega)) (fun c35 => ?_)
    refine r_aload_n (pc := 38) C dX5_strayRows_38 rfl rfl ?_
    refine r_iload_n (pc := 39) C dX5_strayRows_39 rfl rfl ?_
    refine r_calli (cr_S (pc := 40) C (c_X5_gapOf _ c (by omega)) dX5_strayRows_40 cm_X5_gapOf ml_X5_353 st_X5_gapOf ⟨⟨Nat.le_of_ble_eq_true rfl, Nat.le_of_ble_eq_true rfl⟩, Nat.le_of_ble_eq_true rfl, Nat.le_of_ble_eq_true rfl⟩ rfl rfl (Nat.le_of_ble_eq_true rfl)) (fun v40 h40 hq40 => ?_)
    obtain ⟨rfl, rfl⟩ := hq40
    refine r_aload_n (pc := 43) C dX5_strayRows_43 rfl rfl ?_
    refine r_getR (pc := 44) C fl_X5_16 E.L.o rfl E.L.r2 dX5_strayRows_44 ?_
    refine r_iload (pc := 47) C dX5_strayRows_47 rfl ?_
    refine r_calli (cr_V (pc := 49) C (c_X1_keyOf E.L.I E.K1 bf _) dX5_strayRows_49 cm_X1_keyOf ml_X5_204 im_X1_keyOf se_X1_keyOf E.L.I.1 rfl ⟨⟨Nat.le_of_ble_eq_true rfl, Nat.le_of_ble_eq_true rfl⟩, Nat.le_of_ble_eq_true rfl, Nat.le_of_ble_eq_true rfl⟩ rfl rfl (Nat.le_of_ble_eq_true rfl)) (fun v49 h49 hq49 => ?_)
    obtain ⟨rfl, rfl⟩ := hq49
    rw [ek]
    refine r_callq (cr_V (pc := 52) C (c_X5_channelOf E B (g := c / 16) (k := tN t 2 r) (by omega) (by omega)) dX5_strayRows_52 cm_X5_channelOf ml_X5_304 im_X5_channelOf se_X5_channelOf E.L.o rfl ⟨⟨Nat.le_of_ble_eq_true rfl, Nat.le_of_ble_eq_true rfl⟩, Nat.le_of_ble_eq_true rfl, Nat.le_of_ble_eq_true rfl⟩ rfl rfl (Nat.le_of_ble_eq_true rfl)) (fun v52 h52 hq52 => ?_)
    obtain ⟨rfl, rfl⟩ := hq52
    rw [if_pos (by omega), hh]
    refine r_astore (pc := 55) (lv' := [_, _, _, _, _, _, _]) C dX5_strayRows_55 (by decide) rfl rfl ?_
    refine r_aload (pc := 57) C dX5_strayRows_57 rfl ?_
    refine r_ifnull (pc := 59) C dX5_strayRows_59 ?_
    refine r_aload (pc := 62) C dX5_strayRows_62 rfl ?_
    refine r_getIe (pc := 64) C fl_X5_356 (E.L.ch hc).2.1 rfl K.1 dX5_strayRows_64 ?_
    refine r_iload_n (pc := 67) C dX5_strayRows_67 rfl rfl ?_
    refine n_icmp_eq (pc := 68) (tgt := 74) C (by omega) (by omega) dX5_strayRows_68 (by decide) (fun c68 => ?_) (fun c68 => absurd c68 (fun z => z rfl))
    refine r_aload_n (pc := 74) C dX5_strayRows_74 rfl rfl ?_
    refine r_iload (pc := 75) C dX5_strayRows_75 rfl ?_
    refine r_calli (cr_V (pc := 77) C (c_X0_rowBehind (E.L.ch hc).2.1 (E.L.ch hc).2.2 E.L.sb (by omega) CH.1) dX5_strayRows_77 cm_X0_rowBehind ml_X5_340 im_X0_rowBehind se_X0_rowBehind (E.L.ch hc).2.1 rfl ⟨⟨Nat.le_of_ble_eq_true rfl, Nat.le_of_ble_eq_true rfl⟩, Nat.le_of_ble_eq_true rfl, Nat.le_of_ble_eq_true rfl⟩ rfl rfl (Nat.le_of_ble_eq_true rfl)) (fun v77 h77 hq77 => ?_)
    obtain ⟨rfl, rfl⟩ := hq77
    refine r_istore (pc := 80) (lv' := [_, _, _, _, _, _, _]) C dX5_strayRows_80 (by decide) rfl rfl ?_
    refine n_iinc (pc := 82) (lv' := [_, _, _, _, _, _, _]) C dX5_strayRows_82 rfl (by decide) rfl rfl ?_
    refine r_goto (pc := 85) (tgt := 29) C dX5_strayRows_85 (by decide) ?_
    exact ih (i + 1) _ hd2 (by omega)
theorem str_l1 (C : CX G F mX5_strayRows (Rm 3 0 0)) (E : RX x m t e h) (B : TB t) (HM : ∀ c r, r ∈ tC t c → ∃ g, g + 1 < tN t 0 0 ∧ c = home t g (tN t 2 r))
    (kk : ∀ x2 x3 x4 x5 x6, WA G F mX5_strayRows h 0 0 Q 94 [some (.ref x), some (.int (nI 0)), some (.int x2), x3, x4, x5, x6] []) :
    ∀ (n c : Nat) (x3 x4 x5 x6 : Option Value), c + n = 16 * (tN t 0 0 - 1) → WA G F mX5_strayRows h 0 0 Q 4 [some (.ref x), some (.int (nI 0)), some (.int (nI c)), x3, x4, x5, x6] [] := by
  have b := B.S
  intro n
  induction n with
  | zero =>
    intro c x3 x4 x5 x6 hc
    refine r_iload_n (pc := 4) C dX5_strayRows_4 rfl rfl ?_
    refine r_aload_n (pc := 5) C dX5_strayRows_5 rfl rfl ?_
    refine r_getR (pc := 6) C fl_X5_75 E.L.o rfl E.L.r4 dX5_strayRows_6 ?_
    refine r_alen (pc := 9) C E.L.s4 (by decide) (by decide) dX5_strayRows_9 ?_
    refine n_icmp_ge (pc := 10) (tgt := 94) C (by omega) (by omega) dX5_strayRows_10 (by decide) (fun c10 => ?_) (fun c10 => absurd c10 (by omega))
    exact kk _ _ _ _ _
  | succ n ih =>
    intro c x3 x4 x5 x6 hc
    have hcl : c < 16 * (tN t 0 0 - 1) := by omega
    have K := E.k_ch c hcl
    have t88 : ∀ (y4 y5 : Int32) (y6 : Option Value), WA G F mX5_strayRows h 0 0 Q 88 [some (.ref x), some (.int (nI 0)), some (.int (nI c)), some (.ref (x + 15 + c)), some (.int y4), some (.int y5), y6] [] := by
      intro y4 y5 y6
      refine n_iinc (pc := 88) (lv' := [_, _, _, _, _, _, _]) C dX5_strayRows_88 rfl (by decide) rfl rfl ?_
      refine r_goto (pc := 91) (tgt := 4) C dX5_strayRows_91 (by decide) ?_
      exact ih (c + 1) _ _ _ _ (by omega)
    refine r_iload_n (pc := 4) C dX5_strayRows_4 rfl rfl ?_
    refine r_aload_n (pc := 5) C dX5_strayRows_5 rfl rfl ?_
    refine r_getR (pc := 6) C fl_X5_75 E.L.o rfl E.L.r4 dX5_strayRows_6 ?_
    refine r_alen (pc := 9) C E.L.s4 (by decide) (by decide) dX5_strayRows_9 ?_
    refine n_icmp_ge (pc := 10) (tgt := 94) C (by omega) (by omega) dX5_strayRows_10 (by decide) (fun c10 => absurd c10 (by omega)) (fun c10 => ?_)
    refine r_aload_n (pc := 13) C dX5_strayRows_13 rfl rfl ?_
    refine r_getR (pc := 14) C fl_X5_75 E.L.o rfl E.L.r4 dX5_strayRows_14 ?_
    refine r_iload_n (pc := 17) C dX5_strayRows_17 rfl rfl ?_
    refine n_aald (pc := 18) C E.L.s4 (by decide) (by omega) (E.L.ch hcl).1 dX5_strayRows_18 ?_ (by omega)
    refine r_astore_n (pc := 19) (lv' := [_, _, _, _, _, _, _]) C dX5_strayRows_19 rfl (by decide) rfl rfl ?_
    refine r_aload_n (pc := 20) C dX5_strayRows_20 rfl rfl ?_
    refine r_getIe (pc := 21) C fl_X5_337 (E.L.ch hcl).2.1 rfl K.2.1 dX5_strayRows_21 ?_
    refine r_istore (pc := 24) (lv' := [_, _, _, _, _, _, _]) C dX5_strayRows_24 (by decide) rfl rfl ?_
    refine r_iconst (pc := 26) (v := (nI 0)) C dX5_strayRows_26 (by decide) ?_
    refine r_istore (pc := 27) (lv' := [_, _, _, _, _, _, _]) C dX5_strayRows_27 (by decide) rfl rfl ?_
    exact str_l2 C E B HM hcl t88 (tC t c) 0 _ rfl (Nat.zero_le _)
theorem c_X5_strayRows (E : RX x m t e h) (B : TB t) (HM : ∀ c r, r ∈ tC t c → ∃ g, g + 1 < tN t 0 0 ∧ c = home t g (tN t 2 r)) : MA G mX5_strayRows 3 0 0 [.ref x] h (Oi (fun v h' => v = nI 0 ∧ h' = h)) := by
  refine MA.intro (lv := [some (.ref x), none, none, none, none, none, none]) (by decide) (Nat.le_of_ble_eq_true rfl) rfl (fun F C => ?_)
  have t94 : ∀ (x2 : Int32) (x3 x4 x5 x6 : Option Value), WA G F mX5_strayRows h 0 0 (MQA G F 0 0 (Oi (fun v h' => v = nI 0 ∧ h' = h))) 94 [some (.ref x), some (.int (nI 0)), some (.int x2), x3, x4, x5, x6] [] := by
    intro x2 x3 x4 x5 x6
    refine r_iload_n (pc := 94) C dX5_strayRows_94 rfl rfl ?_
    exact r_iret (pc := 95) C rfl (Nat.le_of_ble_eq_true rfl) (Nat.le_of_ble_eq_true rfl) ⟨_, rfl, ⟨rfl, rfl⟩⟩ dX5_strayRows_95
  refine r_iconst (pc := 0) (v := (nI 0)) C dX5_strayRows_0 (by decide) ?_
  refine r_istore_n (pc := 1) (lv' := [_, _, _, _, _, _, _]) C dX5_strayRows_1 rfl (by decide) rfl rfl ?_
  refine r_iconst (pc := 2) (v := (nI 0)) C dX5_strayRows_2 (by decide) ?_
  refine r_istore_n (pc := 3) (lv' := [_, _, _, _, _, _, _]) C dX5_strayRows_3 rfl (by decide) rfl rfl ?_
  exact str_l1 C E B HM t94 (16 * (tN t 0 0 - 1)) 0 _ _ _ _ (by omega)
end CA78
