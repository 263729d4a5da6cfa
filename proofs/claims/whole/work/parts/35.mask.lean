/-! ===== the reference: what it tells ===== -/
/-- a number of 0 .. n, or n + 1 -/
def swN (n : Nat) (x : Int32) : Nat := if x.toInt < 0 ∨ (n : Int) < x.toInt then n + 1 else x.toNatClampNeg
theorem sw3 (x : Int32) : x = nI 0 ∨ x = nI 1 ∨ x = nI 2 ∨ x = nI 3 ∨ (x.toInt < 0 ∨ 3 < x.toInt) := by
  by_cases h : x.toInt < 0 ∨ 3 < x.toInt
  · exact Or.inr (Or.inr (Or.inr (Or.inr h)))
  · have h3 : ¬ x < 0 := fun z => h (Or.inl (by have := Int32.lt_iff_toInt_lt.mp z; simpa using this))
    obtain ⟨j, hj, rfl⟩ := nI_of h3
    rw [nI_toInt hj] at h
    rcases (show j = 0 ∨ j = 1 ∨ j = 2 ∨ j = 3 by omega) with rfl | rfl | rfl | rfl <;> simp
theorem sw9 (x : Int32) : x = nI 0 ∨ x = nI 1 ∨ x = nI 2 ∨ x = nI 3 ∨ x = nI 4 ∨ x = nI 5 ∨ x = nI 6 ∨ x = nI 7 ∨ x = nI 8 ∨ x = nI 9 ∨ (x.toInt < 0 ∨ 9 < x.toInt) := by
  by_cases h : x.toInt < 0 ∨ 9 < x.toInt
  · simp [h]
  · have h3 : ¬ x < 0 := fun z => h (Or.inl (by have := Int32.lt_iff_toInt_lt.mp z; simpa using this))
    obtain ⟨j, hj, rfl⟩ := nI_of h3
    rw [nI_toInt hj] at h
    rcases (show j = 0 ∨ j = 1 ∨ j = 2 ∨ j = 3 ∨ j = 4 ∨ j = 5 ∨ j = 6 ∨ j = 7 ∨ j = 8 ∨ j = 9 by omega) with rfl | rfl | rfl | rfl | rfl | rfl | rfl | rfl | rfl | rfl <;> simp
theorem swN_out {n : Nat} {x : Int32} (h : x.toInt < 0 ∨ (n : Int) < x.toInt) : swN n x = n + 1 := if_pos h
/-- how many of the first n INPUT rows are READ -/
noncomputable def rdC (t : TS) : Nat → Nat
  | 0 => 0
  | n + 1 => rdC t n + cif (isRd t n) 1 0
/-- how many rows the first n channels hold -/
def hsum (t : TS) : Nat → Nat
  | 0 => 0
  | n + 1 => hsum t n + (tC t n).length
noncomputable def spAbout (t : TS) (x : Int32) : Int32 := match swN 9 x with
  | 0 => nI (tN t 0 0)
  | 1 => nI (tN t 0 3)
  | 2 => nI (rdC t (tN t 0 3))
  | 3 => tI t 0 1
  | 4 => nI (tN t 0 4)
  | 5 => nI (tN t 0 5) - 1
  | 6 => nI (hsum t 48)
  | 7 => nI (tN t 0 1)
  | 8 => tI t 0 0
  | 9 => nI (tN t 0 2)
  | _ => cif (nI 10 ≤ x ∧ inN (x - nI 10) (tN t 0 0)) (nI (tN t 1 (x - nI 10).toNatClampNeg)) (-102)
section MA35
variable {G : GP} {F : FX} {m : Nat} {Q : State → Prop}
theorem readMany_l (C : CX G F mX6_readMany (Rm 1 0 0)) {t : TS} {h : AH} (E : RM m t h) (B : TB t) (k : WA G F mX6_readMany h 0 0 Q 34 [some (.ref m), some (.int (nI (rdC t (tN t 0 3)))), some (.int (nI (tN t 0 3)))] []) :
    ∀ (n i b : Nat), i + n = tN t 0 3 → b = rdC t i → WA G F mX6_readMany h 0 0 Q 4 [some (.ref m), some (.int (nI b)), some (.int (nI i))] [] := by
  have b1 := B.fed
  intro n
  induction n with
  | zero =>
    intro i b hi hb
    obtain rfl : i = tN t 0 3 := by omega
    subst hb
    refine r_iload_n (pc := 4) C dX6_readMany_4 rfl rfl ?_
    refine r_aload_n (pc := 5) C dX6_readMany_5 rfl rfl ?_
    refine r_getIe (pc := 6) C fl_X6_111 E.L.o rfl E.fed dX6_readMany_6 ?_
    refine n_icmp_ge (pc := 9) (tgt := 34) C (by omega) (by omega) dX6_readMany_9 (by decide) (fun c9 => ?_) (fun c9 => absurd c9 (by omega))
    exact k
  | succ n ih =>
    intro i b hi hb
    refine r_iload_n (pc := 4) C dX6_readMany_4 rfl rfl ?_
    refine r_aload_n (pc := 5) C dX6_readMany_5 rfl rfl ?_
    refine r_getIe (pc := 6) C fl_X6_111 E.L.o rfl E.fed dX6_readMany_6 ?_
    refine n_icmp_ge (pc := 9) (tgt := 34) C (by omega) (by omega) dX6_readMany_9 (by decide) (fun c9 => absurd c9 (by omega)) (fun c9 => ?_)
    refine r_iload_n (pc := 12) C dX6_readMany_12 rfl rfl ?_
    refine r_aload_n (pc := 13) C dX6_readMany_13 rfl rfl ?_
    refine r_iload_n (pc := 14) C dX6_readMany_14 rfl rfl ?_
    refine r_calli (cr_V (pc := 15) C (c_X6_isRead E B (r := i) (by omega)) dX6_readMany_15 cm_X6_isRead ml_X6_137 im_X6_isRead se_X6_isRead E.L.o rfl ⟨⟨Nat.le_of_ble_eq_true rfl, Nat.le_of_ble_eq_true rfl⟩, Nat.le_of_ble_eq_true rfl, Nat.le_of_ble_eq_true rfl⟩ rfl rfl (Nat.le_of_ble_eq_true rfl)) (fun v15 h15 hq15 => ?_)
    obtain ⟨rfl, rfl⟩ := hq15
    refine b_if_eq (pc := 18) (tgt := 25) C dX6_readMany_18 (by decide) (fun c18 => ?_) (fun c18 => ?_)
    · refine r_iconst (pc := 25) (v := (nI 0)) C dX6_readMany_25 (by decide) ?_
      refine n_iadd (pc := 26) C dX6_readMany_26 ?_
      refine r_istore_n (pc := 27) (lv' := [_, _, _]) C dX6_readMany_27 rfl (by decide) rfl rfl ?_
      refine n_iinc (pc := 28) (lv' := [_, _, _]) C dX6_readMany_28 rfl (by decide) rfl rfl ?_
      refine r_goto (pc := 31) (tgt := 4) C dX6_readMany_31 (by decide) ?_
      exact ih (i + 1) _ (by omega) (by unfold rdC; rw [hb, cif_f c18])
    · refine r_iconst (pc := 21) (v := (nI 1)) C dX6_readMany_21 (by decide) ?_
      refine r_goto (pc := 22) (tgt := 26) C dX6_readMany_22 (by decide) ?_
      refine n_iadd (pc := 26) C dX6_readMany_26 ?_
      refine r_istore_n (pc := 27) (lv' := [_, _, _]) C dX6_readMany_27 rfl (by decide) rfl rfl ?_
      refine n_iinc (pc := 28) (lv' := [_, _, _]) C dX6_readMany_28 rfl (by decide) rfl rfl ?_
      refine r_goto (pc := 31) (tgt := 4) C dX6_readMany_31 (by decide) ?_
      exact ih (i + 1) _ (by omega) (by unfold rdC; rw [hb, cif_t c18])
theorem heldAll_l (C : CX G F mX6_heldAll (Rm 0 0 0)) {t : TS} {h : AH} (E : RM m t h) (k : WA G F mX6_heldAll h 0 0 Q 25 [some (.ref m), some (.int (nI (hsum t 48))), some (.int (nI 48))] []) :
    ∀ (n i b : Nat), i + n = 48 → b = hsum t i → WA G F mX6_heldAll h 0 0 Q 4 [some (.ref m), some (.int (nI b)), some (.int (nI i))] [] := by
  intro n
  induction n with
  | zero =>
    intro i b hi hb
    obtain rfl : i = 48 := by omega
    subst hb
    refine r_iload_n (pc := 4) C dX6_heldAll_4 rfl rfl ?_
    refine r_bipush (pc := 5) (v := (nI 48)) C dX6_heldAll_5 (by decide) ?_
    refine n_icmp_ge (pc := 7) (tgt := 25) C (by omega) (by omega) dX6_heldAll_7 (by decide) (fun c7 => ?_) (fun c7 => absurd c7 (by omega))
    exact k
  | succ n ih =>
    intro i b hi hb
    refine r_iload_n (pc := 4) C dX6_heldAll_4 rfl rfl ?_
    refine r_bipush (pc := 5) (v := (nI 48)) C dX6_heldAll_5 (by decide) ?_
    refine n_icmp_ge (pc := 7) (tgt := 25) C (by omega) (by omega) dX6_heldAll_7 (by decide) (fun c7 => absurd c7 (by omega)) (fun c7 => ?_)
    refine r_iload_n (pc := 10) C dX6_heldAll_10 rfl rfl ?_
    refine r_aload_n (pc := 11) C dX6_heldAll_11 rfl rfl ?_
    refine r_getR (pc := 12) C fl_X6_36 E.L.o rfl E.L.r11 dX6_heldAll_12 ?_
    refine r_iload_n (pc := 15) C dX6_heldAll_15 rfl rfl ?_
    refine n_iald (pc := 16) C E.L.s11 (by omega) (E.k_held _ (by omega)) dX6_heldAll_16 ?_
    refine n_iadd (pc := 17) C dX6_heldAll_17 ?_
    refine r_istore_n (pc := 18) (lv' := [_, _, _]) C dX6_heldAll_18 rfl (by decide) rfl rfl ?_
    refine n_iinc (pc := 19) (lv' := [_, _, _]) C dX6_heldAll_19 rfl (by decide) rfl rfl ?_
    refine r_goto (pc := 22) (tgt := 4) C dX6_heldAll_22 (by decide) ?_
    exact ih (i + 1) _ (by omega) (by unfold hsum; rw [hb])
end MA35
theorem c_X6_readMany {G : GP} {m : Nat} {t : TS} {h : AH} (E : RM m t h) (B : TB t) : MA G mX6_readMany 1 0 0 [.ref m] h (Oi (fun v h' => v = nI (rdC t (tN t 0 3)) ∧ h' = h)) := by
  refine MA.intro (lv := [some (.ref m), none, none]) (by decide) (Nat.le_of_ble_eq_true rfl) rfl (fun F C => ?_)
  refine r_iconst (pc := 0) (v := (nI 0)) C dX6_readMany_0 (by decide) ?_
  refine r_istore_n (pc := 1) (lv' := [_, _, _]) C dX6_readMany_1 rfl (by decide) rfl rfl ?_
  refine r_iconst (pc := 2) (v := (nI 0)) C dX6_readMany_2 (by decide) ?_
  refine r_istore_n (pc := 3) (lv' := [_, _, _]) C dX6_readMany_3 rfl (by decide) rfl rfl ?_
  refine readMany_l C E B ?_ (tN t 0 3) 0 0 (Nat.zero_add _) rfl
  refine r_iload_n (pc := 34) C dX6_readMany_34 rfl rfl ?_
  exact r_iret (pc := 35) C rfl (Nat.le_of_ble_eq_true rfl) (Nat.le_of_ble_eq_true rfl) ⟨_, rfl, ⟨rfl, rfl⟩⟩ dX6_readMany_35
theorem c_X6_heldAll {G : GP} {m : Nat} {t : TS} {h : AH} (E : RM m t h) : MA G mX6_heldAll 0 0 0 [.ref m] h (Oi (fun v h' => v = nI (hsum t 48) ∧ h' = h)) := by
  refine MA.intro (lv := [some (.ref m), none, none]) (by decide) (Nat.le_of_ble_eq_true rfl) rfl (fun F C => ?_)
  refine r_iconst (pc := 0) (v := (nI 0)) C dX6_heldAll_0 (by decide) ?_
  refine r_istore_n (pc := 1) (lv' := [_, _, _]) C dX6_heldAll_1 rfl (by decide) rfl rfl ?_
  refine r_iconst (pc := 2) (v := (nI 0)) C dX6_heldAll_2 (by decide) ?_
  refine r_istore_n (pc := 3) (lv' := [_, _, _]) C dX6_heldAll_3 rfl (by decide) rfl rfl ?_
  refine heldAll_l C E ?_ 48 0 0 rfl rfl
  refine r_iload_n (pc := 25) C dX6_heldAll_25 rfl rfl ?_
  exact r_iret (pc := 26) C rfl (Nat.le_of_ble_eq_true rfl) (Nat.le_of_ble_eq_true rfl) ⟨_, rfl, ⟨rfl, rfl⟩⟩ dX6_heldAll_26
theorem sub10 {k : Nat} (h : 10 ≤ k) : nI k - nI 10 = nI (k - 10) := pk_sub h
theorem ge10 {x : Int32} (h : nI 10 ≤ x) : ∃ k, 10 ≤ k ∧ k < 2147483648 ∧ x = nI k := by
  have h0 : nI 0 ≤ x := Int32.le_trans (by decide) h
  have h3 : ¬ x < 0 := by rw [nI_0] at h0; exact Int32.not_lt.mpr h0
  obtain ⟨j, hj, rfl⟩ := nI_of h3
  exact ⟨j, (nI_leI (by decide) hj).mp h, hj, rfl⟩
theorem c_X6_about {G : GP} {m : Nat} {t : TS} {h : AH} (E : RM m t h) (B : TB t) (x : Int32) : MA G mX6_about 2 0 0 [.ref m, .int x] h (Oi (fun v h' => v = spAbout t x ∧ h' = h)) := by
  have b0 := B.S
  refine MA.intro (lv := [some (.ref m), some (.int x)]) (by decide) (Nat.le_of_ble_eq_true rfl) rfl (fun F C => ?_)
  refine r_iload_n (pc := 0) C dX6_about_0 rfl rfl ?_
  rcases sw9 x with rfl | rfl | rfl | rfl | rfl | rfl | rfl | rfl | rfl | rfl | hsw1
  · refine r_tableIn (pc := 1) (tgt := 56) (off := 55) C dX6_about_1 (by decide) (by decide) (by decide) (by decide) ?_
    refine r_aload_n (pc := 56) C dX6_about_56 rfl rfl ?_
    refine r_getIe (pc := 57) C fl_X6_91 E.L.o rfl E.S dX6_about_57 ?_
    exact r_iret (pc := 60) C rfl (Nat.le_of_ble_eq_true rfl) (Nat.le_of_ble_eq_true rfl) ⟨_, rfl, ⟨rfl, rfl⟩⟩ dX6_about_60
  · refine r_tableIn (pc := 1) (tgt := 61) (off := 60) C dX6_about_1 (by decide) (by decide) (by decide) (by decide) ?_
    refine r_aload_n (pc := 61) C dX6_about_61 rfl rfl ?_
    refine r_getIe (pc := 62) C fl_X6_111 E.L.o rfl E.fed dX6_about_62 ?_
    exact r_iret (pc := 65) C rfl (Nat.le_of_ble_eq_true rfl) (Nat.le_of_ble_eq_true rfl) ⟨_, rfl, ⟨rfl, rfl⟩⟩ dX6_about_65
  · refine r_tableIn (pc := 1) (tgt := 66) (off := 65) C dX6_about_1 (by decide) (by decide) (by decide) (by decide) ?_
    refine r_aload_n (pc := 66) C dX6_about_66 rfl rfl ?_
    refine r_calli (cr_V (pc := 67) C (c_X6_readMany E B) dX6_about_67 cm_X6_readMany ml_X6_167 im_X6_readMany se_X6_readMany E.L.o rfl ⟨⟨Nat.le_of_ble_eq_true rfl, Nat.le_of_ble_eq_true rfl⟩, Nat.le_of_ble_eq_true rfl, Nat.le_of_ble_eq_true rfl⟩ rfl rfl (Nat.le_of_ble_eq_true rfl)) (fun v67 h67 hq67 => ?_)
    obtain ⟨rfl, rfl⟩ := hq67
    exact r_iret (pc := 70) C rfl (Nat.le_of_ble_eq_true rfl) (Nat.le_of_ble_eq_true rfl) ⟨_, rfl, ⟨rfl, rfl⟩⟩ dX6_about_70
  · refine r_tableIn (pc := 1) (tgt := 71) (off := 70) C dX6_about_1 (by decide) (by decide) (by decide) (by decide) ?_
    refine r_aload_n (pc := 71) C dX6_about_71 rfl rfl ?_
    refine r_getIe (pc := 72) C fl_X6_102 E.L.o rfl E.turns dX6_about_72 ?_
    exact r_iret (pc := 75) C rfl (Nat.le_of_ble_eq_true rfl) (Nat.le_of_ble_eq_true rfl) ⟨_, rfl, ⟨rfl, rfl⟩⟩ dX6_about_75
  · refine r_tableIn (pc := 1) (tgt := 76) (off := 75) C dX6_about_1 (by decide) (by decide) (by decide) (by decide) ?_
    refine r_aload_n (pc := 76) C dX6_about_76 rfl rfl ?_
    refine r_getIe (pc := 77) C fl_X6_105 E.L.o rfl E.marks dX6_about_77 ?_
    exact r_iret (pc := 80) C rfl (Nat.le_of_ble_eq_true rfl) (Nat.le_of_ble_eq_true rfl) ⟨_, rfl, ⟨rfl, rfl⟩⟩ dX6_about_80
  · refine r_tableIn (pc := 1) (tgt := 81) (off := 80) C dX6_about_1 (by decide) (by decide) (by decide) (by decide) ?_
    refine r_aload_n (pc := 81) C dX6_about_81 rfl rfl ?_
    refine r_getIe (pc := 82) C fl_X6_58 E.L.o rfl E.uw dX6_about_82 ?_
    exact r_iret (pc := 85) C rfl (Nat.le_of_ble_eq_true rfl) (Nat.le_of_ble_eq_true rfl) ⟨_, rfl, ⟨rfl, rfl⟩⟩ dX6_about_85
  · refine r_tableIn (pc := 1) (tgt := 86) (off := 85) C dX6_about_1 (by decide) (by decide) (by decide) (by decide) ?_
    refine r_aload_n (pc := 86) C dX6_about_86 rfl rfl ?_
    refine r_calli (cr_V (pc := 87) C (c_X6_heldAll E) dX6_about_87 cm_X6_heldAll ml_X6_171 im_X6_heldAll se_X6_heldAll E.L.o rfl ⟨⟨Nat.le_of_ble_eq_true rfl, Nat.le_of_ble_eq_true rfl⟩, Nat.le_of_ble_eq_true rfl, Nat.le_of_ble_eq_true rfl⟩ rfl rfl (Nat.le_of_ble_eq_true rfl)) (fun v87 h87 hq87 => ?_)
    obtain ⟨rfl, rfl⟩ := hq87
    exact r_iret (pc := 90) C rfl (Nat.le_of_ble_eq_true rfl) (Nat.le_of_ble_eq_true rfl) ⟨_, rfl, ⟨rfl, rfl⟩⟩ dX6_about_90
  · refine r_tableIn (pc := 1) (tgt := 91) (off := 90) C dX6_about_1 (by decide) (by decide) (by decide) (by decide) ?_
    refine r_aload_n (pc := 91) C dX6_about_91 rfl rfl ?_
    refine r_getIe (pc := 92) C fl_X6_13 E.L.o rfl E.cap dX6_about_92 ?_
    exact r_iret (pc := 95) C rfl (Nat.le_of_ble_eq_true rfl) (Nat.le_of_ble_eq_true rfl) ⟨_, rfl, ⟨rfl, rfl⟩⟩ dX6_about_95
  · refine r_tableIn (pc := 1) (tgt := 96) (off := 95) C dX6_about_1 (by decide) (by decide) (by decide) (by decide) ?_
    refine r_aload_n (pc := 96) C dX6_about_96 rfl rfl ?_
    refine r_getIe (pc := 97) C fl_X6_108 E.L.o rfl E.bnd dX6_about_97 ?_
    exact r_iret (pc := 100) C rfl (Nat.le_of_ble_eq_true rfl) (Nat.le_of_ble_eq_true rfl) ⟨_, rfl, ⟨rfl, rfl⟩⟩ dX6_about_100
  · refine r_tableIn (pc := 1) (tgt := 101) (off := 100) C dX6_about_1 (by decide) (by decide) (by decide) (by decide) ?_
    refine r_aload_n (pc := 101) C dX6_about_101 rfl rfl ?_
    refine r_getIe (pc := 102) C fl_X6_17 E.L.o rfl E.lim dX6_about_102 ?_
    exact r_iret (pc := 105) C rfl (Nat.le_of_ble_eq_true rfl) (Nat.le_of_ble_eq_true rfl) ⟨_, rfl, ⟨rfl, rfl⟩⟩ dX6_about_105
  · refine r_tableOut (pc := 1) (tgt := 106) C dX6_about_1 hsw1 (by decide) ?_
    have e0 : spAbout t x = cif (nI 10 ≤ x ∧ inN (x - nI 10) (tN t 0 0)) (nI (tN t 1 (x - nI 10).toNatClampNeg)) (-102) := by unfold spAbout; rw [swN_out hsw1]; rfl
    rw [e0]
    refine r_iload_n (pc := 106) C dX6_about_106 rfl rfl ?_
    refine r_bipush (pc := 107) (v := (nI 10)) C dX6_about_107 (by decide) ?_
    refine r_icmp_lt (pc := 109) (tgt := 135) C dX6_about_109 (by decide) (fun c109 => ?_) (fun c109 => ?_)
    · refine r_bipush (pc := 135) (v := (-102)) C dX6_about_135 (by decide) ?_
      exact r_iret (pc := 137) C rfl (Nat.le_of_ble_eq_true rfl) (Nat.le_of_ble_eq_true rfl) ⟨_, rfl, ⟨by first | (rw [cif_t hin, sub10 hk, cl (by omega)]; done) | (rw [cif_f (fun z => absurd z.1 (Int32.not_le.mpr c109))]; done) | (rw [cif_f (fun z => c120 (by rw [← sub10 hk]; exact z.2))]; done), rfl⟩⟩ dX6_about_137
    · obtain ⟨k, hk, hk2, rfl⟩ := ge10 (Int32.not_lt.mp c109)
      refine r_aload_n (pc := 112) C dX6_about_112 rfl rfl ?_
      refine r_iload_n (pc := 113) C dX6_about_113 rfl rfl ?_
      refine r_bipush (pc := 114) (v := (nI 10)) C dX6_about_114 (by decide) ?_
      refine n_isub (pc := 116) C (by omega) dX6_about_116 ?_
      refine r_calli (cr_V (pc := 117) C (c_X6_isStage E B _) dX6_about_117 cm_X6_isStage ml_X6_98 im_X6_isStage se_X6_isStage E.L.o rfl ⟨⟨Nat.le_of_ble_eq_true rfl, Nat.le_of_ble_eq_true rfl⟩, Nat.le_of_ble_eq_true rfl, Nat.le_of_ble_eq_true rfl⟩ rfl rfl (Nat.le_of_ble_eq_true rfl)) (fun v117 h117 hq117 => ?_)
      obtain ⟨rfl, rfl⟩ := hq117
      refine b_if_eq (pc := 120) (tgt := 135) C dX6_about_120 (by decide) (fun c120 => ?_) (fun c120 => ?_)
      · refine r_bipush (pc := 135) (v := (-102)) C dX6_about_135 (by decide) ?_
        exact r_iret (pc := 137) C rfl (Nat.le_of_ble_eq_true rfl) (Nat.le_of_ble_eq_true rfl) ⟨_, rfl, ⟨by first | (rw [cif_t hin, sub10 hk, cl (by omega)]; done) | (rw [cif_f (fun z => absurd z.1 (Int32.not_le.mpr c109))]; done) | (rw [cif_f (fun z => c120 (by rw [← sub10 hk]; exact z.2))]; done), rfl⟩⟩ dX6_about_137
      · have hin : nI 10 ≤ nI k ∧ inN (nI k - nI 10) (tN t 0 0) := ⟨Int32.not_lt.mp c109, by rw [sub10 hk]; exact c120⟩
        obtain ⟨s, hs, es⟩ := id c120
        have ek : k - 10 = s := nI_in2 (by omega) (by omega) es
        refine r_aload_n (pc := 123) C dX6_about_123 rfl rfl ?_
        refine r_getR (pc := 124) C fl_X6_7 E.L.o rfl E.L.r1 dX6_about_124 ?_
        refine r_iload_n (pc := 127) C dX6_about_127 rfl rfl ?_
        refine r_bipush (pc := 128) (v := (nI 10)) C dX6_about_128 (by decide) ?_
        refine n_isub (pc := 130) C (by omega) dX6_about_130 ?_
        refine n_iald (pc := 131) C E.L.s1 (by omega) (E.k_P _ (by omega)) dX6_about_131 ?_
        refine r_goto (pc := 132) (tgt := 137) C dX6_about_132 (by decide) ?_
        exact r_iret (pc := 137) C rfl (Nat.le_of_ble_eq_true rfl) (Nat.le_of_ble_eq_true rfl) ⟨_, rfl, ⟨by first | (rw [cif_t hin, sub10 hk, cl (by omega)]; done) | (rw [cif_f (fun z => absurd z.1 (Int32.not_le.mpr c109))]; done) | (rw [cif_f (fun z => c120 (by rw [← sub10 hk]; exact z.2))]; done), rfl⟩⟩ dX6_about_137
noncomputable def spMany (t : TS) (x y : Int32) : Int32 := cif (inN x (tN t 0 0)) (cif (nI 0 ≤ y ∧ y ≤ nI 15) (nI (tN t 3 (16 * x.toNatClampNeg + y.toNatClampNeg))) (-102)) (-101)
noncomputable def spSum (t : TS) (x y : Int32) : Int64 := cif (inN x (tN t 0 0)) (cif (nI 0 ≤ y ∧ y ≤ nI 15) (tL t 1 (16 * x.toNatClampNeg + y.toNatClampNeg)) 0) 0
theorem c_X6_many {G : GP} {m : Nat} {t : TS} {h : AH} (E : RM m t h) (B : TB t) (x y : Int32) : MA G mX6_many 2 0 0 [.ref m, .int x, .int y] h (Oi (fun v h' => v = spMany t x y ∧ h' = h)) := by
  have b0 := B.S
  refine MA.intro (lv := [some (.ref m), some (.int x), some (.int y)]) (by decide) (Nat.le_of_ble_eq_true rfl) rfl (fun F C => ?_)
  refine r_aload_n (pc := 0) C dX6_many_0 rfl rfl ?_
  refine r_iload_n (pc := 1) C dX6_many_1 rfl rfl ?_
  refine r_calli (cr_V (pc := 2) C (c_X6_isStage E B _) dX6_many_2 cm_X6_isStage ml_X6_98 im_X6_isStage se_X6_isStage E.L.o rfl ⟨⟨Nat.le_of_ble_eq_true rfl, Nat.le_of_ble_eq_true rfl⟩, Nat.le_of_ble_eq_true rfl, Nat.le_of_ble_eq_true rfl⟩ rfl rfl (Nat.le_of_ble_eq_true rfl)) (fun v2 h2 hq2 => ?_)
  obtain ⟨rfl, rfl⟩ := hq2
  refine b_if_ne (pc := 5) (tgt := 13) C dX6_many_5 (by decide) (fun c5 => ?_) (fun c5 => ?_)
  · refine r_iload_n (pc := 13) C dX6_many_13 rfl rfl ?_
    refine r_iconst (pc := 14) (v := (nI 0)) C dX6_many_14 (by decide) ?_
    refine r_bipush (pc := 15) (v := (nI 15)) C dX6_many_15 (by decide) ?_
    refine r_calli (cr_S (pc := 17) C (c_X6_in _ _ _ _) dX6_many_17 cm_X6_in ml_X6_94 st_X6_in ⟨⟨Nat.le_of_ble_eq_true rfl, Nat.le_of_ble_eq_true rfl⟩, Nat.le_of_ble_eq_true rfl, Nat.le_of_ble_eq_true rfl⟩ rfl rfl (Nat.le_of_ble_eq_true rfl)) (fun v17 h17 hq17 => ?_)
    obtain ⟨rfl, rfl⟩ := hq17
    refine b_if_eq (pc := 20) (tgt := 37) C dX6_many_20 (by decide) (fun c20 => ?_) (fun c20 => ?_)
    · have z : spMany t x y = -102 := (cif_t c5).trans (cif_f c20)
      refine r_bipush (pc := 37) (v := (-102)) C dX6_many_37 (by decide) ?_
      exact r_iret (pc := 39) C rfl (Nat.le_of_ble_eq_true rfl) (Nat.le_of_ble_eq_true rfl) ⟨_, rfl, ⟨z.symm, rfl⟩⟩ dX6_many_39
    · obtain ⟨s, hs, rfl⟩ := id c5
      obtain ⟨k, h1, h2, rfl⟩ := inR_of (by decide) c20
      have z : spMany t (nI s) (nI k) = nI (tN t 3 (16 * s + k)) := (cif_t c5).trans ((cif_t c20).trans (by rw [cl (by omega), cl (by omega)]))
      refine r_aload_n (pc := 23) C dX6_many_23 rfl rfl ?_
      refine r_getR (pc := 24) C fl_X6_27 E.L.o rfl E.L.r8 dX6_many_24 ?_
      refine r_bipush (pc := 27) (v := (nI 16)) C dX6_many_27 (by decide) ?_
      refine r_iload_n (pc := 29) C dX6_many_29 rfl rfl ?_
      refine n_imul (pc := 30) C dX6_many_30 ?_
      refine r_iload_n (pc := 31) C dX6_many_31 rfl rfl ?_
      refine n_iadd (pc := 32) C dX6_many_32 ?_
      refine n_iald (pc := 33) C E.L.s8 (by omega) (E.k_many _ (by omega)) dX6_many_33 ?_
      refine r_goto (pc := 34) (tgt := 39) C dX6_many_34 (by decide) ?_
      exact r_iret (pc := 39) C rfl (Nat.le_of_ble_eq_true rfl) (Nat.le_of_ble_eq_true rfl) ⟨_, rfl, ⟨z.symm, rfl⟩⟩ dX6_many_39
  · have z : spMany t x y = -101 := cif_f c5
    refine r_bipush (pc := 8) (v := (-101)) C dX6_many_8 (by decide) ?_
    refine r_goto (pc := 10) (tgt := 39) C dX6_many_10 (by decide) ?_
    exact r_iret (pc := 39) C rfl (Nat.le_of_ble_eq_true rfl) (Nat.le_of_ble_eq_true rfl) ⟨_, rfl, ⟨z.symm, rfl⟩⟩ dX6_many_39
theorem c_X6_sum {G : GP} {m : Nat} {t : TS} {h : AH} (E : RM m t h) (B : TB t) (x y : Int32) : MA G mX6_sum 2 0 0 [.ref m, .int x, .int y] h (Ol (fun v h' => v = spSum t x y ∧ h' = h)) := by
  have b0 := B.S
  refine MA.intro (lv := [some (.ref m), some (.int x), some (.int y)]) (by decide) (Nat.le_of_ble_eq_true rfl) rfl (fun F C => ?_)
  refine r_aload_n (pc := 0) C dX6_sum_0 rfl rfl ?_
  refine r_iload_n (pc := 1) C dX6_sum_1 rfl rfl ?_
  refine r_calli (cr_V (pc := 2) C (c_X6_isStage E B _) dX6_sum_2 cm_X6_isStage ml_X6_98 im_X6_isStage se_X6_isStage E.L.o rfl ⟨⟨Nat.le_of_ble_eq_true rfl, Nat.le_of_ble_eq_true rfl⟩, Nat.le_of_ble_eq_true rfl, Nat.le_of_ble_eq_true rfl⟩ rfl rfl (Nat.le_of_ble_eq_true rfl)) (fun v2 h2 hq2 => ?_)
  obtain ⟨rfl, rfl⟩ := hq2
  refine b_if_eq (pc := 5) (tgt := 32) C dX6_sum_5 (by decide) (fun c5 => ?_) (fun c5 => ?_)
  · have z : spSum t x y = 0 := cif_f c5
    refine r_lconst (pc := 32) (v := 0) C dX6_sum_32 (by decide) ?_
    exact r_lret (pc := 33) C rfl (Nat.le_of_ble_eq_true rfl) (Nat.le_of_ble_eq_true rfl) ⟨_, rfl, ⟨z.symm, rfl⟩⟩ dX6_sum_33
  · refine r_iload_n (pc := 8) C dX6_sum_8 rfl rfl ?_
    refine r_iconst (pc := 9) (v := (nI 0)) C dX6_sum_9 (by decide) ?_
    refine r_bipush (pc := 10) (v := (nI 15)) C dX6_sum_10 (by decide) ?_
    refine r_calli (cr_S (pc := 12) C (c_X6_in _ _ _ _) dX6_sum_12 cm_X6_in ml_X6_94 st_X6_in ⟨⟨Nat.le_of_ble_eq_true rfl, Nat.le_of_ble_eq_true rfl⟩, Nat.le_of_ble_eq_true rfl, Nat.le_of_ble_eq_true rfl⟩ rfl rfl (Nat.le_of_ble_eq_true rfl)) (fun v12 h12 hq12 => ?_)
    obtain ⟨rfl, rfl⟩ := hq12
    refine b_if_eq (pc := 15) (tgt := 32) C dX6_sum_15 (by decide) (fun c15 => ?_) (fun c15 => ?_)
    · have z : spSum t x y = 0 := (cif_t c5).trans (cif_f c15)
      refine r_lconst (pc := 32) (v := 0) C dX6_sum_32 (by decide) ?_
      exact r_lret (pc := 33) C rfl (Nat.le_of_ble_eq_true rfl) (Nat.le_of_ble_eq_true rfl) ⟨_, rfl, ⟨z.symm, rfl⟩⟩ dX6_sum_33
    · obtain ⟨s, hs, rfl⟩ := id c5
      obtain ⟨k, h1, h2, rfl⟩ := inR_of (by decide) c15
      have z : spSum t (nI s) (nI k) = tL t 1 (16 * s + k) := (cif_t c5).trans ((cif_t c15).trans (by rw [cl (by omega), cl (by omega)]))
      refine r_aload_n (pc := 18) C dX6_sum_18 rfl rfl ?_
      refine r_getR (pc := 19) C fl_X6_30 E.L.o rfl E.L.r9 dX6_sum_19 ?_
      refine r_bipush (pc := 22) (v := (nI 16)) C dX6_sum_22 (by decide) ?_
      refine r_iload_n (pc := 24) C dX6_sum_24 rfl rfl ?_
      refine n_imul (pc := 25) C dX6_sum_25 ?_
      refine r_iload_n (pc := 26) C dX6_sum_26 rfl rfl ?_
      refine n_iadd (pc := 27) C dX6_sum_27 ?_
      refine n_lald (pc := 28) C E.L.s9 (by omega) (E.k_sum _ (by omega)) dX6_sum_28 ?_
      refine r_goto (pc := 29) (tgt := 33) C dX6_sum_29 (by decide) ?_
      exact r_lret (pc := 33) C rfl (Nat.le_of_ble_eq_true rfl) (Nat.le_of_ble_eq_true rfl) ⟨_, rfl, ⟨z.symm, rfl⟩⟩ dX6_sum_33
/-- over how many of the first n channels to a task the barrier came -/
def cmN (t : TS) (s q : Nat) : Nat → Nat
  | 0 => 0
  | n + 1 => cmN t s q n + tN t 5 (16 * (s - 1) + 4 * n + q)
noncomputable def spTask (t : TS) (x y w : Int32) : Int32 := cif (inT t x y) (match swN 3 w with
  | 0 => nI (tN t 6 (4 * x.toNatClampNeg + y.toNatClampNeg))
  | 1 => nI (tN t 7 (4 * x.toNatClampNeg + y.toNatClampNeg))
  | 2 => nI (if x.toNatClampNeg = 0 then 0 else cmN t x.toNatClampNeg y.toNatClampNeg (tN t 1 (x.toNatClampNeg - 1)))
  | 3 => if x.toNatClampNeg = 0 then -1 else nI (tN t 8 (4 * x.toNatClampNeg + y.toNatClampNeg))
  | _ => -102) (-101)
section MA36
variable {G : GP} {F : FX} {m : Nat} {Q : State → Prop}
theorem task_l (C : CX G F mX6_task (Rm 3 0 0)) {t : TS} {h : AH} (E : RM m t h) (B : TB t) {s q : Nat} (hs0 : s ≠ 0) (hS : s < tN t 0 0) (hq : q < 4) {w : Int32} (k : ∀ x5, WA G F mX6_task h 0 0 Q 68 [some (.ref m), some (.int (nI s)), some (.int (nI q)), some (.int w), some (.int (nI (cmN t s q (tN t 1 (s - 1))))), some (.int x5)] []) :
    ∀ (n f b : Nat), f + n = tN t 1 (s - 1) → b = cmN t s q f → WA G F mX6_task h 0 0 Q 18 [some (.ref m), some (.int (nI s)), some (.int (nI q)), some (.int w), some (.int (nI b)), some (.int (nI f))] [] := by
  have b0 := B.S
  have b1 := B.P (s := s - 1) (by omega)
  intro n
  induction n with
  | zero =>
    intro f b hf hb
    obtain rfl : f = tN t 1 (s - 1) := by omega
    subst hb
    refine r_iload_n (pc := 18) C dX6_task_18 rfl rfl ?_
    refine n_if_le (pc := 19) (tgt := 68) C (by omega) dX6_task_19 (by decide) (fun c19 => absurd c19 (by omega)) (fun c19 => ?_)
    refine r_iload (pc := 22) C dX6_task_22 rfl ?_
    refine r_aload_n (pc := 24) C dX6_task_24 rfl rfl ?_
    refine r_getR (pc := 25) C fl_X6_7 E.L.o rfl E.L.r1 dX6_task_25 ?_
    refine r_iload_n (pc := 28) C dX6_task_28 rfl rfl ?_
    refine r_iconst (pc := 29) (v := (nI 1)) C dX6_task_29 (by decide) ?_
    refine n_isub (pc := 30) C (by omega) dX6_task_30 ?_
    refine n_iald (pc := 31) C E.L.s1 (by omega) (E.k_P _ (by omega)) dX6_task_31 ?_
    refine n_icmp_ge (pc := 32) (tgt := 68) C (by omega) (by omega) dX6_task_32 (by decide) (fun c32 => ?_) (fun c32 => absurd c32 (by omega))
    exact k _
  | succ n ih =>
    intro f b hf hb
    have b2 := (B.bool (16 * (s - 1) + 4 * f + q)).1
    refine r_iload_n (pc := 18) C dX6_task_18 rfl rfl ?_
    refine n_if_le (pc := 19) (tgt := 68) C (by omega) dX6_task_19 (by decide) (fun c19 => absurd c19 (by omega)) (fun c19 => ?_)
    refine r_iload (pc := 22) C dX6_task_22 rfl ?_
    refine r_aload_n (pc := 24) C dX6_task_24 rfl rfl ?_
    refine r_getR (pc := 25) C fl_X6_7 E.L.o rfl E.L.r1 dX6_task_25 ?_
    refine r_iload_n (pc := 28) C dX6_task_28 rfl rfl ?_
    refine r_iconst (pc := 29) (v := (nI 1)) C dX6_task_29 (by decide) ?_
    refine n_isub (pc := 30) C (by omega) dX6_task_30 ?_
    refine n_iald (pc := 31) C E.L.s1 (by omega) (E.k_P _ (by omega)) dX6_task_31 ?_
    refine n_icmp_ge (pc := 32) (tgt := 68) C (by omega) (by omega) dX6_task_32 (by decide) (fun c32 => absurd c32 (by omega)) (fun c32 => ?_)
    refine r_iload (pc := 35) C dX6_task_35 rfl ?_
    refine r_aload_n (pc := 37) C dX6_task_37 rfl rfl ?_
    refine r_getR (pc := 38) C fl_X6_42 E.L.o rfl E.L.r13 dX6_task_38 ?_
    refine r_iload_n (pc := 41) C dX6_task_41 rfl rfl ?_
    refine r_iconst (pc := 42) (v := (nI 1)) C dX6_task_42 (by decide) ?_
    refine n_isub (pc := 43) C (by omega) dX6_task_43 ?_
    refine r_iload (pc := 44) C dX6_task_44 rfl ?_
    refine r_iload_n (pc := 46) C dX6_task_46 rfl rfl ?_
    refine r_calli (cr_S (pc := 47) C (c_X6_at _ (s - 1) f q) dX6_task_47 cm_X6_at ml_X6_118 st_X6_at ⟨⟨Nat.le_of_ble_eq_true rfl, Nat.le_of_ble_eq_true rfl⟩, Nat.le_of_ble_eq_true rfl, Nat.le_of_ble_eq_true rfl⟩ rfl rfl (Nat.le_of_ble_eq_true rfl)) (fun v47 h47 hq47 => ?_)
    obtain ⟨rfl, rfl⟩ := hq47
    refine n_zald (pc := 50) C E.L.s13 (by omega) (E.k_came _ (by omega)) dX6_task_50 ?_
    refine n_if_eq (pc := 51) (tgt := 58) C (by omega) dX6_task_51 (by decide) (fun c51 => ?_) (fun c51 => ?_)
    · refine r_iconst (pc := 58) (v := (nI 0)) C dX6_task_58 (by decide) ?_
      refine n_iadd (pc := 59) C dX6_task_59 ?_
      refine r_istore (pc := 60) (lv' := [_, _, _, _, _, _]) C dX6_task_60 (by decide) rfl rfl ?_
      refine n_iinc (pc := 62) (lv' := [_, _, _, _, _, _]) C dX6_task_62 rfl (by decide) rfl rfl ?_
      refine r_goto (pc := 65) (tgt := 18) C dX6_task_65 (by decide) ?_
      exact ih (f + 1) _ (by omega) (by unfold cmN; omega)
    · refine r_iconst (pc := 54) (v := (nI 1)) C dX6_task_54 (by decide) ?_
      refine r_goto (pc := 55) (tgt := 59) C dX6_task_55 (by decide) ?_
      refine n_iadd (pc := 59) C dX6_task_59 ?_
      refine r_istore (pc := 60) (lv' := [_, _, _, _, _, _]) C dX6_task_60 (by decide) rfl rfl ?_
      refine n_iinc (pc := 62) (lv' := [_, _, _, _, _, _]) C dX6_task_62 rfl (by decide) rfl rfl ?_
      refine r_goto (pc := 65) (tgt := 18) C dX6_task_65 (by decide) ?_
      exact ih (f + 1) _ (by omega) (by unfold cmN; omega)
end MA36
theorem c_X6_task {G : GP} {m : Nat} {t : TS} {h : AH} (E : RM m t h) (B : TB t) (x y w : Int32) : MA G mX6_task 3 0 0 [.ref m, .int x, .int y, .int w] h (Oi (fun v h' => v = spTask t x y w ∧ h' = h)) := by
  have b0 := B.S
  refine MA.intro (lv := [some (.ref m), some (.int x), some (.int y), some (.int w), none, none]) (by decide) (Nat.le_of_ble_eq_true rfl) rfl (fun F C => ?_)
  have tl : ∀ s q, s < tN t 0 0 → q < tN t 1 s → inT t (nI s) (nI q) → ∀ x5, WA G F mX6_task h 0 0 (MQA G F 0 0 (Oi (fun v h' => v = spTask t (nI s) (nI q) w ∧ h' = h))) 68 [some (.ref m), some (.int (nI s)), some (.int (nI q)), some (.int w), some (.int (nI (if s = 0 then 0 else cmN t s q (tN t 1 (s - 1))))), some (.int x5)] [] := by
    intro s q hs hq hin x5
    have b1 := B.P (s := s) (by omega)
    have b2 := B.bool (4 * s + q)
    have e0 : spTask t (nI s) (nI q) w = (match swN 3 w with | 0 => nI (tN t 6 (4 * s + q)) | 1 => nI (tN t 7 (4 * s + q)) | 2 => nI (if s = 0 then 0 else cmN t s q (tN t 1 (s - 1))) | 3 => if s = 0 then -1 else nI (tN t 8 (4 * s + q)) | _ => -102) := (cif_t hin).trans (by rw [cl (by omega), cl (by omega)])
    rw [e0]
    refine r_iload_n (pc := 68) C dX6_task_68 rfl rfl ?_
    rcases sw3 w with rfl | rfl | rfl | rfl | hsw69
    · refine r_tableIn (pc := 69) (tgt := 100) (off := 31) C dX6_task_69 (by decide) (by decide) (by decide) (by decide) ?_
      refine r_aload_n (pc := 100) C dX6_task_100 rfl rfl ?_
      refine r_getR (pc := 101) C fl_X6_46 E.L.o rfl E.L.r14 dX6_task_101 ?_
      refine r_iconst (pc := 104) (v := (nI 4)) C dX6_task_104 (by decide) ?_
      refine r_iload_n (pc := 105) C dX6_task_105 rfl rfl ?_
      refine n_imul (pc := 106) C dX6_task_106 ?_
      refine r_iload_n (pc := 107) C dX6_task_107 rfl rfl ?_
      refine n_iadd (pc := 108) C dX6_task_108 ?_
      refine n_zald (pc := 109) C E.L.s14 (by omega) (E.k_took _ (by omega)) dX6_task_109 ?_
      refine n_if_eq (pc := 110) (tgt := 117) C (by omega) dX6_task_110 (by decide) (fun c110 => ?_) (fun c110 => ?_)
      · refine r_iconst (pc := 117) (v := (nI 0)) C dX6_task_117 (by decide) ?_
        exact r_iret (pc := 118) C rfl (Nat.le_of_ble_eq_true rfl) (Nat.le_of_ble_eq_true rfl) ⟨_, rfl, ⟨by first | exact congrArg nI (show 1 = tN t 6 (4 * s + q) by omega) | exact congrArg nI (show 0 = tN t 6 (4 * s + q) by omega), rfl⟩⟩ dX6_task_118
      · refine r_iconst (pc := 113) (v := (nI 1)) C dX6_task_113 (by decide) ?_
        refine r_goto (pc := 114) (tgt := 118) C dX6_task_114 (by decide) ?_
        exact r_iret (pc := 118) C rfl (Nat.le_of_ble_eq_true rfl) (Nat.le_of_ble_eq_true rfl) ⟨_, rfl, ⟨by first | exact congrArg nI (show 1 = tN t 6 (4 * s + q) by omega) | exact congrArg nI (show 0 = tN t 6 (4 * s + q) by omega), rfl⟩⟩ dX6_task_118
    · refine r_tableIn (pc := 69) (tgt := 119) (off := 50) C dX6_task_69 (by decide) (by decide) (by decide) (by decide) ?_
      refine r_aload_n (pc := 119) C dX6_task_119 rfl rfl ?_
      refine r_getR (pc := 120) C fl_X6_49 E.L.o rfl E.L.r15 dX6_task_120 ?_
      refine r_iconst (pc := 123) (v := (nI 4)) C dX6_task_123 (by decide) ?_
      refine r_iload_n (pc := 124) C dX6_task_124 rfl rfl ?_
      refine n_imul (pc := 125) C dX6_task_125 ?_
      refine r_iload_n (pc := 126) C dX6_task_126 rfl rfl ?_
      refine n_iadd (pc := 127) C dX6_task_127 ?_
      refine n_zald (pc := 128) C E.L.s15 (by omega) (E.k_waits _ (by omega)) dX6_task_128 ?_
      refine n_if_eq (pc := 129) (tgt := 136) C (by omega) dX6_task_129 (by decide) (fun c129 => ?_) (fun c129 => ?_)
      · refine r_iconst (pc := 136) (v := (nI 0)) C dX6_task_136 (by decide) ?_
        exact r_iret (pc := 137) C rfl (Nat.le_of_ble_eq_true rfl) (Nat.le_of_ble_eq_true rfl) ⟨_, rfl, ⟨by first | exact congrArg nI (show 1 = tN t 7 (4 * s + q) by omega) | exact congrArg nI (show 0 = tN t 7 (4 * s + q) by omega), rfl⟩⟩ dX6_task_137
      · refine r_iconst (pc := 132) (v := (nI 1)) C dX6_task_132 (by decide) ?_
        refine r_goto (pc := 133) (tgt := 137) C dX6_task_133 (by decide) ?_
        exact r_iret (pc := 137) C rfl (Nat.le_of_ble_eq_true rfl) (Nat.le_of_ble_eq_true rfl) ⟨_, rfl, ⟨by first | exact congrArg nI (show 1 = tN t 7 (4 * s + q) by omega) | exact congrArg nI (show 0 = tN t 7 (4 * s + q) by omega), rfl⟩⟩ dX6_task_137
    · refine r_tableIn (pc := 69) (tgt := 138) (off := 69) C dX6_task_69 (by decide) (by decide) (by decide) (by decide) ?_
      refine r_iload (pc := 138) C dX6_task_138 rfl ?_
      exact r_iret (pc := 140) C rfl (Nat.le_of_ble_eq_true rfl) (Nat.le_of_ble_eq_true rfl) ⟨_, rfl, ⟨rfl, rfl⟩⟩ dX6_task_140
    · refine r_tableIn (pc := 69) (tgt := 141) (off := 72) C dX6_task_69 (by decide) (by decide) (by decide) (by decide) ?_
      refine r_iload_n (pc := 141) C dX6_task_141 rfl rfl ?_
      refine n_if_ne (pc := 142) (tgt := 149) C (by omega) dX6_task_142 (by decide) (fun c142 => ?_) (fun c142 => ?_)
      · refine r_aload_n (pc := 149) C dX6_task_149 rfl rfl ?_
        refine r_getR (pc := 150) C fl_X6_55 E.L.o rfl E.L.r17 dX6_task_150 ?_
        refine r_iconst (pc := 153) (v := (nI 4)) C dX6_task_153 (by decide) ?_
        refine r_iload_n (pc := 154) C dX6_task_154 rfl rfl ?_
        refine n_imul (pc := 155) C dX6_task_155 ?_
        refine r_iload_n (pc := 156) C dX6_task_156 rfl rfl ?_
        refine n_iadd (pc := 157) C dX6_task_157 ?_
        refine n_iald (pc := 158) C E.L.s17 (by omega) (E.k_next _ (by omega)) dX6_task_158 ?_
        exact r_iret (pc := 159) C rfl (Nat.le_of_ble_eq_true rfl) (Nat.le_of_ble_eq_true rfl) ⟨_, rfl, ⟨by first | exact (if_pos c142).symm | exact (if_neg c142).symm, rfl⟩⟩ dX6_task_159
      · refine r_iconst (pc := 145) (v := (-1)) C dX6_task_145 (by decide) ?_
        refine r_goto (pc := 146) (tgt := 159) C dX6_task_146 (by decide) ?_
        exact r_iret (pc := 159) C rfl (Nat.le_of_ble_eq_true rfl) (Nat.le_of_ble_eq_true rfl) ⟨_, rfl, ⟨by first | exact (if_pos c142).symm | exact (if_neg c142).symm, rfl⟩⟩ dX6_task_159
    · refine r_tableOut (pc := 69) (tgt := 160) C dX6_task_69 hsw69 (by decide) ?_
      refine r_bipush (pc := 160) (v := (-102)) C dX6_task_160 (by decide) ?_
      exact r_iret (pc := 162) C rfl (Nat.le_of_ble_eq_true rfl) (Nat.le_of_ble_eq_true rfl) ⟨_, rfl, ⟨by rw [swN_out hsw69]; rfl, rfl⟩⟩ dX6_task_162
  refine r_aload_n (pc := 0) C dX6_task_0 rfl rfl ?_
  refine r_iload_n (pc := 1) C dX6_task_1 rfl rfl ?_
  refine r_iload_n (pc := 2) C dX6_task_2 rfl rfl ?_
  refine r_calli (cr_V (pc := 3) C (c_X6_isTask E B _ _) dX6_task_3 cm_X6_isTask ml_X6_149 im_X6_isTask se_X6_isTask E.L.o rfl ⟨⟨Nat.le_of_ble_eq_true rfl, Nat.le_of_ble_eq_true rfl⟩, Nat.le_of_ble_eq_true rfl, Nat.le_of_ble_eq_true rfl⟩ rfl rfl (Nat.le_of_ble_eq_true rfl)) (fun v3 h3 hq3 => ?_)
  obtain ⟨rfl, rfl⟩ := hq3
  refine b_if_ne (pc := 6) (tgt := 12) C dX6_task_6 (by decide) (fun c6 => ?_) (fun c6 => ?_)
  · obtain ⟨s, hs, rfl, q, hq, rfl⟩ := id c6
    have b1 := B.P (s := s) (by omega)
    refine r_iconst (pc := 12) (v := (nI 0)) C dX6_task_12 (by decide) ?_
    refine r_istore (pc := 13) (lv' := [_, _, _, _, _, _]) C dX6_task_13 (by decide) rfl rfl ?_
    refine r_iconst (pc := 15) (v := (nI 0)) C dX6_task_15 (by decide) ?_
    refine r_istore (pc := 16) (lv' := [_, _, _, _, _, _]) C dX6_task_16 (by decide) rfl rfl ?_
    have tl := tl s q hs hq c6
    by_cases hs0 : s = 0
    · rw [if_pos hs0] at tl
      refine r_iload_n (pc := 18) C dX6_task_18 rfl rfl ?_
      refine n_if_le (pc := 19) (tgt := 68) C (by omega) dX6_task_19 (by decide) (fun c19 => ?_) (fun c19 => absurd c19 (by omega))
      exact tl _
    · rw [if_neg hs0] at tl
      exact task_l C E B hs0 hs (by omega) tl (tN t 1 (s - 1)) 0 0 (Nat.zero_add _) rfl
  · refine r_bipush (pc := 9) (v := (-101)) C dX6_task_9 (by decide) ?_
    exact r_iret (pc := 11) C rfl (Nat.le_of_ble_eq_true rfl) (Nat.le_of_ble_eq_true rfl) ⟨_, rfl, ⟨(cif_f c6).symm, rfl⟩⟩ dX6_task_11
