/-! ===== the class: its constructor ===== -/
def D2i (a : Nat) (h : AH) : Prop := X1L a h ∧ hI h a 3 = nI 0 ∧ hI h (a + 1) = z0 ∧ hL h (a + 2) = z0L ∧ ∀ k, k < 16 → hI h (a + 3) k = -1
def D3i (a : Nat) (h : AH) : Prop := T3 a h ∧ hI h (a + 1) = z0 ∧ hL h (a + 2) = z0L
theorem D2i.mv {a : Nat} {h h' : AH} (D : D2i a h) (K : ∀ z, a ≤ z → z < a + 4 → Sm4 h h' z) : D2i a h' := by
  obtain ⟨d1, d2, d3, d4, d5⟩ := D
  refine ⟨d1.cg (fun z h1 h2 => ⟨(K z h1 h2).1, (K z h1 h2).2.2.2⟩), ?_, ?_, ?_, fun k hk => ?_⟩
  · rw [(K a (by omega) (by omega)).2.1]; exact d2
  · rw [(K (a + 1) (by omega) (by omega)).2.1]; exact d3
  · rw [(K (a + 2) (by omega) (by omega)).2.2.1]; exact d4
  · rw [(K (a + 3) (by omega) (by omega)).2.1]; exact d5 k hk
theorem D3i.mv {a : Nat} {h h' : AH} (D : D3i a h) (K : ∀ z, a ≤ z → z < a + 3 → Sm4 h h' z) : D3i a h' := by
  obtain ⟨d1, d2, d3⟩ := D
  refine ⟨d1.cg (fun z h1 h2 => ⟨(K z h1 h2).1, (K z h1 h2).2.2.2⟩), ?_, ?_⟩
  · rw [(K (a + 1) (by omega) (by omega)).2.1]; exact d2
  · rw [(K (a + 2) (by omega) (by omega)).2.2.1]; exact d3
theorem OPx {x b k : Nat} {sh : Nat × Nat} {h h2 : AH} (hb : hN h = b) (hx : x < b) (K : Bl b (hnew h sh) h2) : (∀ z, z < b → z ≠ x → Sm4 h (pR h2 x k (some (hN h))) z) ∧ hS (pR h2 x k (some (hN h))) x = hS h x ∧ hR (pR h2 x k (some (hN h))) x = va_up (hR h x) k (some b) ∧ (∀ z, b ≤ z → Sm4 h2 (pR h2 x k (some (hN h))) z) ∧ hN (pR h2 x k (some (hN h))) = hN h2 := by
  have Kx := (Sm4.new (h := h) (sh := sh) (z := x) (by omega)).tr (K x hx)
  refine ⟨fun z hz hzx => (((Sm4.new (by omega)).tr (K z hz))).pR hzx, Kx.1, ?_, fun z hz => Sm4.rf.pR (by omega), rfl⟩
  rw [hR_pRf, if_pos rfl, Kx.2.2.2, hb]
/-- cells x .. x + 12 -/
def Q5a (x : Nat) (h : AH) : Prop := hS h x = (0, 5) ∧ hR h x 1 = some (x + 1) ∧ hS h (x + 1) = (1, 4)
def Q5b (x : Nat) (h : AH) : Prop := Q5a x h ∧ hR h x 2 = some (x + 2) ∧ D2i (x + 2) h
def Q5c (x : Nat) (h : AH) : Prop := Q5b x h ∧ hR h x 3 = some (x + 6) ∧ D3i (x + 6) h
def Q5d (x : Nat) (h : AH) : Prop := Q5c x h ∧ hR h x 6 = some (x + 9) ∧ hS h (x + 9) = (5, 8) ∧ hR h (x + 9) = fun _ => none
def Q5e (x : Nat) (h : AH) : Prop := Q5d x h ∧ hR h x 7 = some (x + 10) ∧ D3i (x + 10) h
theorem Q5a.mv {x n : Nat} {h h' : AH} (Q : Q5a x h) (hn : x + 2 ≤ n) (K : ∀ z, z < n → z ≠ x → Sm4 h h' z) (ks : hS h' x = hS h x) (kr : hR h' x 1 = hR h x 1) : Q5a x h' := ⟨ks.trans Q.1, kr.trans Q.2.1, (K (x + 1) (by omega) (by omega)).1.trans Q.2.2⟩
theorem Q5b.mv {x n : Nat} {h h' : AH} (Q : Q5b x h) (hn : x + 6 ≤ n) (K : ∀ z, z < n → z ≠ x → Sm4 h h' z) (ks : hS h' x = hS h x) (kr : hR h' x 1 = hR h x 1 ∧ hR h' x 2 = hR h x 2) : Q5b x h' := ⟨Q.1.mv (n := n) (by omega) K ks kr.1, kr.2.trans Q.2.1, Q.2.2.mv (fun z h1 h2 => K z (by omega) (by omega))⟩
theorem Q5c.mv {x n : Nat} {h h' : AH} (Q : Q5c x h) (hn : x + 9 ≤ n) (K : ∀ z, z < n → z ≠ x → Sm4 h h' z) (ks : hS h' x = hS h x) (kr : (hR h' x 1 = hR h x 1 ∧ hR h' x 2 = hR h x 2) ∧ hR h' x 3 = hR h x 3) : Q5c x h' := ⟨Q.1.mv (n := n) (by omega) K ks kr.1, kr.2.trans Q.2.1, Q.2.2.mv (fun z h1 h2 => K z (by omega) (by omega))⟩
theorem Q5d.mv {x n : Nat} {h h' : AH} (Q : Q5d x h) (hn : x + 10 ≤ n) (K : ∀ z, z < n → z ≠ x → Sm4 h h' z) (ks : hS h' x = hS h x) (kr : ((hR h' x 1 = hR h x 1 ∧ hR h' x 2 = hR h x 2) ∧ hR h' x 3 = hR h x 3) ∧ hR h' x 6 = hR h x 6) : Q5d x h' := ⟨Q.1.mv (n := n) (by omega) K ks kr.1, kr.2.trans Q.2.1, (K (x + 9) (by omega) (by omega)).1.trans Q.2.2.1, (K (x + 9) (by omega) (by omega)).2.2.2.trans Q.2.2.2⟩
theorem Q5e.mv {x n : Nat} {h h' : AH} (Q : Q5e x h) (hn : x + 13 ≤ n) (K : ∀ z, z < n → z ≠ x → Sm4 h h' z) (ks : hS h' x = hS h x) (kr : (((hR h' x 1 = hR h x 1 ∧ hR h' x 2 = hR h x 2) ∧ hR h' x 3 = hR h x 3) ∧ hR h' x 6 = hR h x 6) ∧ hR h' x 7 = hR h x 7) : Q5e x h' := ⟨Q.1.mv (n := n) (by omega) K ks kr.1, kr.2.trans Q.2.1, Q.2.2.mv (fun z h1 h2 => K z (by omega) (by omega))⟩
def Ob5 (S : Nat) (f : Nat → Int32) : Prop := f 0 = nI S ∧ f 8 = nI 0 ∧ f 9 = -1 ∧ f 10 = nI 0 ∧ f 11 = nI 5 ∧ f 12 = nI 0 ∧ f 13 = nI 200
theorem nS_mm {z : Int32} {v w : Int32} (hv : v = if z < nI 4 then z else nI 4) (hw : w = if nI 2 < v then v else nI 2) : w = nI (nS z) := by
  have n2 : (nI 2).toInt = 2 := nI_toInt (by decide)
  have n4 : (nI 4).toInt = 4 := nI_toInt (by decide)
  by_cases h1 : z < nI 2
  · have e : nS z = 2 := if_pos h1
    rw [Int32.lt_iff_toInt_lt, n2] at h1
    rw [if_pos (show z < nI 4 by rw [Int32.lt_iff_toInt_lt, n4]; omega)] at hv
    rw [hv, if_neg (show ¬ nI 2 < z by rw [Int32.lt_iff_toInt_lt, n2]; omega)] at hw
    rw [hw, e]
  · by_cases h2 : nI 4 < z
    · have e : nS z = 4 := by unfold nS; rw [if_neg h1, if_pos h2]
      rw [Int32.lt_iff_toInt_lt, n4] at h2
      rw [if_neg (show ¬ z < nI 4 by rw [Int32.lt_iff_toInt_lt, n4]; omega)] at hv
      rw [hv, if_pos (show nI 2 < nI 4 by rw [Int32.lt_iff_toInt_lt, n2, n4]; omega)] at hw
      rw [hw, e]
    · rw [nS_v h1 h2, hw, hv]
      rw [Int32.lt_iff_toInt_lt, n2] at h1
      rw [Int32.lt_iff_toInt_lt, n4] at h2
      have hv' : (if z < nI 4 then z else nI 4) = z := by
        split
        · rfl
        · next h => rw [Int32.lt_iff_toInt_lt, n4] at h; exact Int32.toInt_inj.mp (by rw [n4]; omega)
      rw [hv']
      split
      · rfl
      · next h => rw [Int32.lt_iff_toInt_lt, n2] at h; exact Int32.toInt_inj.mp (by rw [n2]; omega)
section CC92
variable {G : GP} {x : Nat} {F : FX} {Q : State → Prop}
theorem ctor_a (C : CX G F mX5_init (Rm 2 79 1404)) {z : Int32}
    (k : ∀ h', Q5e x h' → hN h' = x + 13 → Ob5 (nS z) (hI h' x) → WA G F mX5_init h' 12 692 Q 98 [some (.ref x), some (.int z), none, none] [])
    {h : AH} (ho : hS h x = (0, 5)) (hn : hN h = x + 1) : WA G F mX5_init h 0 0 Q 0 [some (.ref x), some (.int z), none, none] [] := by
  refine r_aload_n (pc := 0) C dX5_init_0 rfl rfl ?_
  refine r_objInit (pc := 1) C ml_X5_3 oi_1 oi_2 (Nat.le_of_ble_eq_true rfl) (Nat.le_of_ble_eq_true rfl) dX5_init_1 ?_
  refine r_aload_n (pc := 4) C dX5_init_4 rfl rfl ?_
  refine r_iconst (pc := 5) (v := (nI 4)) C dX5_init_5 (by decide) ?_
  refine r_newai (pc := 6) C ac_int rfl (by decide) (by decide) (by decide) dX5_init_6 ?_
  refine r_putFR (pc := 8) C fl_X5_9 (by rw [hS_new, if_neg (by omega)]; exact ho) rfl rfl rfl rfl rfl rfl fw_X5_9 dX5_init_8 ?_
  have o1 := OPx (x := x) (b := x + 1) (k := 1) (sh := (1, 4)) (h2 := hnew h (1, 4)) hn (by omega) Bl.rf
  have q1 : Q5a x (pR (hnew h (1, 4)) x 1 (some (hN h))) := ⟨o1.2.1.trans ho, (by rw [o1.2.2.1, up_s]), (by show hS (hnew h (1, 4)) (x + 1) = _; rw [hS_new, if_pos hn.symm])⟩
  have n1 : hN (pR (hnew h (1, 4)) x 1 (some (hN h))) = x + 2 := (by show hN h + 1 = _; omega)
  generalize pR (hnew h (1, 4)) x 1 (some (hN h)) = h1 at q1 n1 ⊢
  refine r_aload_n (pc := 11) C dX5_init_11 rfl rfl ?_
  refine r_new (pc := 12) (ci := 1) C (by decide) cl_X5_13 ins_1 ini_1 df_1 (Nat.le_of_ble_eq_true rfl) (Nat.le_of_ble_eq_true rfl) dX5_init_12 ?_
  refine WA.widen (c' := 2) (s' := 8) (Nat.le_of_ble_eq_true rfl) (Nat.le_of_ble_eq_true rfl) ?_
  refine r_dup (pc := 15) C dX5_init_15 rfl ?_
  refine r_callv (cr_I (pc := 16) C (c_X1_init (a := hN h1) (by rw [hS_new, if_pos rfl]) rfl) dX5_init_16 cm_X1_init rfl rfl ml_X5_15 im_X1_init ⟨⟨Nat.le_of_ble_eq_true rfl, Nat.le_of_ble_eq_true rfl⟩, Nat.le_of_ble_eq_true rfl, Nat.le_of_ble_eq_true rfl⟩ rfl rfl (Nat.le_of_ble_eq_true rfl)) (fun h16 hq16 => ?_)
  obtain ⟨g1, g2, g3, g4, g5, g6, g7⟩ := hq16
  rw [n1] at g1 g2 g3 g4 g5 g6 g7
  have o2 := OPx (x := x) (b := x + 2) (k := 2) (sh := (0, 1)) (h2 := h16) n1 (by omega) g7
  have q2 : Q5b x (pR h16 x 2 (some (hN h1))) := ⟨q1.mv (n := x + 2) (by omega) o2.1 o2.2.1 (by rw [o2.2.2.1, up_ne (by decide)]), (by rw [o2.2.2.1, up_s]), D2i.mv ⟨g1, g3, g4, g5, g6⟩ (fun z h1 h2 => o2.2.2.2.1 z h1)⟩
  have n2 : hN (pR h16 x 2 (some (hN h1))) = x + 6 := g2
  refine r_putFR (pc := 19) C fl_X5_16 (((Sm4.new (by omega)).tr (g7 x (by omega))).1.trans q1.1) rfl rfl rfl rfl rfl rfl fw_X5_16 dX5_init_19 ?_
  generalize pR h16 x 2 (some (hN h1)) = h2 at q2 n2 ⊢
  refine WA.widen (c' := 5) (s' := 424) (Nat.le_of_ble_eq_true rfl) (Nat.le_of_ble_eq_true rfl) ?_
  refine r_aload_n (pc := 22) C dX5_init_22 rfl rfl ?_
  refine r_new (pc := 23) (ci := 3) C (by decide) cl_X5_20 ins_3 ini_3 df_3 (Nat.le_of_ble_eq_true rfl) (Nat.le_of_ble_eq_true rfl) dX5_init_23 ?_
  refine WA.widen (c' := 6) (s' := 426) (Nat.le_of_ble_eq_true rfl) (Nat.le_of_ble_eq_true rfl) ?_
  refine r_dup (pc := 26) C dX5_init_26 rfl ?_
  refine r_callv (cr_IN (pc := 27) C (c_X3_init (a := hN h2) (by rw [hS_new, if_pos rfl]) rfl) dX5_init_27 cm_X3_init rfl rfl ml_X5_22 im_X3_init ⟨⟨Nat.le_of_ble_eq_true rfl, Nat.le_of_ble_eq_true rfl⟩, Nat.le_of_ble_eq_true rfl, Nat.le_of_ble_eq_true rfl⟩ rfl rfl (Nat.le_of_ble_eq_true rfl)) (fun h27 hq27 => ?_)
  obtain ⟨g1, g2, g3, g4, g5, g7⟩ := hq27
  rw [n2] at g1 g2 g3 g4 g5 g7
  have o3 := OPx (x := x) (b := x + 6) (k := 3) (sh := (0, 3)) (h2 := h27) n2 (by omega) g7
  have q3 : Q5c x (pR h27 x 3 (some (hN h2))) := ⟨q2.mv (n := x + 6) (by omega) o3.1 o3.2.1 (by rw [o3.2.2.1, up_ne (by decide), up_ne (by decide)]; exact ⟨rfl, rfl⟩), (by rw [o3.2.2.1, up_s]), D3i.mv ⟨g1, g4, g5⟩ (fun z h1 h2 => o3.2.2.2.1 z h1)⟩
  have n3 : hN (pR h27 x 3 (some (hN h2))) = x + 9 := g2
  refine r_putFR (pc := 30) C fl_X5_23 (((Sm4.new (by omega)).tr (g7 x (by omega))).1.trans q2.1.1) rfl rfl rfl rfl rfl rfl fw_X5_23 dX5_init_30 ?_
  generalize pR h27 x 3 (some (hN h2)) = h3 at q3 n3 ⊢
  refine WA.widen (c' := 8) (s' := 554) (Nat.le_of_ble_eq_true rfl) (Nat.le_of_ble_eq_true rfl) ?_
  refine r_aload_n (pc := 33) C dX5_init_33 rfl rfl ?_
  refine r_bipush (pc := 34) (v := (nI 8)) C dX5_init_34 (by decide) ?_
  refine r_newq (pc := 36) (k := 5) C (by decide) (by decide) cl_X5_27 rfl (by decide) (by decide) (by decide) dX5_init_36 ?_
  refine r_putFR (pc := 39) C fl_X5_29 (by rw [hS_new, if_neg (by omega)]; exact q3.1.1.1) rfl rfl rfl rfl rfl rfl fw_X5_29 dX5_init_39 ?_
  have o4 := OPx (x := x) (b := x + 9) (k := 6) (sh := (5, 8)) (h2 := hnew h3 (5, 8)) n3 (by omega) Bl.rf
  have q4 : Q5d x (pR (hnew h3 (5, 8)) x 6 (some (hN h3))) := ⟨q3.mv (n := x + 9) (by omega) o4.1 o4.2.1 (by rw [o4.2.2.1, up_ne (by decide), up_ne (by decide), up_ne (by decide)]; exact ⟨⟨rfl, rfl⟩, rfl⟩), (by rw [o4.2.2.1, up_s]), (by show hS (hnew h3 (5, 8)) (x + 9) = _; rw [hS_new, if_pos n3.symm]), (by rw [hR_pRf, if_neg (by omega), hR_newf, if_pos n3.symm])⟩
  have n4 : hN (pR (hnew h3 (5, 8)) x 6 (some (hN h3))) = x + 10 := (by show hN h3 + 1 = _; omega)
  generalize pR (hnew h3 (5, 8)) x 6 (some (hN h3)) = h4 at q4 n4 ⊢
  refine r_aload_n (pc := 42) C dX5_init_42 rfl rfl ?_
  refine r_new (pc := 43) (ci := 3) C (by decide) cl_X5_20 ins_3 ini_3 df_3 (Nat.le_of_ble_eq_true rfl) (Nat.le_of_ble_eq_true rfl) dX5_init_43 ?_
  refine WA.widen (c' := 10) (s' := 564) (Nat.le_of_ble_eq_true rfl) (Nat.le_of_ble_eq_true rfl) ?_
  refine r_dup (pc := 46) C dX5_init_46 rfl ?_
  refine r_callv (cr_IN (pc := 47) C (c_X3_init (a := hN h4) (by rw [hS_new, if_pos rfl]) rfl) dX5_init_47 cm_X3_init rfl rfl ml_X5_22 im_X3_init ⟨⟨Nat.le_of_ble_eq_true rfl, Nat.le_of_ble_eq_true rfl⟩, Nat.le_of_ble_eq_true rfl, Nat.le_of_ble_eq_true rfl⟩ rfl rfl (Nat.le_of_ble_eq_true rfl)) (fun h47 hq47 => ?_)
  obtain ⟨g1, g2, g3, g4, g5, g7⟩ := hq47
  rw [n4] at g1 g2 g3 g4 g5 g7
  have o5 := OPx (x := x) (b := x + 10) (k := 7) (sh := (0, 3)) (h2 := h47) n4 (by omega) g7
  have q5 : Q5e x (pR h47 x 7 (some (hN h4))) := ⟨q4.mv (n := x + 10) (by omega) o5.1 o5.2.1 (by rw [o5.2.2.1, up_ne (by decide), up_ne (by decide), up_ne (by decide), up_ne (by decide)]; exact ⟨⟨⟨rfl, rfl⟩, rfl⟩, rfl⟩), (by rw [o5.2.2.1, up_s]), D3i.mv ⟨g1, g4, g5⟩ (fun z h1 h2 => o5.2.2.2.1 z h1)⟩
  have n5 : hN (pR h47 x 7 (some (hN h4))) = x + 13 := g2
  refine r_putFR (pc := 50) C fl_X5_33 (((Sm4.new (by omega)).tr (g7 x (by omega))).1.trans q4.1.1.1.1) rfl rfl rfl rfl rfl rfl fw_X5_33 dX5_init_50 ?_
  generalize pR h47 x 7 (some (hN h4)) = h5 at q5 n5 ⊢
  refine WA.widen (c' := 12) (s' := 692) (Nat.le_of_ble_eq_true rfl) (Nat.le_of_ble_eq_true rfl) ?_
  refine r_aload_n (pc := 53) C dX5_init_53 rfl rfl ?_
  refine r_iconst (pc := 54) (v := (nI 0)) C dX5_init_54 (by decide) ?_
  refine r_putI (pc := 55) C fl_X5_36 q5.1.1.1.1.1 rfl rfl rfl rfl dX5_init_55 ?_
  refine r_aload_n (pc := 58) C dX5_init_58 rfl rfl ?_
  refine r_iconst (pc := 59) (v := (-1)) C dX5_init_59 (by decide) ?_
  refine r_putI (pc := 60) C fl_X5_40 q5.1.1.1.1.1 rfl rfl rfl rfl dX5_init_60 ?_
  refine r_aload_n (pc := 63) C dX5_init_63 rfl rfl ?_
  refine r_iconst (pc := 64) (v := (nI 0)) C dX5_init_64 (by decide) ?_
  refine r_putI (pc := 65) C fl_X5_43 q5.1.1.1.1.1 rfl rfl rfl rfl dX5_init_65 ?_
  refine r_aload_n (pc := 68) C dX5_init_68 rfl rfl ?_
  refine r_iconst (pc := 69) (v := (nI 5)) C dX5_init_69 (by decide) ?_
  refine r_putI (pc := 70) C fl_X5_46 q5.1.1.1.1.1 rfl rfl rfl rfl dX5_init_70 ?_
  refine r_aload_n (pc := 73) C dX5_init_73 rfl rfl ?_
  refine r_iconst (pc := 74) (v := (nI 0)) C dX5_init_74 (by decide) ?_
  refine r_putI (pc := 75) C fl_X5_49 q5.1.1.1.1.1 rfl rfl rfl rfl dX5_init_75 ?_
  refine r_aload_n (pc := 78) C dX5_init_78 rfl rfl ?_
  refine r_sipush (pc := 79) (v := (nI 200)) C dX5_init_79 (by decide) ?_
  refine r_putI (pc := 82) C fl_X5_52 q5.1.1.1.1.1 rfl rfl rfl rfl dX5_init_82 ?_
  refine r_aload_n (pc := 85) C dX5_init_85 rfl rfl ?_
  refine r_iconst (pc := 86) (v := (nI 2)) C dX5_init_86 (by decide) ?_
  refine r_iconst (pc := 87) (v := (nI 4)) C dX5_init_87 (by decide) ?_
  refine r_iload_n (pc := 88) C dX5_init_88 rfl rfl ?_
  refine r_calli (cr_S (pc := 89) C (c_J9_min _ _ _) dX5_init_89 cm_J9_min_7cf53 ml_X5_55 st_J9_min_7cf53 ⟨⟨Nat.le_of_ble_eq_true rfl, Nat.le_of_ble_eq_true rfl⟩, Nat.le_of_ble_eq_true rfl, Nat.le_of_ble_eq_true rfl⟩ rfl rfl (Nat.le_of_ble_eq_true rfl)) (fun v89 h89 hq89 => ?_)
  obtain ⟨hv89, rfl⟩ := hq89
  refine r_calli (cr_S (pc := 92) C (c_J9_max _ _ _) dX5_init_92 cm_J9_max_7cf53 ml_X5_61 st_J9_max_7cf53 ⟨⟨Nat.le_of_ble_eq_true rfl, Nat.le_of_ble_eq_true rfl⟩, Nat.le_of_ble_eq_true rfl, Nat.le_of_ble_eq_true rfl⟩ rfl rfl (Nat.le_of_ble_eq_true rfl)) (fun v92 h92 hq92 => ?_)
  obtain ⟨hv92, rfl⟩ := hq92
  refine r_putFI (pc := 95) C fl_X5_64 q5.1.1.1.1.1 rfl rfl rfl rfl rfl rfl fw_X5_64 dX5_init_95 ?_
  have hw := nS_mm hv89 hv92
  subst hw
  refine k _ (q5.mv (n := x + 13) (by omega) (fun z h1 h2 => ((((((Sm4.rf.pI h2).pI h2).pI h2).pI h2).pI h2).pI h2).pI h2) rfl ⟨⟨⟨⟨rfl, rfl⟩, rfl⟩, rfl⟩, rfl⟩) n5 ?_
  rw [hI_eq, hI_eq, hI_eq, hI_eq, hI_eq, hI_eq, hI_eq]
  unfold Ob5; simp [va_up]
/-- the first cells are all right -/
def W5 (x S : Nat) (h : AH) : Prop := Q5e x h ∧ (∀ i, i < 4 → hI h (x + 1) i = nI 1) ∧ Ob5 S (hI h x) ∧ hS h (x + 13) = (1, 200)
theorem W5.mv {S : Nat} {h h' : AH} (W : W5 x S h) (K : ∀ z, z < x + 14 → z ≠ x → Sm4 h h' z) (ks : hS h' x = hS h x) (ki : hI h' x = hI h x) (kr : ∀ k, k ≠ 4 → k ≠ 5 → hR h' x k = hR h x k) : W5 x S h' := by
  obtain ⟨w1, w2, w3, w4⟩ := W
  refine ⟨w1.mv (n := x + 14) (by omega) K ks ⟨⟨⟨⟨kr 1 (by decide) (by decide), kr 2 (by decide) (by decide)⟩, kr 3 (by decide) (by decide)⟩, kr 6 (by decide) (by decide)⟩, kr 7 (by decide) (by decide)⟩, fun i hi => ?_, by rw [ki]; exact w3, (K (x + 13) (by omega) (by omega)).1.trans w4⟩
  rw [(K (x + 1) (by omega) (by omega)).2.1]; exact w2 i hi
/-- channel d is made -/
def ChZ (x d : Nat) (h : AH) : Prop := hR h (x + 14) d = some (x + 15 + d) ∧ hS h (x + 15 + d) = (0, 0) ∧ hR h (x + 15 + d) 1 = some (x + 13) ∧ hI h (x + 15 + d) 0 = nI d ∧ hI h (x + 15 + d) 2 = -1 ∧ hI h (x + 15 + d) 3 = -1 ∧ hI h (x + 15 + d) 4 = nI 0 ∧ hI h (x + 15 + d) 5 = -1 ∧ hI h (x + 15 + d) 6 = nI 0 ∧ hI h (x + 15 + d) 7 = nI 0
theorem ChZ.mv {d : Nat} {h h' : AH} (Z : ChZ x d h) (K : Sm4 h h' (x + 15 + d)) (kr : hR h' (x + 14) d = hR h (x + 14) d) : ChZ x d h' := by
  unfold ChZ
  rw [K.1, K.2.1, K.2.2.2, kr]; exact Z
def TkZ (x S d : Nat) (h : AH) : Prop := hR h (x + 16 * S - 1) d = some (x + 16 * S + d) ∧ hS h (x + 16 * S + d) = (0, 4) ∧ hI h (x + 16 * S + d) 0 = nI 0 ∧ hI h (x + 16 * S + d) 1 = nI 0 ∧ hI h (x + 16 * S + d) 2 = nI 0 ∧ hI h (x + 16 * S + d) 3 = nI 0
theorem TkZ.mv {S d : Nat} {h h' : AH} (Z : TkZ x S d h) (K : Sm4 h h' (x + 16 * S + d)) (kr : hR h' (x + 16 * S - 1) d = hR h (x + 16 * S - 1) d) : TkZ x S d h' := by
  unfold TkZ
  rw [K.1, K.2.1, kr]; exact Z
def PB (x S c : Nat) (h : AH) : Prop := W5 x S h ∧ hR h x 4 = some (x + 14) ∧ hS h (x + 14) = (4, 16 * (S - 1)) ∧ hN h = x + 15 + c ∧ ∀ d, d < c → ChZ x d h
theorem PB.chan {S c : Nat} {h h2 : AH} (P : PB x S c h) (hs : hS h2 = hS (hnew h (0, 0))) (hn2 : hN h2 = hN (hnew h (0, 0))) (K : ∀ z, z ≠ hN h → Sm4 (hnew h (0, 0)) h2 z) (g1 : hR h2 (hN h) 1 = some (x + 13)) (g2 : hI h2 (hN h) 0 = nI c ∧ hI h2 (hN h) 2 = -1 ∧ hI h2 (hN h) 3 = -1 ∧ hI h2 (hN h) 4 = nI 0 ∧ hI h2 (hN h) 5 = -1 ∧ hI h2 (hN h) 6 = nI 0 ∧ hI h2 (hN h) 7 = nI 0) : PB x S (c + 1) (pR h2 (x + 14) c (some (hN h))) := by
  obtain ⟨p1, p2, p3, p4, p5⟩ := P
  have Kz : ∀ z, z < hN h → z ≠ x + 14 → Sm4 h (pR h2 (x + 14) c (some (hN h))) z := fun z hz hne => ((Sm4.new hz).tr (K z (by omega))).pR hne
  have k14 := (Sm4.new (sh := (0, 0)) (show x + 14 < hN h by omega)).tr (K (x + 14) (by omega))
  have r14 : hR (pR h2 (x + 14) c (some (hN h))) (x + 14) = va_up (hR h (x + 14)) c (some (x + 15 + c)) := by rw [hR_pRf, if_pos rfl, k14.2.2.2, p4]
  refine ⟨p1.mv (fun z hz hzx => Kz z (by omega) (by omega)) (Kz x (by omega) (by omega)).1 (Kz x (by omega) (by omega)).2.1 (fun k _ _ => by rw [(Kz x (by omega) (by omega)).2.2.2]), by rw [(Kz x (by omega) (by omega)).2.2.2]; exact p2, k14.1.trans p3, by show hN h2 = _; rw [hn2]; show hN h + 1 = _; omega, fun d hd => ?_⟩
  by_cases e : d = c
  · subst e
    have e1 : ∀ z, z ≠ x + 14 → hR (pR h2 (x + 14) d (some (hN h))) z = hR h2 z := fun z hz => by rw [hR_pRf, if_neg hz]
    refine ⟨by rw [r14, up_s], ?_, ?_, ?_⟩
    · show hS h2 (x + 15 + d) = _
      rw [hs, hS_new, if_pos p4.symm]
    · rw [e1 _ (by omega), ← p4]; exact g1
    · show hI h2 (x + 15 + d) 0 = _ ∧ hI h2 (x + 15 + d) 2 = _ ∧ hI h2 (x + 15 + d) 3 = _ ∧ hI h2 (x + 15 + d) 4 = _ ∧ hI h2 (x + 15 + d) 5 = _ ∧ hI h2 (x + 15 + d) 6 = _ ∧ hI h2 (x + 15 + d) 7 = _
      rw [← p4]; exact g2
  · exact (p5 d (by omega)).mv (Kz _ (by omega) (by omega)) (by rw [r14, up_ne e])
theorem ctor_b (C : CX G F mX5_init (Rm 2 79 1404)) {z : Int32} {S : Nat} (hS4 : 2 ≤ S ∧ S ≤ 4)
    (k : ∀ h x3, PB x S (16 * (S - 1)) h → WA G F mX5_init h (14 + 16 * (S - 1)) (940 + 8 * (16 * (S - 1))) Q 160 [some (.ref x), some (.int z), some (.ref (x + 13)), some (.int x3)] []) :
    ∀ (n c : Nat) (h : AH), c + n = 16 * (S - 1) → PB x S c h → WA G F mX5_init h (14 + c) (940 + 8 * c) Q 130 [some (.ref x), some (.int z), some (.ref (x + 13)), some (.int (nI c))] [] := by
  intro n
  induction n with
  | zero =>
    intro c h hc P
    have hc' : c = 16 * (S - 1) := by omega
    have o := P.1.1.1.1.1.1.1
    have r4 := P.2.1
    have s4 := P.2.2.1
    subst hc'
    refine r_iload_n (pc := 130) C dX5_init_130 rfl rfl ?_
    refine r_aload_n (pc := 131) C dX5_init_131 rfl rfl ?_
    refine r_getR (pc := 132) C fl_X5_75 o rfl r4 dX5_init_132 ?_
    refine r_alen (pc := 135) C s4 (by decide) (by decide) dX5_init_135 ?_
    refine n_icmp_ge (pc := 136) (tgt := 160) C (by omega) (by omega) dX5_init_136 (by decide) (fun c136 => ?_) (fun c136 => absurd c136 (by omega))
    exact k _ _ P
  | succ n ih =>
    intro c h hc P
    have o := P.1.1.1.1.1.1.1
    have r4 := P.2.1
    have s4 := P.2.2.1
    have hn := P.2.2.2.1
    refine r_iload_n (pc := 130) C dX5_init_130 rfl rfl ?_
    refine r_aload_n (pc := 131) C dX5_init_131 rfl rfl ?_
    refine r_getR (pc := 132) C fl_X5_75 o rfl r4 dX5_init_132 ?_
    refine r_alen (pc := 135) C s4 (by decide) (by decide) dX5_init_135 ?_
    refine n_icmp_ge (pc := 136) (tgt := 160) C (by omega) (by omega) dX5_init_136 (by decide) (fun c136 => absurd c136 (by omega)) (fun c136 => ?_)
    refine r_aload_n (pc := 139) C dX5_init_139 rfl rfl ?_
    refine r_getR (pc := 140) C fl_X5_75 o rfl r4 dX5_init_140 ?_
    refine r_iload_n (pc := 143) C dX5_init_143 rfl rfl ?_
    refine r_new (pc := 144) (ci := 0) C (by decide) cl_X5_73 ins_0 ini_0 df_0 (by show 14 + c + 1 ≤ 79; omega) (by show 940 + 8 * c + 8 ≤ 1404; omega) dX5_init_144 ?_
    refine WA.widen (c' := 14 + (c + 1)) (s' := 940 + 8 * (c + 1)) (by omega) (by show 940 + 8 * c + 8 ≤ _; omega) ?_
    refine r_dup (pc := 147) C dX5_init_147 rfl ?_
    refine r_iload_n (pc := 148) C dX5_init_148 rfl rfl ?_
    refine r_aload_n (pc := 149) C dX5_init_149 rfl rfl ?_
    refine r_callv (cr_I (pc := 150) C (c_X0_init (a := hN h) (w := x + 13) (by rw [hS_new, if_pos rfl])) dX5_init_150 cm_X0_init rfl rfl ml_X5_79 im_X0_init ⟨⟨Nat.le_of_ble_eq_true rfl, Nat.le_of_ble_eq_true rfl⟩, (by show 14 + (c + 1) + 0 ≤ 79; omega), (by show 940 + 8 * (c + 1) + 0 ≤ 1404; omega)⟩ rfl rfl (Nat.le_of_ble_eq_true rfl)) (fun h150 hq150 => ?_)
    obtain ⟨g1, g2, g3, g4, g5⟩ := hq150
    refine n_aast (pc := 153) C (show hS h150 (x + 14) = (4, 16 * (S - 1)) by rw [g2, hS_new, if_neg (by omega)]; exact s4) (by decide) (show hS h150 (hN h) = (0, 0) by rw [g2, hS_new, if_pos rfl]) (by omega) dX5_init_153 ?_ (by omega)
    refine n_iinc (pc := 154) (lv' := [_, _, _, _]) C dX5_init_154 rfl (by decide) rfl rfl ?_
    refine r_goto (pc := 157) (tgt := 130) C dX5_init_157 (by decide) ?_
    exact ih (c + 1) _ (by omega) (P.chan g2 g1 g3 g4 g5)
def PT (x S c : Nat) (h : AH) : Prop := W5 x S h ∧ (hR h x 4 = some (x + 14) ∧ hS h (x + 14) = (4, 16 * (S - 1)) ∧ ∀ d, d < 16 * (S - 1) → ChZ x d h) ∧ hR h x 5 = some (x + 16 * S - 1) ∧ hS h (x + 16 * S - 1) = (6, 4 * S) ∧ hN h = x + 16 * S + c ∧ ∀ d, d < c → TkZ x S d h
theorem PB.tasks {S : Nat} {h : AH} (hS4 : 2 ≤ S ∧ S ≤ 4) (P : PB x S (16 * (S - 1)) h) : PT x S 0 (pR (hnew h (6, S * 4)) x 5 (some (hN h))) := by
  obtain ⟨p1, p2, p3, p4, p5⟩ := P
  have Kz : ∀ z, z < hN h → z ≠ x → Sm4 h (pR (hnew h (6, S * 4)) x 5 (some (hN h))) z := fun z hz hne => (Sm4.new hz).pR hne
  have rx : hR (pR (hnew h (6, S * 4)) x 5 (some (hN h))) x = va_up (hR h x) 5 (some (x + 16 * S - 1)) := by rw [hR_pRf, if_pos rfl, hR_newf, if_neg (by omega), p4]; congr 2; omega
  have kx := Sm4.new (h := h) (sh := (6, S * 4)) (show x < hN h by omega)
  refine ⟨p1.mv (fun z hz hzx => Kz z (by omega) hzx) kx.1 kx.2.1 (fun k h4 h5 => by rw [rx, up_ne h5]), ⟨by rw [rx, up_ne (by decide)]; exact p2, (Kz (x + 14) (by omega) (by omega)).1.trans p3, fun d hd => (p5 d hd).mv (Kz _ (by omega) (by omega)) (by rw [(Kz (x + 14) (by omega) (by omega)).2.2.2])⟩, by rw [rx, up_s], ?_, by show hN h + 1 = _; omega, fun d hd => absurd hd (Nat.not_lt_zero _)⟩
  show hS (hnew h (6, S * 4)) (x + 16 * S - 1) = _
  rw [hS_new, if_pos (by omega), Nat.mul_comm]
theorem PT.task {S c : Nat} {h h2 : AH} (hS4 : 2 ≤ S ∧ S ≤ 4) (P : PT x S c h) (hs : hS h2 = hS (hnew h (0, 4))) (hn2 : hN h2 = hN (hnew h (0, 4))) (K : ∀ z, z ≠ hN h → Sm4 (hnew h (0, 4)) h2 z) (g2 : hI h2 (hN h) 0 = nI 0 ∧ hI h2 (hN h) 1 = nI 0 ∧ hI h2 (hN h) 2 = nI 0 ∧ hI h2 (hN h) 3 = nI 0) : PT x S (c + 1) (pR h2 (x + 16 * S - 1) c (some (hN h))) := by
  obtain ⟨p1, ⟨p2, p3, p5⟩, p6, p7, p4, p8⟩ := P
  have Kz : ∀ z, z < hN h → z ≠ x + 16 * S - 1 → Sm4 h (pR h2 (x + 16 * S - 1) c (some (hN h))) z := fun z hz hne => ((Sm4.new hz).tr (K z (by omega))).pR hne
  have k14 := (Sm4.new (sh := (0, 4)) (show x + 16 * S - 1 < hN h by omega)).tr (K (x + 16 * S - 1) (by omega))
  have r14 : hR (pR h2 (x + 16 * S - 1) c (some (hN h))) (x + 16 * S - 1) = va_up (hR h (x + 16 * S - 1)) c (some (x + 16 * S + c)) := by rw [hR_pRf, if_pos rfl, k14.2.2.2, p4]
  refine ⟨p1.mv (fun z hz hzx => Kz z (by omega) (by omega)) (Kz x (by omega) (by omega)).1 (Kz x (by omega) (by omega)).2.1 (fun k _ _ => by rw [(Kz x (by omega) (by omega)).2.2.2]), ⟨by rw [(Kz x (by omega) (by omega)).2.2.2]; exact p2, (Kz (x + 14) (by omega) (by omega)).1.trans p3, fun d hd => (p5 d hd).mv (Kz _ (by omega) (by omega)) (by rw [(Kz (x + 14) (by omega) (by omega)).2.2.2])⟩, by rw [(Kz x (by omega) (by omega)).2.2.2]; exact p6, k14.1.trans p7, by show hN h2 = _; rw [hn2]; show hN h + 1 = _; omega, fun d hd => ?_⟩
  by_cases e : d = c
  · subst e
    refine ⟨by rw [r14, up_s], ?_, ?_⟩
    · show hS h2 (x + 16 * S + d) = _
      rw [hs, hS_new, if_pos p4.symm]
    · show hI h2 (x + 16 * S + d) 0 = _ ∧ hI h2 (x + 16 * S + d) 1 = _ ∧ hI h2 (x + 16 * S + d) 2 = _ ∧ hI h2 (x + 16 * S + d) 3 = _
      rw [← p4]; exact g2
  · exact (p8 d (by omega)).mv (Kz _ (by omega) (by omega)) (by rw [r14, up_ne e])
theorem ctor_c (C : CX G F mX5_init (Rm 2 79 1404)) {z : Int32} {S : Nat} (hS4 : 2 ≤ S ∧ S ≤ 4)
    (k : ∀ h x3, PT x S (4 * S) h → WA G F mX5_init h (63 + 4 * S) (1340 + 4 * (4 * S)) Q 203 [some (.ref x), some (.int z), some (.ref (x + 13)), some (.int x3)] []) :
    ∀ (n c : Nat) (h : AH), c + n = 4 * S → PT x S c h → WA G F mX5_init h (63 + c) (1340 + 4 * c) Q 175 [some (.ref x), some (.int z), some (.ref (x + 13)), some (.int (nI c))] [] := by
  intro n
  induction n with
  | zero =>
    intro c h hc P
    have hc' : c = 4 * S := by omega
    have o := P.1.1.1.1.1.1.1
    have r5 := P.2.2.1
    have s5 := P.2.2.2.1
    subst hc'
    refine r_iload_n (pc := 175) C dX5_init_175 rfl rfl ?_
    refine r_aload_n (pc := 176) C dX5_init_176 rfl rfl ?_
    refine r_getR (pc := 177) C fl_X5_84 o rfl r5 dX5_init_177 ?_
    refine r_alen (pc := 180) C s5 (by decide) (by decide) dX5_init_180 ?_
    refine n_icmp_ge (pc := 181) (tgt := 203) C (by omega) (by omega) dX5_init_181 (by decide) (fun c181 => ?_) (fun c181 => absurd c181 (by omega))
    exact k _ _ P
  | succ n ih =>
    intro c h hc P
    have o := P.1.1.1.1.1.1.1
    have r5 := P.2.2.1
    have s5 := P.2.2.2.1
    have hn := P.2.2.2.2.1
    refine r_iload_n (pc := 175) C dX5_init_175 rfl rfl ?_
    refine r_aload_n (pc := 176) C dX5_init_176 rfl rfl ?_
    refine r_getR (pc := 177) C fl_X5_84 o rfl r5 dX5_init_177 ?_
    refine r_alen (pc := 180) C s5 (by decide) (by decide) dX5_init_180 ?_
    refine n_icmp_ge (pc := 181) (tgt := 203) C (by omega) (by omega) dX5_init_181 (by decide) (fun c181 => absurd c181 (by omega)) (fun c181 => ?_)
    refine r_aload_n (pc := 184) C dX5_init_184 rfl rfl ?_
    refine r_getR (pc := 185) C fl_X5_84 o rfl r5 dX5_init_185 ?_
    refine r_iload_n (pc := 188) C dX5_init_188 rfl rfl ?_
    refine r_new (pc := 189) (ci := 4) C (by decide) cl_X5_82 ins_4 ini_4 df_4 (by show 63 + c + 1 ≤ 79; omega) (by show 1340 + 4 * c + 4 ≤ 1404; omega) dX5_init_189 ?_
    refine WA.widen (c' := 63 + (c + 1)) (s' := 1340 + 4 * (c + 1)) (by omega) (by show 1340 + 4 * c + 4 ≤ _; omega) ?_
    refine r_dup (pc := 192) C dX5_init_192 rfl ?_
    refine r_callv (cr_IN (pc := 193) C (c_X4_init (a := hN h) (by rw [hS_new, if_pos rfl])) dX5_init_193 cm_X4_init rfl rfl ml_X5_88 im_X4_init ⟨⟨Nat.le_of_ble_eq_true rfl, Nat.le_of_ble_eq_true rfl⟩, (by show 63 + (c + 1) + 0 ≤ 79; omega), (by show 1340 + 4 * (c + 1) + 0 ≤ 1404; omega)⟩ rfl rfl (Nat.le_of_ble_eq_true rfl)) (fun h193 hq193 => ?_)
    obtain ⟨g1, g2, g3, g5⟩ := hq193
    refine n_aast (pc := 196) C (show hS h193 (x + 16 * S - 1) = (6, 4 * S) by rw [g2, hS_new, if_neg (by omega)]; exact s5) (by decide) (show hS h193 (hN h) = (0, 4) by rw [g2, hS_new, if_pos rfl]) (by omega) dX5_init_196 ?_ (by omega)
    refine n_iinc (pc := 197) (lv' := [_, _, _, _]) C dX5_init_197 rfl (by decide) rfl rfl ?_
    refine r_goto (pc := 200) (tgt := 175) C dX5_init_200 (by decide) ?_
    exact ih (c + 1) _ (by omega) (P.task hS4 g2 g1 g3 g5)
end CC92
