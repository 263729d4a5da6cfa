/-! ===== the class: small constructors ===== -/
abbrev z0L : Nat → Int64 := fun _ => 0
/-- cells below n are as they were -/
def Bl (n : Nat) (h h' : AH) : Prop := ∀ z, z < n → hS h' z = hS h z ∧ hI h' z = hI h z ∧ hL h' z = hL h z ∧ hR h' z = hR h z
theorem Bl.rf {n : Nat} {h : AH} : Bl n h h := fun z _ => ⟨rfl, rfl, rfl, rfl⟩
theorem Bl.tr {n : Nat} {h h1 h2 : AH} (a : Bl n h h1) (b : Bl n h1 h2) : Bl n h h2 := fun z hz => ⟨(b z hz).1.trans (a z hz).1, (b z hz).2.1.trans (a z hz).2.1, (b z hz).2.2.1.trans (a z hz).2.2.1, (b z hz).2.2.2.trans (a z hz).2.2.2⟩
theorem Bl.less {n k : Nat} {h h' : AH} (a : Bl n h h') (hk : k ≤ n) : Bl k h h' := fun z hz => a z (by omega)
theorem Bl.new {h : AH} {sh : Nat × Nat} : Bl (hN h) h (hnew h sh) := fun z hz => ⟨by rw [hS_new, if_neg (by omega)], by rw [hI_newf, if_neg (by omega)], by rw [hL_newf, if_neg (by omega)], by rw [hR_newf, if_neg (by omega)]⟩
theorem Bl.pI {n a k : Nat} {v : Int32} {h h1 : AH} (f : Bl n h h1) (ha : n ≤ a) : Bl n h (pI h1 a k v) := f.tr (fun z hz => ⟨rfl, hI_ne (by omega), rfl, rfl⟩)
theorem Bl.pR {n a k : Nat} {v : Option Nat} {h h1 : AH} (f : Bl n h h1) (ha : n ≤ a) : Bl n h (pR h1 a k v) := f.tr (fun z hz => ⟨rfl, rfl, rfl, by rw [hR_pRf, if_neg (by omega)]⟩)
theorem Bl.pIs {n a : Nat} {v : Nat → Int32} {h h1 : AH} (f : Bl n h h1) (ha : n ≤ a) : Bl n h (pIs h1 a v) := f.tr (fun z hz => ⟨rfl, up_ne (by omega), rfl, rfl⟩)
theorem c_X3_init {G : GP} {h : AH} {a : Nat} (ho : hS h a = (0, 3)) (hn : hN h = a + 1) : MA G mX3_init 1 2 128 [.ref a] h (Ov (fun h' => T3 a h' ∧ hN h' = a + 3 ∧ hI h' a = hI h a ∧ hI h' (a + 1) = z0 ∧ hL h' (a + 2) = z0L ∧ Bl a h h')) := by
  refine MA.intro (lv := [some (.ref a)]) (by decide) (Nat.le_of_ble_eq_true rfl) rfl (fun F C => ?_)
  have P : RP 3 h a [] (hI h a) h := ⟨ho, hn, fun i k kd n g hi => by simp at hi, rfl, fun z hz => ⟨rfl, rfl, rfl, rfl⟩⟩
  refine r_aload_n (pc := 0) C dX3_init_0 rfl rfl ?_
  refine r_objInit (pc := 1) C ml_X3_3 oi_1 oi_2 (Nat.le_of_ble_eq_true rfl) (Nat.le_of_ble_eq_true rfl) dX3_init_1 ?_
  refine r_aload_n (pc := 4) C dX3_init_4 rfl rfl ?_
  refine r_bipush (pc := 5) (v := (nI 64)) C dX3_init_5 (by decide) ?_
  refine r_newai (pc := 7) C ac_int rfl (by decide) (by decide) (by decide) dX3_init_7 ?_
  refine r_putFR (pc := 9) C fl_X3_9 (by rw [hS_new, if_neg (by have := P.2.1; omega)]; exact P.1) rfl rfl rfl rfl rfl rfl fw_X3_9 dX3_init_9 ?_
  refine (P.add0 (by decide)).to (fun h4 P => ?_)
  refine r_aload_n (pc := 12) C dX3_init_12 rfl rfl ?_
  refine r_bipush (pc := 13) (v := (nI 64)) C dX3_init_13 (by decide) ?_
  refine r_newal (pc := 15) C ac_long rfl (by decide) (by decide) (by decide) dX3_init_15 ?_
  refine r_putFR (pc := 17) C fl_X3_15 (by rw [hS_new, if_neg (by have := P.2.1; omega)]; exact P.1) rfl rfl rfl rfl rfl rfl fw_X3_15 dX3_init_17 ?_
  refine (P.add0 (by decide)).to (fun h4 P => ?_)
  obtain ⟨p1, p2, p3, p4, p5⟩ := P
  have r0 := p3 0 _ _ _ _ rfl
  have r1 := p3 1 _ _ _ _ rfl
  exact r_vret (pc := 20) C rfl (Nat.le_of_ble_eq_true rfl) (Nat.le_of_ble_eq_true rfl) ⟨rfl, ⟨p1, r0.1, r0.2.1, r1.1, r1.2.1⟩, p2, p4, r0.2.2.1, r1.2.2.2, fun z hz => ⟨(p5 z hz).1, (p5 z hz).2.1, (p5 z hz).2.2.2, (p5 z hz).2.2.1⟩⟩ dX3_init_20
/-- a mark is being made at a -/
def MKp (a : Nat) (h0 : AH) (h : AH) : Prop := hS h a = (0, 2) ∧ T3 (a + 1) h ∧ hI h (a + 2) = z0 ∧ hL h (a + 3) = z0L ∧ Bl a h0 h
theorem MKp.np {a k kd n : Nat} {h0 h : AH} (P : MKp a h0 h) (hN4 : a + 4 ≤ hN h) : MKp a h0 (pR (hnew h (kd, n)) a k (some (hN h))) := by
  obtain ⟨p1, p2, p3, p4, p5⟩ := P
  obtain ⟨q1, q2, q3, q4, q5⟩ := p2
  have B := Bl.new (h := h) (sh := (kd, n))
  have R : ∀ z, z ≠ a → z < hN h → hR (pR (hnew h (kd, n)) a k (some (hN h))) z = hR h z := fun z hz hlt => by rw [hR_pRf, if_neg hz]; exact (B z hlt).2.2.2
  refine ⟨(B a (by omega)).1.trans p1, ⟨(B (a + 1) (by omega)).1.trans q1, ?_, (B (a + 1 + 1) (by omega)).1.trans q3, ?_, (B (a + 1 + 2) (by omega)).1.trans q5⟩, (B (a + 2) (by omega)).2.1.trans p3, (B (a + 3) (by omega)).2.2.1.trans p4, ?_⟩
  · rw [R (a + 1) (by omega) (by omega)]; exact q2
  · rw [R (a + 1) (by omega) (by omega)]; exact q4
  · exact p5.tr ((B.less (k := a) (by omega)).pR (Nat.le_refl a))
theorem MKp.pI {a k : Nat} {v : Int32} {h0 h : AH} (P : MKp a h0 h) : MKp a h0 (pI h a k v) := by
  obtain ⟨p1, p2, p3, p4, p5⟩ := P
  exact ⟨p1, p2, by rw [hI_ne (by omega)]; exact p3, p4, p5.pI (Nat.le_refl a)⟩
theorem x2_tail {G : GP} {F : FX} {h h5 : AH} {a w : Nat} {v : Int32} (C : CX G F mX2_init (Rm 2 6 534)) (hw : hS h w = (1, 4)) (hwa : w < a) (P3 : MKp a h h5) (n3 : hN h5 = a + 6) (s4 : hS h5 (a + 4) = (1, 200) ∧ hR h5 a 2 = some (a + 1) ∧ hR h5 a 3 = some (a + 4) ∧ hS h5 (a + 5) = (1, 200) ∧ hR h5 a 4 = some (a + 5)) (i5 : hI h5 a 5 = nI 0 ∧ hI h5 a 6 = nI 0 ∧ hI h5 a 7 = nI 0 ∧ hI h5 a 8 = nI 0) : WA G F mX2_init h5 5 530 (MQA G F 6 534 (Ov (fun h' => X2L a h' ∧ hN h' = a + 7 ∧ (hI h' a 1 = v ∧ hI h' a 5 = nI 0 ∧ hI h' a 6 = nI 0 ∧ hI h' a 7 = nI 0 ∧ hI h' a 8 = nI 0) ∧ hI h' (a + 2) = z0 ∧ hL h' (a + 3) = z0L ∧ hI h' (a + 6) = hI h w ∧ Bl a h h'))) 53 [some (.ref a), some (.ref w), some (.int v)] [] := by
  have hwb := P3.2.2.2.2 w hwa
  refine r_aload_n (pc := 53) C dX2_init_53 rfl rfl ?_
  refine r_aload_n (pc := 54) C dX2_init_54 rfl rfl ?_
  refine r_iconst (pc := 55) (v := (nI 4)) C dX2_init_55 (by decide) ?_
  refine r_callq (cr_S (pc := 56) C (c_J7_copyOf (a := w) (hwb.1.trans hw)) dX2_init_56 cm_J7_copyOf_59c91 ml_X2_38 st_J7_copyOf_59c91 ⟨⟨Nat.le_of_ble_eq_true rfl, Nat.le_of_ble_eq_true rfl⟩, Nat.le_of_ble_eq_true rfl, Nat.le_of_ble_eq_true rfl⟩ rfl rfl (Nat.le_of_ble_eq_true rfl)) (fun v56 h56 hq56 => ?_)
  obtain ⟨rfl, rfl⟩ := hq56
  refine r_putFR (pc := 59) C fl_X2_44 (by show hS (hnew h5 (1, 4)) a = _; rw [hS_new, if_neg (by omega)]; exact P3.1) rfl rfl rfl rfl rfl rfl fw_X2_44 dX2_init_59 ?_
  have q0 : MKp a h (pR (pIs (hnew h5 (1, 4)) (hN h5) (hI h5 w)) a 0 (some (hN h5))) := (by
    have P4 := P3.np (k := 0) (kd := 1) (n := 4) (by omega)
    obtain ⟨p1, p2, p3, p4, p5⟩ := P4
    exact ⟨p1, p2, (by show hI (pIs (hnew h5 (1, 4)) (hN h5) (hI h5 w)) (a + 2) = _; exact (up_ne (by omega)).trans p3), p4, p5.tr (fun z hz => ⟨rfl, up_ne (by omega), rfl, rfl⟩)⟩)
  have q1 : hR (pR (pIs (hnew h5 (1, 4)) (hN h5) (hI h5 w)) a 0 (some (hN h5))) a = va_up (hR h5 a) 0 (some (a + 6)) := (by rw [hR_pRf, if_pos rfl, n3]; show va_up (hR (hnew h5 (1, 4)) a) 0 _ = _; rw [hR_newf, if_neg (by omega)])
  have q2 : ∀ z, z < a + 6 → hS (pR (pIs (hnew h5 (1, 4)) (hN h5) (hI h5 w)) a 0 (some (hN h5))) z = hS h5 z := (fun z hz => by show hS (hnew h5 (1, 4)) z = _; rw [hS_new, if_neg (by omega)])
  have q3 : hS (pR (pIs (hnew h5 (1, 4)) (hN h5) (hI h5 w)) a 0 (some (hN h5))) (a + 6) = (1, 4) := (by show hS (hnew h5 (1, 4)) (a + 6) = _; rw [hS_new, if_pos (by omega)])
  have q4 : hI (pR (pIs (hnew h5 (1, 4)) (hN h5) (hI h5 w)) a 0 (some (hN h5))) a = hI h5 a := (by show hI (pIs (hnew h5 (1, 4)) (hN h5) (hI h5 w)) a = _; exact (up_ne (by omega)).trans (by rw [hI_newf, if_neg (by omega)]))
  have q5 : hI (pR (pIs (hnew h5 (1, 4)) (hN h5) (hI h5 w)) a 0 (some (hN h5))) (a + 6) = hI h w := (by show hI (pIs (hnew h5 (1, 4)) (hN h5) (hI h5 w)) (a + 6) = _; rw [show a + 6 = hN h5 by omega]; exact up_s.trans hwb.2.1)
  have q6 : hN (pR (pIs (hnew h5 (1, 4)) (hN h5) (hI h5 w)) a 0 (some (hN h5))) = a + 7 := (by show hN h5 + 1 = _; omega)
  generalize pR (pIs (hnew h5 (1, 4)) (hN h5) (hI h5 w)) a 0 (some (hN h5)) = h6 at q0 q1 q2 q3 q4 q5 q6 ⊢
  refine r_aload_n (pc := 62) C dX2_init_62 rfl rfl ?_
  refine r_iload_n (pc := 63) C dX2_init_63 rfl rfl ?_
  refine r_putFI (pc := 64) C fl_X2_47 q0.1 rfl rfl rfl rfl rfl rfl fw_X2_47 dX2_init_64 ?_
  refine r_vret (pc := 67) C rfl (Nat.le_of_ble_eq_true rfl) (Nat.le_of_ble_eq_true rfl) ⟨rfl, ?_⟩ dX2_init_67
  refine ⟨⟨q0.1, ?_, q3, ?_, q0.2.1, ?_, ?_, ?_, ?_⟩, q6, ?_, ?_, q0.2.2.2.1, ?_, q0.2.2.2.2.pI (Nat.le_refl a)⟩
  · show hR h6 a 0 = _; rw [q1, up_s]
  · show hR h6 a 2 = _; rw [q1, up_ne (by decide)]; exact s4.2.1
  · show hR h6 a 3 = _; rw [q1, up_ne (by decide)]; exact s4.2.2.1
  · show hS h6 (a + 4) = _; rw [q2 _ (by omega)]; exact s4.1
  · show hR h6 a 4 = _; rw [q1, up_ne (by decide)]; exact s4.2.2.2.2
  · show hS h6 (a + 5) = _; rw [q2 _ (by omega)]; exact s4.2.2.2.1
  · rw [hI_eq, q4]; exact ⟨up_s, (up_ne (by decide)).trans i5.1, (up_ne (by decide)).trans i5.2.1, (up_ne (by decide)).trans i5.2.2.1, (up_ne (by decide)).trans i5.2.2.2⟩
  · rw [hI_ne (by omega)]; exact q0.2.2.1
  · rw [hI_ne (by omega)]; exact q5
theorem c_X2_init {G : GP} {h : AH} {a w : Nat} {v : Int32} (ho : hS h a = (0, 2)) (hn : hN h = a + 1) (hw : hS h w = (1, 4)) (hwa : w < a) : MA G mX2_init 2 6 534 [.ref a, .ref w, .int v] h (Ov (fun h' => X2L a h' ∧ hN h' = a + 7 ∧ (hI h' a 1 = v ∧ hI h' a 5 = nI 0 ∧ hI h' a 6 = nI 0 ∧ hI h' a 7 = nI 0 ∧ hI h' a 8 = nI 0) ∧ hI h' (a + 2) = z0 ∧ hL h' (a + 3) = z0L ∧ hI h' (a + 6) = hI h w ∧ Bl a h h')) := by
  refine MA.intro (lv := [some (.ref a), some (.ref w), some (.int v)]) (by decide) (Nat.le_of_ble_eq_true rfl) rfl (fun F C => ?_)
  have B0 := Bl.new (h := h) (sh := (0, 3))
  refine r_aload_n (pc := 0) C dX2_init_0 rfl rfl ?_
  refine r_objInit (pc := 1) C ml_X2_3 oi_1 oi_2 (Nat.le_of_ble_eq_true rfl) (Nat.le_of_ble_eq_true rfl) dX2_init_1 ?_
  refine r_aload_n (pc := 4) C dX2_init_4 rfl rfl ?_
  refine r_new (pc := 5) (ci := 3) C (by decide) cl_X2_9 ins_3 ini_3 df_3 (Nat.le_of_ble_eq_true rfl) (Nat.le_of_ble_eq_true rfl) dX2_init_5 ?_
  refine r_dup (pc := 8) C dX2_init_8 rfl ?_
  refine r_callv (cr_IN (pc := 9) C (c_X3_init (a := hN h) (by rw [hS_new, if_pos rfl]) rfl) dX2_init_9 cm_X3_init rfl rfl ml_X2_11 im_X3_init ⟨⟨Nat.le_of_ble_eq_true rfl, Nat.le_of_ble_eq_true rfl⟩, Nat.le_of_ble_eq_true rfl, Nat.le_of_ble_eq_true rfl⟩ rfl rfl (Nat.le_of_ble_eq_true rfl)) (fun h9 hq9 => ?_)
  obtain ⟨g1, g2, g3, g4, g5, g6⟩ := hq9
  rw [hn] at g1 g2 g3 g4 g5 g6
  have e1 : hS h9 a = (0, 2) := (g6 a (by omega)).1.trans ((B0 a (by omega)).1.trans ho)
  have P0 : MKp a h (pR h9 a 2 (some (hN h))) := ⟨e1, (by obtain ⟨q1, q2, q3, q4, q5⟩ := g1; exact ⟨q1, by rw [hR_pRf, if_neg (by omega)]; exact q2, q3, by rw [hR_pRf, if_neg (by omega)]; exact q4, q5⟩), g4, g5, ((B0.less (k := a) (by omega)).tr (g6.less (by omega))).pR (Nat.le_refl a)⟩
  have n0 : hN (pR h9 a 2 (some (hN h))) = a + 4 := g2
  have r2 : hR (pR h9 a 2 (some (hN h))) a 2 = some (a + 1) := by rw [hR_pRf, if_pos rfl, up_s, hn]
  refine r_putFR (pc := 12) C fl_X2_12 e1 rfl rfl rfl rfl rfl rfl fw_X2_12 dX2_init_12 ?_
  generalize pR h9 a 2 (some (hN h)) = h2 at P0 n0 r2 ⊢
  refine r_aload_n (pc := 15) C dX2_init_15 rfl rfl ?_
  refine r_sipush (pc := 16) (v := (nI 200)) C dX2_init_16 (by decide) ?_
  refine r_newai (pc := 19) C ac_int rfl (by decide) (by decide) (by decide) dX2_init_19 ?_
  refine r_putFR (pc := 21) C fl_X2_18 (by rw [hS_new, if_neg (by omega)]; exact P0.1) rfl rfl rfl rfl rfl rfl fw_X2_18 dX2_init_21 ?_
  have P1 := P0.np (k := 3) (kd := 1) (n := 200) (by omega)
  have n1 : hN (pR (hnew h2 (1, 200)) a 3 (some (hN h2))) = a + 5 := by show hN h2 + 1 = _; omega
  have s3 : hS (pR (hnew h2 (1, 200)) a 3 (some (hN h2))) (a + 4) = (1, 200) ∧ hR (pR (hnew h2 (1, 200)) a 3 (some (hN h2))) a 2 = some (a + 1) ∧ hR (pR (hnew h2 (1, 200)) a 3 (some (hN h2))) a 3 = some (a + 4) := ⟨by rw [hS_pR, hS_new, if_pos (by omega)], by rw [hR_pRf, if_pos rfl, up_ne (by decide), hR_newf, if_neg (by omega)]; exact r2, by rw [hR_pRf, if_pos rfl, up_s, n0]⟩
  generalize pR (hnew h2 (1, 200)) a 3 (some (hN h2)) = h3 at P1 n1 s3 ⊢
  refine r_aload_n (pc := 24) C dX2_init_24 rfl rfl ?_
  refine r_sipush (pc := 25) (v := (nI 200)) C dX2_init_25 (by decide) ?_
  refine r_newai (pc := 28) C ac_int rfl (by decide) (by decide) (by decide) dX2_init_28 ?_
  refine r_putFR (pc := 30) C fl_X2_22 (by rw [hS_new, if_neg (by omega)]; exact P1.1) rfl rfl rfl rfl rfl rfl fw_X2_22 dX2_init_30 ?_
  have P2 := P1.np (k := 4) (kd := 1) (n := 200) (by omega)
  have n2 : hN (pR (hnew h3 (1, 200)) a 4 (some (hN h3))) = a + 6 := by show hN h3 + 1 = _; omega
  have s4 : hS (pR (hnew h3 (1, 200)) a 4 (some (hN h3))) (a + 4) = (1, 200) ∧ hR (pR (hnew h3 (1, 200)) a 4 (some (hN h3))) a 2 = some (a + 1) ∧ hR (pR (hnew h3 (1, 200)) a 4 (some (hN h3))) a 3 = some (a + 4) ∧ hS (pR (hnew h3 (1, 200)) a 4 (some (hN h3))) (a + 5) = (1, 200) ∧ hR (pR (hnew h3 (1, 200)) a 4 (some (hN h3))) a 4 = some (a + 5) := ⟨by rw [hS_pR, hS_new, if_neg (by omega)]; exact s3.1, by rw [hR_pRf, if_pos rfl, up_ne (by decide), hR_newf, if_neg (by omega)]; exact s3.2.1, by rw [hR_pRf, if_pos rfl, up_ne (by decide), hR_newf, if_neg (by omega)]; exact s3.2.2, by rw [hS_pR, hS_new, if_pos (by omega)], by rw [hR_pRf, if_pos rfl, up_s, n1]⟩
  generalize pR (hnew h3 (1, 200)) a 4 (some (hN h3)) = h4 at P2 n2 s4 ⊢
  refine r_aload_n (pc := 33) C dX2_init_33 rfl rfl ?_
  refine r_iconst (pc := 34) (v := (nI 0)) C dX2_init_34 (by decide) ?_
  refine r_putI (pc := 35) C fl_X2_25 P2.1 rfl rfl rfl rfl dX2_init_35 ?_
  have P3 := P2.pI (k := 5) (v := nI 0)
  refine r_aload_n (pc := 38) C dX2_init_38 rfl rfl ?_
  refine r_iconst (pc := 39) (v := (nI 0)) C dX2_init_39 (by decide) ?_
  refine r_putI (pc := 40) C fl_X2_29 P2.1 rfl rfl rfl rfl dX2_init_40 ?_
  have P3 := P3.pI (k := 6) (v := nI 0)
  refine r_aload_n (pc := 43) C dX2_init_43 rfl rfl ?_
  refine r_iconst (pc := 44) (v := (nI 0)) C dX2_init_44 (by decide) ?_
  refine r_putI (pc := 45) C fl_X2_32 P2.1 rfl rfl rfl rfl dX2_init_45 ?_
  have P3 := P3.pI (k := 7) (v := nI 0)
  refine r_aload_n (pc := 48) C dX2_init_48 rfl rfl ?_
  refine r_iconst (pc := 49) (v := (nI 0)) C dX2_init_49 (by decide) ?_
  refine r_putI (pc := 50) C fl_X2_35 P2.1 rfl rfl rfl rfl dX2_init_50 ?_
  have P3 := P3.pI (k := 8) (v := nI 0)
  have n3 : hN (pI (pI (pI (pI h4 a 5 (nI 0)) a 6 (nI 0)) a 7 (nI 0)) a 8 (nI 0)) = a + 6 := n2
  have s5 : hS (pI (pI (pI (pI h4 a 5 (nI 0)) a 6 (nI 0)) a 7 (nI 0)) a 8 (nI 0)) = hS h4 ∧ hR (pI (pI (pI (pI h4 a 5 (nI 0)) a 6 (nI 0)) a 7 (nI 0)) a 8 (nI 0)) = hR h4 := ⟨rfl, rfl⟩
  have i5 : hI (pI (pI (pI (pI h4 a 5 (nI 0)) a 6 (nI 0)) a 7 (nI 0)) a 8 (nI 0)) a 5 = nI 0 ∧ hI (pI (pI (pI (pI h4 a 5 (nI 0)) a 6 (nI 0)) a 7 (nI 0)) a 8 (nI 0)) a 6 = nI 0 ∧ hI (pI (pI (pI (pI h4 a 5 (nI 0)) a 6 (nI 0)) a 7 (nI 0)) a 8 (nI 0)) a 7 = nI 0 ∧ hI (pI (pI (pI (pI h4 a 5 (nI 0)) a 6 (nI 0)) a 7 (nI 0)) a 8 (nI 0)) a 8 = nI 0 := by rw [hI_eq, hI_eq, hI_eq, hI_eq]; refine ⟨?_, ?_, ?_, ?_⟩ <;> simp [va_up]
  generalize pI (pI (pI (pI h4 a 5 (nI 0)) a 6 (nI 0)) a 7 (nI 0)) a 8 (nI 0) = h5 at P3 n3 s5 i5 ⊢
  have hwb := P3.2.2.2.2 w hwa
  exact WA.widen (c' := 5) (s' := 530) (Nat.le_of_ble_eq_true rfl) (Nat.le_of_ble_eq_true rfl) (x2_tail C hw hwa P3 n3 (by rw [s5.1, s5.2]; exact s4) i5)
