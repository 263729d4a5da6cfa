/-! ===== the class: its constructor, the parts ===== -/
/-- a cell is as it was -/
def Sm4 (h h' : AH) (z : Nat) : Prop := hS h' z = hS h z ∧ hI h' z = hI h z ∧ hL h' z = hL h z ∧ hR h' z = hR h z
theorem Sm4.rf {h : AH} {z : Nat} : Sm4 h h z := ⟨rfl, rfl, rfl, rfl⟩
theorem Sm4.tr {h h1 h2 : AH} {z : Nat} (a : Sm4 h h1 z) (b : Sm4 h1 h2 z) : Sm4 h h2 z := ⟨b.1.trans a.1, b.2.1.trans a.2.1, b.2.2.1.trans a.2.2.1, b.2.2.2.trans a.2.2.2⟩
theorem Sm4.new {h : AH} {sh : Nat × Nat} {z : Nat} (hz : z < hN h) : Sm4 h (hnew h sh) z := Bl.new z hz
theorem Sm4.pI {h h1 : AH} {a k z : Nat} {v : Int32} (s : Sm4 h h1 z) (hz : z ≠ a) : Sm4 h (pI h1 a k v) z := s.tr ⟨rfl, hI_ne hz, rfl, rfl⟩
theorem Sm4.pR {h h1 : AH} {a k z : Nat} {v : Option Nat} (s : Sm4 h h1 z) (hz : z ≠ a) : Sm4 h (pR h1 a k v) z := s.tr ⟨rfl, rfl, rfl, by rw [hR_pRf, if_neg hz]⟩
theorem c_X0_init {G : GP} {h : AH} {a w : Nat} {v : Int32} (ho : hS h a = (0, 0)) : MA G mX0_init 1 0 0 [.ref a, .int v, .ref w] h (Ov (fun h' => hN h' = hN h ∧ hS h' = hS h ∧ (∀ z, z ≠ a → Sm4 h h' z) ∧ hR h' a 1 = some w ∧ hI h' a 0 = v ∧ hI h' a 2 = -1 ∧ hI h' a 3 = -1 ∧ hI h' a 4 = nI 0 ∧ hI h' a 5 = -1 ∧ hI h' a 6 = nI 0 ∧ hI h' a 7 = nI 0)) := by
  refine MA.intro (lv := [some (.ref a), some (.int v), some (.ref w)]) (by decide) (Nat.le_of_ble_eq_true rfl) rfl (fun F C => ?_)
  refine r_aload_n (pc := 0) C dX0_init_0 rfl rfl ?_
  refine r_objInit (pc := 1) C ml_X0_3 oi_1 oi_2 (Nat.le_of_ble_eq_true rfl) (Nat.le_of_ble_eq_true rfl) dX0_init_1 ?_
  refine r_aload_n (pc := 4) C dX0_init_4 rfl rfl ?_
  refine r_iconst (pc := 5) (v := (-1)) C dX0_init_5 (by decide) ?_
  refine r_putI (pc := 6) C fl_X0_9 ho rfl rfl rfl rfl dX0_init_6 ?_
  refine r_aload_n (pc := 9) C dX0_init_9 rfl rfl ?_
  refine r_iconst (pc := 10) (v := (-1)) C dX0_init_10 (by decide) ?_
  refine r_putI (pc := 11) C fl_X0_15 ho rfl rfl rfl rfl dX0_init_11 ?_
  refine r_aload_n (pc := 14) C dX0_init_14 rfl rfl ?_
  refine r_iconst (pc := 15) (v := (nI 0)) C dX0_init_15 (by decide) ?_
  refine r_putI (pc := 16) C fl_X0_18 ho rfl rfl rfl rfl dX0_init_16 ?_
  refine r_aload_n (pc := 19) C dX0_init_19 rfl rfl ?_
  refine r_iconst (pc := 20) (v := (-1)) C dX0_init_20 (by decide) ?_
  refine r_putI (pc := 21) C fl_X0_21 ho rfl rfl rfl rfl dX0_init_21 ?_
  refine r_aload_n (pc := 24) C dX0_init_24 rfl rfl ?_
  refine r_iconst (pc := 25) (v := (nI 0)) C dX0_init_25 (by decide) ?_
  refine r_putI (pc := 26) C fl_X0_24 ho rfl rfl rfl rfl dX0_init_26 ?_
  refine r_aload_n (pc := 29) C dX0_init_29 rfl rfl ?_
  refine r_iconst (pc := 30) (v := (nI 0)) C dX0_init_30 (by decide) ?_
  refine r_putI (pc := 31) C fl_X0_28 ho rfl rfl rfl rfl dX0_init_31 ?_
  refine r_aload_n (pc := 34) C dX0_init_34 rfl rfl ?_
  refine r_iload_n (pc := 35) C dX0_init_35 rfl rfl ?_
  refine r_putFI (pc := 36) C fl_X0_31 ho rfl rfl rfl rfl rfl rfl fw_X0_31 dX0_init_36 ?_
  refine r_aload_n (pc := 39) C dX0_init_39 rfl rfl ?_
  refine r_aload_n (pc := 40) C dX0_init_40 rfl rfl ?_
  refine r_putFR (pc := 41) C fl_X0_34 ho rfl rfl rfl rfl rfl rfl fw_X0_34 dX0_init_41 ?_
  refine r_vret (pc := 44) C rfl (Nat.le_of_ble_eq_true rfl) (Nat.le_of_ble_eq_true rfl) ⟨rfl, ?_⟩ dX0_init_44
  refine ⟨rfl, rfl, fun z hz => (Sm4.pR (((((((Sm4.rf.pI hz).pI hz).pI hz).pI hz).pI hz).pI hz).pI hz) hz), ?_, ?_⟩
  · rw [hR_pRf, if_pos rfl, up_s]
  · rw [show ∀ (q : AH), hI (pR q a 1 (some w)) = hI q from fun _ => rfl, hI_eq, hI_eq, hI_eq, hI_eq, hI_eq, hI_eq, hI_eq]; simp [va_up]
theorem c_X4_init {G : GP} {h : AH} {a : Nat} (ho : hS h a = (0, 4)) : MA G mX4_init 1 0 0 [.ref a] h (Ov (fun h' => hN h' = hN h ∧ hS h' = hS h ∧ (∀ z, z ≠ a → Sm4 h h' z) ∧ hI h' a 0 = nI 0 ∧ hI h' a 1 = nI 0 ∧ hI h' a 2 = nI 0 ∧ hI h' a 3 = nI 0)) := by
  refine MA.intro (lv := [some (.ref a)]) (by decide) (Nat.le_of_ble_eq_true rfl) rfl (fun F C => ?_)
  refine r_aload_n (pc := 0) C dX4_init_0 rfl rfl ?_
  refine r_objInit (pc := 1) C ml_X4_1 oi_1 oi_2 (Nat.le_of_ble_eq_true rfl) (Nat.le_of_ble_eq_true rfl) dX4_init_1 ?_
  refine r_aload_n (pc := 4) C dX4_init_4 rfl rfl ?_
  refine r_iconst (pc := 5) (v := (nI 0)) C dX4_init_5 (by decide) ?_
  refine r_putI (pc := 6) C fl_X4_7 ho rfl rfl rfl rfl dX4_init_6 ?_
  refine r_aload_n (pc := 9) C dX4_init_9 rfl rfl ?_
  refine r_iconst (pc := 10) (v := (nI 0)) C dX4_init_10 (by decide) ?_
  refine r_putI (pc := 11) C fl_X4_13 ho rfl rfl rfl rfl dX4_init_11 ?_
  refine r_aload_n (pc := 14) C dX4_init_14 rfl rfl ?_
  refine r_iconst (pc := 15) (v := (nI 0)) C dX4_init_15 (by decide) ?_
  refine r_putI (pc := 16) C fl_X4_17 ho rfl rfl rfl rfl dX4_init_16 ?_
  refine r_aload_n (pc := 19) C dX4_init_19 rfl rfl ?_
  refine r_iconst (pc := 20) (v := (nI 0)) C dX4_init_20 (by decide) ?_
  refine r_putI (pc := 21) C fl_X4_20 ho rfl rfl rfl rfl dX4_init_21 ?_
  refine r_vret (pc := 24) C rfl (Nat.le_of_ble_eq_true rfl) (Nat.le_of_ble_eq_true rfl) ⟨rfl, ?_⟩ dX4_init_24
  refine ⟨rfl, rfl, fun z hz => ((((Sm4.rf.pI hz).pI hz).pI hz).pI hz), ?_⟩
  rw [hI_eq, hI_eq, hI_eq, hI_eq]; simp [va_up]
theorem c_X1_init {G : GP} {h : AH} {a : Nat} (ho : hS h a = (0, 1)) (hn : hN h = a + 1) : MA G mX1_init 1 3 416 [.ref a] h (Ov (fun h' => X1L a h' ∧ hN h' = a + 4 ∧ hI h' a 3 = nI 0 ∧ hI h' (a + 1) = z0 ∧ hL h' (a + 2) = z0L ∧ (∀ k, k < 16 → hI h' (a + 3) k = -1) ∧ Bl a h h')) := by
  refine MA.intro (lv := [some (.ref a)]) (by decide) (Nat.le_of_ble_eq_true rfl) rfl (fun F C => ?_)
  have P : RP 1 h a [] (hI h a) h := ⟨ho, hn, fun i k kd n g hi => by simp at hi, rfl, fun z hz => ⟨rfl, rfl, rfl, rfl⟩⟩
  refine r_aload_n (pc := 0) C dX1_init_0 rfl rfl ?_
  refine r_objInit (pc := 1) C ml_X1_3 oi_1 oi_2 (Nat.le_of_ble_eq_true rfl) (Nat.le_of_ble_eq_true rfl) dX1_init_1 ?_
  refine r_aload_n (pc := 4) C dX1_init_4 rfl rfl ?_
  refine r_sipush (pc := 5) (v := (nI 200)) C dX1_init_5 (by decide) ?_
  refine r_newai (pc := 8) C ac_int rfl (by decide) (by decide) (by decide) dX1_init_8 ?_
  refine r_putFR (pc := 10) C fl_X1_9 (by rw [hS_new, if_neg (by have := P.2.1; omega)]; exact P.1) rfl rfl rfl rfl rfl rfl fw_X1_9 dX1_init_10 ?_
  refine (P.add0 (by decide)).to (fun h4 P => ?_)
  refine r_aload_n (pc := 13) C dX1_init_13 rfl rfl ?_
  refine r_sipush (pc := 14) (v := (nI 200)) C dX1_init_14 (by decide) ?_
  refine r_newal (pc := 17) C ac_long rfl (by decide) (by decide) (by decide) dX1_init_17 ?_
  refine r_putFR (pc := 19) C fl_X1_15 (by rw [hS_new, if_neg (by have := P.2.1; omega)]; exact P.1) rfl rfl rfl rfl rfl rfl fw_X1_15 dX1_init_19 ?_
  refine (P.add0 (by decide)).to (fun h4 P => ?_)
  refine r_aload_n (pc := 22) C dX1_init_22 rfl rfl ?_
  refine r_bipush (pc := 23) (v := (nI 16)) C dX1_init_23 (by decide) ?_
  refine r_newai (pc := 25) C ac_int rfl (by decide) (by decide) (by decide) dX1_init_25 ?_
  refine r_putFR (pc := 27) C fl_X1_19 (by rw [hS_new, if_neg (by have := P.2.1; omega)]; exact P.1) rfl rfl rfl rfl rfl rfl fw_X1_19 dX1_init_27 ?_
  refine (P.add0 (by decide)).to (fun h4 P => ?_)
  refine r_aload_n (pc := 30) C dX1_init_30 rfl rfl ?_
  refine r_iconst (pc := 31) (v := (nI 0)) C dX1_init_31 (by decide) ?_
  refine r_putI (pc := 32) C fl_X1_22 P.1 rfl rfl rfl rfl dX1_init_32 ?_
  have P := P.put (k := 3) (v := nI 0)
  refine P.to (fun h5 P => ?_)
  refine r_aload_n (pc := 35) C dX1_init_35 rfl rfl ?_
  refine r_getR (pc := 36) C fl_X1_19 P.1 rfl (P.2.2.1 2 _ _ _ _ rfl).1 dX1_init_36 ?_
  refine r_iconst (pc := 39) (v := (-1)) C dX1_init_39 (by decide) ?_
  refine r_callv (cr_S (pc := 40) C (c_J7_fill (n := 16) (P.2.2.1 2 _ _ _ _ rfl).2.1 (by decide)) dX1_init_40 cm_J7_fill_53178 ml_X1_26 st_J7_fill_53178 ⟨⟨Nat.le_of_ble_eq_true rfl, Nat.le_of_ble_eq_true rfl⟩, Nat.le_of_ble_eq_true rfl, Nat.le_of_ble_eq_true rfl⟩ rfl rfl (Nat.le_of_ble_eq_true rfl)) (fun h40 hq40 => ?_)
  obtain ⟨f1, f2⟩ := hq40
  obtain ⟨p1, p2, p3, p4, p5⟩ := P
  have r0 := p3 0 _ _ _ _ rfl
  have r1 := p3 1 _ _ _ _ rfl
  have r2 := p3 2 _ _ _ _ rfl
  refine r_vret (pc := 43) C rfl (Nat.le_of_ble_eq_true rfl) (Nat.le_of_ble_eq_true rfl) ⟨rfl, ⟨?_, ?_, ?_, ?_, ?_, ?_, ?_⟩, ?_, ?_, ?_, ?_, f2, fun z hz => ?_⟩ dX1_init_43
  · rw [f1.2.1]; exact p1
  · rw [f1.2.2.1]; exact r0.1
  · rw [f1.2.1]; exact r0.2.1
  · rw [f1.2.2.1]; exact r1.1
  · rw [f1.2.1]; exact r1.2.1
  · rw [f1.2.2.1]; exact r2.1
  · rw [f1.2.1]; exact r2.2.1
  · rw [f1.1, p2]; rfl
  · rw [(f1.2.2.2 a (by omega)).1, p4, up_s]
  · rw [(f1.2.2.2 (a + 1) (by omega)).1]; exact r0.2.2.1
  · rw [(f1.2.2.2 (a + 2) (by omega)).2]; exact r1.2.2.2
  · exact ⟨by rw [f1.2.1]; exact (p5 z hz).1, by rw [(f1.2.2.2 z (by omega)).1]; exact (p5 z hz).2.1, by rw [(f1.2.2.2 z (by omega)).2]; exact (p5 z hz).2.2.2, by rw [f1.2.2.1]; exact (p5 z hz).2.2.1⟩
