/-! ===== the class: the input by itself ===== -/
def X1L (a : Nat) (h : AH) : Prop := hS h a = (0, 1) ∧ hR h a 0 = some (a + 1) ∧ hS h (a + 1) = (1, 200) ∧ hR h a 1 = some (a + 2) ∧ hS h (a + 2) = (2, 200) ∧ hR h a 2 = some (a + 3) ∧ hS h (a + 3) = (1, 16)
def X1K (a : Nat) (t : TS) (h : AH) : Prop := hI h a 3 = nI (tN t 0 3) ∧ kN 200 2 t (hI h (a + 1)) ∧ kL 200 0 t (hL h (a + 2))
theorem X1L.fq {P : Nat → Prop} {a : Nat} {h h' : AH} (T : X1L a h) (f : Fq P h h') : X1L a h' := by
  unfold X1L; rw [f.2.1, f.2.2.1]; exact T
theorem X1K.fq {P : Nat → Prop} {a : Nat} {t : TS} {h h' : AH} (T : X1K a t h) (f : Fq P h h') (h0 : ¬ P a) (h1 : ¬ P (a + 1)) (h2 : ¬ P (a + 2)) : X1K a t h' := by
  unfold X1K; rw [(f.2.2.2 a h0).1, (f.2.2.2 _ h1).1, (f.2.2.2 _ h2).2]; exact T
noncomputable def keyI (t : TS) (x : Int32) : Int32 := cif (inN x (tN t 0 3)) (nI (tN t 2 x.toNatClampNeg)) (-1)
noncomputable def valI (t : TS) (x : Int32) : Int64 := cif (inN x (tN t 0 3)) (tL t 0 x.toNatClampNeg) 0
theorem keyI_n {t : TS} {r : Nat} (h : r < tN t 0 3) (hb : tN t 0 3 ≤ 200) : keyI t (nI r) = nI (tN t 2 r) := (cif_t (inN_ok h)).trans (by rw [cl (by omega)])
theorem valI_n {t : TS} {r : Nat} (h : r < tN t 0 3) (hb : tN t 0 3 ≤ 200) : valI t (nI r) = tL t 0 r := (cif_t (inN_ok h)).trans (by rw [cl (by omega)])
theorem c_X1_keyOf {G : GP} {h : AH} {a : Nat} {t : TS} (L : X1L a h) (K : X1K a t h) (hb : tN t 0 3 ≤ 200) (x : Int32) : MA G mX1_keyOf 1 0 0 [.ref a, .int x] h (Oi (fun v h' => v = keyI t x ∧ h' = h)) := by
  obtain ⟨o1, r10, s10, r11, s11, r12, s12⟩ := L
  obtain ⟨f13, k10, k11⟩ := K
  refine MA.intro (lv := [some (.ref a), some (.int x)]) (by decide) (Nat.le_of_ble_eq_true rfl) rfl (fun F C => ?_)
  by_cases hx : inN x (tN t 0 3)
  · obtain ⟨j, hj, rfl⟩ := id hx
    have k10' := k10 j (by omega)
    refine r_iload_n (pc := 0) C dX1_keyOf_0 rfl rfl ?_
    refine r_calli (cr_SN (pc := 1) C (c_X5_isRow _ _) dX1_keyOf_1 cm_X5_isRow ml_X1_36 st_X5_isRow ⟨⟨Nat.le_of_ble_eq_true rfl, Nat.le_of_ble_eq_true rfl⟩, Nat.le_of_ble_eq_true rfl, Nat.le_of_ble_eq_true rfl⟩ rfl rfl (Nat.le_of_ble_eq_true rfl)) (fun v1 h1 hq1 => ?_)
    obtain ⟨rfl, rfl⟩ := hq1
    refine b_if_eq (pc := 4) (tgt := 24) C dX1_keyOf_4 (by decide) (fun c4 => absurd c4 (fun z => z (inN_ok (by omega)))) (fun c4 => ?_)
    refine r_iload_n (pc := 7) C dX1_keyOf_7 rfl rfl ?_
    refine r_aload_n (pc := 8) C dX1_keyOf_8 rfl rfl ?_
    refine r_getIe (pc := 9) C fl_X1_22 o1 rfl f13 dX1_keyOf_9 ?_
    refine n_icmp_ge (pc := 12) (tgt := 24) C (by omega) (by omega) dX1_keyOf_12 (by decide) (fun c12 => absurd c12 (by omega)) (fun c12 => ?_)
    refine r_aload_n (pc := 15) C dX1_keyOf_15 rfl rfl ?_
    refine r_getR (pc := 16) C fl_X1_9 o1 rfl r10 dX1_keyOf_16 ?_
    refine r_iload_n (pc := 19) C dX1_keyOf_19 rfl rfl ?_
    refine n_iald (pc := 20) C s10 (by omega) k10' dX1_keyOf_20 ?_
    refine r_goto (pc := 21) (tgt := 25) C dX1_keyOf_21 (by decide) ?_
    exact r_iret (pc := 25) C rfl (Nat.le_of_ble_eq_true rfl) (Nat.le_of_ble_eq_true rfl) ⟨_, rfl, ⟨(keyI_n hj hb).symm, rfl⟩⟩ dX1_keyOf_25
  · have e : keyI t x = -1 := cif_f hx
    refine r_iload_n (pc := 0) C dX1_keyOf_0 rfl rfl ?_
    refine r_calli (cr_SN (pc := 1) C (c_X5_isRow _ _) dX1_keyOf_1 cm_X5_isRow ml_X1_36 st_X5_isRow ⟨⟨Nat.le_of_ble_eq_true rfl, Nat.le_of_ble_eq_true rfl⟩, Nat.le_of_ble_eq_true rfl, Nat.le_of_ble_eq_true rfl⟩ rfl rfl (Nat.le_of_ble_eq_true rfl)) (fun v1 h1 hq1 => ?_)
    obtain ⟨rfl, rfl⟩ := hq1
    refine b_if_eq (pc := 4) (tgt := 24) C dX1_keyOf_4 (by decide) (fun c4 => ?_) (fun c4 => ?_)
    · refine r_iconst (pc := 24) (v := (-1)) C dX1_keyOf_24 (by decide) ?_
      exact r_iret (pc := 25) C rfl (Nat.le_of_ble_eq_true rfl) (Nat.le_of_ble_eq_true rfl) ⟨_, rfl, ⟨e.symm, rfl⟩⟩ dX1_keyOf_25
    · refine r_iload_n (pc := 7) C dX1_keyOf_7 rfl rfl ?_
      refine r_aload_n (pc := 8) C dX1_keyOf_8 rfl rfl ?_
      refine r_getIe (pc := 9) C fl_X1_22 o1 rfl f13 dX1_keyOf_9 ?_
      refine r_icmp_ge (pc := 12) (tgt := 24) C dX1_keyOf_12 (by decide) (fun c12 => ?_) (fun c12 => absurd c12 (fun z => hx ((ltI (by omega)).mpr ⟨((ltI (by decide)).mp c4).1, Int32.not_le.mp z⟩)))
      refine r_iconst (pc := 24) (v := (-1)) C dX1_keyOf_24 (by decide) ?_
      exact r_iret (pc := 25) C rfl (Nat.le_of_ble_eq_true rfl) (Nat.le_of_ble_eq_true rfl) ⟨_, rfl, ⟨e.symm, rfl⟩⟩ dX1_keyOf_25
theorem c_X1_valueOf {G : GP} {h : AH} {a : Nat} {t : TS} (L : X1L a h) (K : X1K a t h) (hb : tN t 0 3 ≤ 200) (x : Int32) : MA G mX1_valueOf 1 0 0 [.ref a, .int x] h (Ol (fun v h' => v = valI t x ∧ h' = h)) := by
  obtain ⟨o1, r10, s10, r11, s11, r12, s12⟩ := L
  obtain ⟨f13, k10, k11⟩ := K
  refine MA.intro (lv := [some (.ref a), some (.int x)]) (by decide) (Nat.le_of_ble_eq_true rfl) rfl (fun F C => ?_)
  by_cases hx : inN x (tN t 0 3)
  · obtain ⟨j, hj, rfl⟩ := id hx
    have k11' := k11 j (by omega)
    refine r_iload_n (pc := 0) C dX1_valueOf_0 rfl rfl ?_
    refine r_calli (cr_SN (pc := 1) C (c_X5_isRow _ _) dX1_valueOf_1 cm_X5_isRow ml_X1_36 st_X5_isRow ⟨⟨Nat.le_of_ble_eq_true rfl, Nat.le_of_ble_eq_true rfl⟩, Nat.le_of_ble_eq_true rfl, Nat.le_of_ble_eq_true rfl⟩ rfl rfl (Nat.le_of_ble_eq_true rfl)) (fun v1 h1 hq1 => ?_)
    obtain ⟨rfl, rfl⟩ := hq1
    refine b_if_eq (pc := 4) (tgt := 24) C dX1_valueOf_4 (by decide) (fun c4 => absurd c4 (fun z => z (inN_ok (by omega)))) (fun c4 => ?_)
    refine r_iload_n (pc := 7) C dX1_valueOf_7 rfl rfl ?_
    refine r_aload_n (pc := 8) C dX1_valueOf_8 rfl rfl ?_
    refine r_getIe (pc := 9) C fl_X1_22 o1 rfl f13 dX1_valueOf_9 ?_
    refine n_icmp_ge (pc := 12) (tgt := 24) C (by omega) (by omega) dX1_valueOf_12 (by decide) (fun c12 => absurd c12 (by omega)) (fun c12 => ?_)
    refine r_aload_n (pc := 15) C dX1_valueOf_15 rfl rfl ?_
    refine r_getR (pc := 16) C fl_X1_15 o1 rfl r11 dX1_valueOf_16 ?_
    refine r_iload_n (pc := 19) C dX1_valueOf_19 rfl rfl ?_
    refine n_lald (pc := 20) C s11 (by omega) k11' dX1_valueOf_20 ?_
    refine r_goto (pc := 21) (tgt := 25) C dX1_valueOf_21 (by decide) ?_
    exact r_lret (pc := 25) C rfl (Nat.le_of_ble_eq_true rfl) (Nat.le_of_ble_eq_true rfl) ⟨_, rfl, ⟨(valI_n hj hb).symm, rfl⟩⟩ dX1_valueOf_25
  · have e : valI t x = 0 := cif_f hx
    refine r_iload_n (pc := 0) C dX1_valueOf_0 rfl rfl ?_
    refine r_calli (cr_SN (pc := 1) C (c_X5_isRow _ _) dX1_valueOf_1 cm_X5_isRow ml_X1_36 st_X5_isRow ⟨⟨Nat.le_of_ble_eq_true rfl, Nat.le_of_ble_eq_true rfl⟩, Nat.le_of_ble_eq_true rfl, Nat.le_of_ble_eq_true rfl⟩ rfl rfl (Nat.le_of_ble_eq_true rfl)) (fun v1 h1 hq1 => ?_)
    obtain ⟨rfl, rfl⟩ := hq1
    refine b_if_eq (pc := 4) (tgt := 24) C dX1_valueOf_4 (by decide) (fun c4 => ?_) (fun c4 => ?_)
    · refine r_lconst (pc := 24) (v := 0) C dX1_valueOf_24 (by decide) ?_
      exact r_lret (pc := 25) C rfl (Nat.le_of_ble_eq_true rfl) (Nat.le_of_ble_eq_true rfl) ⟨_, rfl, ⟨e.symm, rfl⟩⟩ dX1_valueOf_25
    · refine r_iload_n (pc := 7) C dX1_valueOf_7 rfl rfl ?_
      refine r_aload_n (pc := 8) C dX1_valueOf_8 rfl rfl ?_
      refine r_getIe (pc := 9) C fl_X1_22 o1 rfl f13 dX1_valueOf_9 ?_
      refine r_icmp_ge (pc := 12) (tgt := 24) C dX1_valueOf_12 (by decide) (fun c12 => ?_) (fun c12 => absurd c12 (fun z => hx ((ltI (by omega)).mpr ⟨((ltI (by decide)).mp c4).1, Int32.not_le.mp z⟩)))
      refine r_lconst (pc := 24) (v := 0) C dX1_valueOf_24 (by decide) ?_
      exact r_lret (pc := 25) C rfl (Nat.le_of_ble_eq_true rfl) (Nat.le_of_ble_eq_true rfl) ⟨_, rfl, ⟨e.symm, rfl⟩⟩ dX1_valueOf_25
/-- the first row of KEY k at or behind r, of n rows -/
def nxtR (t : TS) (k : Nat) : Nat → Nat → Option Nat
  | 0, _ => none
  | n + 1, r => if tN t 2 r = k then some r else nxtR t k n (r + 1)
theorem nextOf_l {G : GP} {F : FX} (C : CX G F mX1_nextOf (Rm 2 0 0)) {h : AH} {a k : Nat} {t : TS} (L : X1L a h) (K : X1K a t h) (hb : tN t 0 3 ≤ 200) (hk : k < 16) (hkb : ∀ i, tN t 2 i ≤ 15) {x2 : Int32} {o : Option Nat} :
    ∀ (n r : Nat), r + n = tN t 0 3 → nxtR t k n r = o → WA G F mX1_nextOf h 0 0 (MQA G F 0 0 (Oi (fun v h' => v = oI o ∧ h' = h))) 2 [some (.ref a), some (.int (nI k)), some (.int x2), some (.int (nI r))] [] := by
  obtain ⟨o1, r10, s10, r11, s11, r12, s12⟩ := id L
  obtain ⟨f13, k10, k11⟩ := id K
  intro n
  induction n with
  | zero =>
    intro r hr ho
    refine r_iload_n (pc := 2) C dX1_nextOf_2 rfl rfl ?_
    refine r_aload_n (pc := 3) C dX1_nextOf_3 rfl rfl ?_
    refine r_getIe (pc := 4) C fl_X1_22 o1 rfl f13 dX1_nextOf_4 ?_
    refine n_icmp_ge (pc := 7) (tgt := 27) C (by omega) (by omega) dX1_nextOf_7 (by decide) (fun c7 => ?_) (fun c7 => absurd c7 (by omega))
    refine r_iconst (pc := 27) (v := (-1)) C dX1_nextOf_27 (by decide) ?_
    exact r_iret (pc := 28) C rfl (Nat.le_of_ble_eq_true rfl) (Nat.le_of_ble_eq_true rfl) ⟨_, rfl, ⟨by rw [← ho]; rfl, rfl⟩⟩ dX1_nextOf_28
  | succ n ih =>
    intro r hr ho
    have hkr := hkb r
    unfold nxtR at ho
    refine r_iload_n (pc := 2) C dX1_nextOf_2 rfl rfl ?_
    refine r_aload_n (pc := 3) C dX1_nextOf_3 rfl rfl ?_
    refine r_getIe (pc := 4) C fl_X1_22 o1 rfl f13 dX1_nextOf_4 ?_
    refine n_icmp_ge (pc := 7) (tgt := 27) C (by omega) (by omega) dX1_nextOf_7 (by decide) (fun c7 => absurd c7 (by omega)) (fun c7 => ?_)
    refine r_aload_n (pc := 10) C dX1_nextOf_10 rfl rfl ?_
    refine r_iload_n (pc := 11) C dX1_nextOf_11 rfl rfl ?_
    refine r_calli (cr_V (pc := 12) C (c_X1_keyOf L K hb _) dX1_nextOf_12 cm_X1_keyOf ml_X1_43 im_X1_keyOf se_X1_keyOf o1 rfl ⟨⟨Nat.le_of_ble_eq_true rfl, Nat.le_of_ble_eq_true rfl⟩, Nat.le_of_ble_eq_true rfl, Nat.le_of_ble_eq_true rfl⟩ rfl rfl (Nat.le_of_ble_eq_true rfl)) (fun v12 h12 hq12 => ?_)
    obtain ⟨rfl, rfl⟩ := hq12
    rw [keyI_n (by omega) hb]
    refine r_iload_n (pc := 15) C dX1_nextOf_15 rfl rfl ?_
    refine n_icmp_ne (pc := 16) (tgt := 21) C (by omega) (by omega) dX1_nextOf_16 (by decide) (fun c16 => ?_) (fun c16 => ?_)
    · refine n_iinc (pc := 21) (lv' := [_, _, _, _]) C dX1_nextOf_21 rfl (by decide) rfl rfl ?_
      refine r_goto (pc := 24) (tgt := 2) C dX1_nextOf_24 (by decide) ?_
      rw [if_neg c16] at ho
      exact ih (r + 1) (by omega) ho
    · refine r_iload_n (pc := 19) C dX1_nextOf_19 rfl rfl ?_
      exact r_iret (pc := 20) C rfl (Nat.le_of_ble_eq_true rfl) (Nat.le_of_ble_eq_true rfl) ⟨_, rfl, ⟨by rw [if_pos c16] at ho; rw [← ho]; rfl, rfl⟩⟩ dX1_nextOf_20
theorem c_X1_nextOf {G : GP} {h : AH} {a k r : Nat} {t : TS} (L : X1L a h) (K : X1K a t h) (hb : tN t 0 3 ≤ 200) (hk : k < 16) (hkb : ∀ i, tN t 2 i ≤ 15) (hr : r ≤ tN t 0 3) : MA G mX1_nextOf 2 0 0 [.ref a, .int (nI k), .int (nI r)] h (Oi (fun v h' => v = oI (nxtR t k (tN t 0 3 - r) r) ∧ h' = h)) := by
  refine MA.intro (lv := [some (.ref a), some (.int (nI k)), some (.int (nI r)), none]) (by decide) (Nat.le_of_ble_eq_true rfl) rfl (fun F C => ?_)
  refine r_iload_n (pc := 0) C dX1_nextOf_0 rfl rfl ?_
  refine r_istore_n (pc := 1) (lv' := [_, _, _, _]) C dX1_nextOf_1 rfl (by decide) rfl rfl ?_
  exact nextOf_l C L K hb hk hkb (tN t 0 3 - r) r (by omega) rfl
/-- of the KEYS below n, those that task q of w owns: their first unread row + 1, or 0 -/
def fuN (u : Nat → Nat) (w q : Nat) : Nat → Nat
  | 0 => 0
  | n + 1 => if u n ≠ 0 ∧ n % w = q ∧ (fuN u w q n = 0 ∨ u n < fuN u w q n) then u n else fuN u w q n
theorem fuN_le {u : Nat → Nat} {w q b : Nat} (h : ∀ k, u k ≤ b) : ∀ n, fuN u w q n ≤ b
  | 0 => Nat.zero_le _
  | n + 1 => by
    unfold fuN
    split
    · exact h n
    · exact fuN_le h n
theorem firstU_l {G : GP} {F : FX} (C : CX G F mX1_firstUnread (Rm 1 0 0)) {h : AH} {a q w : Nat} {u : Nat → Nat} (L : X1L a h) (hu : ∀ k, k < 16 → hI h (a + 3) k = nI (u k) - 1) (hub : ∀ k, u k ≤ 200) (hw : 1 ≤ w ∧ w ≤ 4) (hq : q < 4) :
    ∀ (n k : Nat) (x3 : Int32) (x5 : Option Value), k + n = 16 → x3 = nI (fuN u w q k) - 1 → WA G F mX1_firstUnread h 0 0 (MQA G F 0 0 (Oi (fun v h' => v = nI (fuN u w q 16) - 1 ∧ h' = h))) 5 [some (.ref a), some (.int (nI q)), some (.int (nI w)), some (.int x3), some (.int (nI k)), x5] [] := by
  obtain ⟨o1, r10, s10, r11, s11, r12, s12⟩ := id L
  intro n
  induction n with
  | zero =>
    intro k x3 x5 hk hx
    obtain rfl : k = 16 := by omega
    refine r_iload (pc := 5) C dX1_firstUnread_5 rfl ?_
    refine r_bipush (pc := 7) (v := (nI 16)) C dX1_firstUnread_7 (by decide) ?_
    refine n_icmp_ge (pc := 9) (tgt := 57) C (by omega) (by omega) dX1_firstUnread_9 (by decide) (fun c9 => ?_) (fun c9 => absurd c9 (by omega))
    refine r_iload_n (pc := 57) C dX1_firstUnread_57 rfl rfl ?_
    exact r_iret (pc := 58) C rfl (Nat.le_of_ble_eq_true rfl) (Nat.le_of_ble_eq_true rfl) ⟨_, rfl, ⟨hx, rfl⟩⟩ dX1_firstUnread_58
  | succ n ih =>
    intro k x3 x5 hk hx
    have huk := hu k (by omega)
    have hb1 := hub k
    have hb2 := fuN_le (w := w) (q := q) hub k
    have e1 : fuN u w q (k + 1) = if u k ≠ 0 ∧ k % w = q ∧ (fuN u w q k = 0 ∨ u k < fuN u w q k) then u k else fuN u w q k := rfl
    have hm := Nat.mod_lt k (show w > 0 by omega)
    have w0 : ¬ (u k ≠ 0 ∧ k % w = q ∧ (fuN u w q k = 0 ∨ u k < fuN u w q k)) → ∀ x5, WA G F mX1_firstUnread h 0 0 (MQA G F 0 0 (Oi (fun v h' => v = nI (fuN u w q 16) - 1 ∧ h' = h))) 51 [some (.ref a), some (.int (nI q)), some (.int (nI w)), some (.int x3), some (.int (nI k)), x5] [] := by
      intro hc x5
      rw [if_neg hc] at e1
      refine n_iinc (pc := 51) (lv' := [_, _, _, _, _, _]) C dX1_firstUnread_51 rfl (by decide) rfl rfl ?_
      refine r_goto (pc := 54) (tgt := 5) C dX1_firstUnread_54 (by decide) ?_
      exact ih (k + 1) _ _ (by omega) (by rw [e1]; exact hx)
    have w1 : (u k ≠ 0 ∧ k % w = q ∧ (fuN u w q k = 0 ∨ u k < fuN u w q k)) → WA G F mX1_firstUnread h 0 0 (MQA G F 0 0 (Oi (fun v h' => v = nI (fuN u w q 16) - 1 ∧ h' = h))) 48 [some (.ref a), some (.int (nI q)), some (.int (nI w)), some (.int x3), some (.int (nI k)), some (.int (nI (u k) - 1))] [] := by
      intro hc
      rw [if_pos hc] at e1
      refine r_iload (pc := 48) C dX1_firstUnread_48 rfl ?_
      refine r_istore_n (pc := 50) (lv' := [_, _, _, _, _, _]) C dX1_firstUnread_50 rfl (by decide) rfl rfl ?_
      refine n_iinc (pc := 51) (lv' := [_, _, _, _, _, _]) C dX1_firstUnread_51 rfl (by decide) rfl rfl ?_
      refine r_goto (pc := 54) (tgt := 5) C dX1_firstUnread_54 (by decide) ?_
      exact ih (k + 1) _ _ (by omega) (by rw [e1])
    refine r_iload (pc := 5) C dX1_firstUnread_5 rfl ?_
    refine r_bipush (pc := 7) (v := (nI 16)) C dX1_firstUnread_7 (by decide) ?_
    refine n_icmp_ge (pc := 9) (tgt := 57) C (by omega) (by omega) dX1_firstUnread_9 (by decide) (fun c9 => absurd c9 (by omega)) (fun c9 => ?_)
    refine r_aload_n (pc := 12) C dX1_firstUnread_12 rfl rfl ?_
    refine r_getR (pc := 13) C fl_X1_19 o1 rfl r12 dX1_firstUnread_13 ?_
    refine r_iload (pc := 16) C dX1_firstUnread_16 rfl ?_
    refine n_iald (pc := 18) C s12 (by omega) huk dX1_firstUnread_18 ?_
    refine r_istore (pc := 19) (lv' := [_, _, _, _, _, _]) C dX1_firstUnread_19 (by decide) rfl rfl ?_
    refine r_iload (pc := 21) C dX1_firstUnread_21 rfl ?_
    refine r_iconst (pc := 23) (v := (-1)) C dX1_firstUnread_23 (by decide) ?_
    refine r_icmp_eq (pc := 24) (tgt := 51) C dX1_firstUnread_24 (by decide) (fun c24 => ?_) (fun c24 => ?_)
    · exact w0 (fun z => z.1 ((uwm1 (by omega)).mp c24)) _
    · refine r_iload (pc := 27) C dX1_firstUnread_27 rfl ?_
      refine r_iload_n (pc := 29) C dX1_firstUnread_29 rfl rfl ?_
      refine r_calli (cr_SN (pc := 30) C (c_X5_owner _ k w (by omega) (by omega)) dX1_firstUnread_30 cm_X5_owner ml_X1_39 st_X5_owner ⟨⟨Nat.le_of_ble_eq_true rfl, Nat.le_of_ble_eq_true rfl⟩, Nat.le_of_ble_eq_true rfl, Nat.le_of_ble_eq_true rfl⟩ rfl rfl (Nat.le_of_ble_eq_true rfl)) (fun v30 h30 hq30 => ?_)
      obtain ⟨rfl, rfl⟩ := hq30
      rw [show ownI k w = nI (k % w) from if_neg (by omega)]
      refine r_iload_n (pc := 33) C dX1_firstUnread_33 rfl rfl ?_
      refine n_icmp_ne (pc := 34) (tgt := 51) C (by omega) (by omega) dX1_firstUnread_34 (by decide) (fun c34 => ?_) (fun c34 => ?_)
      · exact w0 (fun z => c34 z.2.1) _
      · refine r_iload_n (pc := 37) C dX1_firstUnread_37 rfl rfl ?_
        refine r_iconst (pc := 38) (v := (-1)) C dX1_firstUnread_38 (by decide) ?_
        refine r_icmp_eq (pc := 39) (tgt := 48) C dX1_firstUnread_39 (by decide) (fun c39 => ?_) (fun c39 => ?_)
        · exact w1 ⟨fun z => c24 ((uwm1 (by omega)).mpr z), c34, Or.inl ((uwm1 (by omega)).mp (hx ▸ c39))⟩
        · have n1 : u k ≠ 0 := fun z => c24 ((uwm1 (by omega)).mpr z)
          have n2 : fuN u w q k ≠ 0 := fun z => c39 (by rw [hx]; exact (uwm1 (by omega)).mpr z)
          have n3 : nI (u k) - 1 < x3 ↔ u k < fuN u w q k := by rw [hx, uwS (show u k = u k - 1 + 1 by omega), uwS (show fuN u w q k = fuN u w q k - 1 + 1 by omega), nI_ltI (by omega) (by omega)]; omega
          refine r_iload (pc := 42) C dX1_firstUnread_42 rfl ?_
          refine r_iload_n (pc := 44) C dX1_firstUnread_44 rfl rfl ?_
          refine r_icmp_ge (pc := 45) (tgt := 51) C dX1_firstUnread_45 (by decide) (fun c45 => ?_) (fun c45 => ?_)
          · exact w0 (fun z => by rcases z.2.2 with z | z; (exact n2 z); (exact Int32.not_lt.mpr c45 (n3.mpr z))) _
          · exact w1 ⟨n1, c34, Or.inr (n3.mp (Int32.not_le.mp c45))⟩
theorem c_X1_firstUnread {G : GP} {h : AH} {a q w : Nat} {u : Nat → Nat} (L : X1L a h) (hu : ∀ k, k < 16 → hI h (a + 3) k = nI (u k) - 1) (hub : ∀ k, u k ≤ 200) (hw : 1 ≤ w ∧ w ≤ 4) (hq : q < 4) : MA G mX1_firstUnread 1 0 0 [.ref a, .int (nI q), .int (nI w)] h (Oi (fun v h' => v = nI (fuN u w q 16) - 1 ∧ h' = h)) := by
  refine MA.intro (lv := [some (.ref a), some (.int (nI q)), some (.int (nI w)), none, none, none]) (by decide) (Nat.le_of_ble_eq_true rfl) rfl (fun F C => ?_)
  refine r_iconst (pc := 0) (v := (-1)) C dX1_firstUnread_0 (by decide) ?_
  refine r_istore_n (pc := 1) (lv' := [_, _, _, _, _, _]) C dX1_firstUnread_1 rfl (by decide) rfl rfl ?_
  refine r_iconst (pc := 2) (v := (nI 0)) C dX1_firstUnread_2 (by decide) ?_
  refine r_istore (pc := 3) (lv' := [_, _, _, _, _, _]) C dX1_firstUnread_3 (by decide) rfl rfl ?_
  exact firstU_l C L hu hub hw hq 16 0 _ _ rfl (show (-1 : Int32) = nI 0 - 1 by decide)
theorem c_X1_read {G : GP} {h : AH} {a r : Nat} {t : TS} (L : X1L a h) (K : X1K a t h) (hb : tN t 0 3 ≤ 200) (hkb : ∀ i, tN t 2 i ≤ 15) (hr : r < tN t 0 3) : MA G mX1_read 3 0 0 [.ref a, .int (nI r)] h (Ov (fun h' => h' = pI h (a + 3) (tN t 2 r) (oI (nxtR t (tN t 2 r) (tN t 0 3 - (r + 1)) (r + 1))))) := by
  obtain ⟨o1, r10, s10, r11, s11, r12, s12⟩ := id L
  have hkr := hkb r
  refine MA.intro (lv := [some (.ref a), some (.int (nI r)), none]) (by decide) (Nat.le_of_ble_eq_true rfl) rfl (fun F C => ?_)
  refine r_aload_n (pc := 0) C dX1_read_0 rfl rfl ?_
  refine r_iload_n (pc := 1) C dX1_read_1 rfl rfl ?_
  refine r_calli (cr_V (pc := 2) C (c_X1_keyOf L K hb _) dX1_read_2 cm_X1_keyOf ml_X1_43 im_X1_keyOf se_X1_keyOf o1 rfl ⟨⟨Nat.le_of_ble_eq_true rfl, Nat.le_of_ble_eq_true rfl⟩, Nat.le_of_ble_eq_true rfl, Nat.le_of_ble_eq_true rfl⟩ rfl rfl (Nat.le_of_ble_eq_true rfl)) (fun v2 h2 hq2 => ?_)
  obtain ⟨rfl, rfl⟩ := hq2
  rw [keyI_n hr hb]
  refine r_istore_n (pc := 5) (lv' := [_, _, _]) C dX1_read_5 rfl (by decide) rfl rfl ?_
  refine r_iload_n (pc := 6) C dX1_read_6 rfl rfl ?_
  refine r_calli (cr_SN (pc := 7) C (c_X5_isKey _ _) dX1_read_7 cm_X5_isKey ml_X1_32 st_X5_isKey ⟨⟨Nat.le_of_ble_eq_true rfl, Nat.le_of_ble_eq_true rfl⟩, Nat.le_of_ble_eq_true rfl, Nat.le_of_ble_eq_true rfl⟩ rfl rfl (Nat.le_of_ble_eq_true rfl)) (fun v7 h7 hq7 => ?_)
  obtain ⟨rfl, rfl⟩ := hq7
  refine b_if_eq (pc := 10) (tgt := 27) C dX1_read_10 (by decide) (fun c10 => absurd c10 (fun z => z (inN_ok (by omega)))) (fun c10 => ?_)
  refine r_aload_n (pc := 13) C dX1_read_13 rfl rfl ?_
  refine r_getR (pc := 14) C fl_X1_19 o1 rfl r12 dX1_read_14 ?_
  refine r_iload_n (pc := 17) C dX1_read_17 rfl rfl ?_
  refine r_aload_n (pc := 18) C dX1_read_18 rfl rfl ?_
  refine r_iload_n (pc := 19) C dX1_read_19 rfl rfl ?_
  refine r_iload_n (pc := 20) C dX1_read_20 rfl rfl ?_
  refine r_iconst (pc := 21) (v := (nI 1)) C dX1_read_21 (by decide) ?_
  refine n_iadd (pc := 22) C dX1_read_22 ?_
  refine r_calli (cr_V (pc := 23) C (c_X1_nextOf L K hb (by omega) hkb (by omega)) dX1_read_23 cm_X1_nextOf ml_X1_47 im_X1_nextOf se_X1_nextOf o1 rfl ⟨⟨Nat.le_of_ble_eq_true rfl, Nat.le_of_ble_eq_true rfl⟩, Nat.le_of_ble_eq_true rfl, Nat.le_of_ble_eq_true rfl⟩ rfl rfl (Nat.le_of_ble_eq_true rfl)) (fun v23 h23 hq23 => ?_)
  obtain ⟨rfl, rfl⟩ := hq23
  refine n_iast (pc := 26) C s12 (by omega) dX1_read_26 ?_
  exact r_vret (pc := 27) C rfl (Nat.le_of_ble_eq_true rfl) (Nat.le_of_ble_eq_true rfl) ⟨rfl, rfl⟩ dX1_read_27
/-- the row of KEY k behind which m of them lie -/
def rwd (t : TS) (k : Nat) : Nat → Option Nat
  | 0 => nxtR t k (tN t 0 3) 0
  | m + 1 => match rwd t k m with
    | none => none
    | some r => nxtR t k (tN t 0 3 - (r + 1)) (r + 1)
theorem nxtR_lt {t : TS} {k : Nat} : ∀ (n r : Nat) {q : Nat}, nxtR t k n r = some q → q < r + n ∧ r ≤ q ∧ tN t 2 q = k
  | 0, r, q, h => by cases h
  | n + 1, r, q, h => by
    unfold nxtR at h
    split at h
    · rename_i e
      injection h with h
      subst h
      exact ⟨by omega, Nat.le_refl _, e⟩
    · have := nxtR_lt n (r + 1) h
      exact ⟨by omega, by omega, this.2.2⟩
theorem rwd_lt {t : TS} {k : Nat} : ∀ (m : Nat) {q : Nat}, rwd t k m = some q → q < tN t 0 3
  | 0, q, h => by have := nxtR_lt _ _ h; omega
  | m + 1, q, h => by
    unfold rwd at h
    split at h
    · cases h
    · have := nxtR_lt _ _ h; rename_i r hr; have := rwd_lt m hr; omega
theorem rwd_none {t : TS} {k m : Nat} (h : rwd t k m = none) : ∀ n, m ≤ n → rwd t k n = none := by
  intro n hn
  induction n with
  | zero => rw [show m = 0 by omega] at h; exact h
  | succ n ih =>
    rcases Nat.lt_or_ge m (n + 1) with z | z
    · unfold rwd; rw [ih (by omega)]
    · rw [show n + 1 = m by omega]; exact h
section RW53
variable {G : GP} {F : FX} {Q : State → Prop}
theorem rewind_l2 (C : CX G F mX1_rewind (Rm 3 0 0)) {h0 : AH} {a b k M : Nat} {t : TS} (L : X1L a h0) (K : X1K a t h0) (hb : tN t 0 3 ≤ 200) (hkb : ∀ i, tN t 2 i ≤ 15) (hk : k < 16) (hM : M ≤ 200)
    (kk : ∀ h x4, Fq (fun z => z = a + 3) h0 h → hI h (a + 3) k = oI (rwd t k M) → (∀ j, j ≠ k → hI h (a + 3) j = hI h0 (a + 3) j) → WA G F mX1_rewind h 0 0 Q 71 [some (.ref a), some (.ref b), some (.int (nI k)), some (.int (nI M)), some (.int x4)] []) :
    ∀ (n m : Nat) (h : AH), m + n = M → Fq (fun z => z = a + 3) h0 h → hI h (a + 3) k = oI (rwd t k m) → (∀ j, j ≠ k → hI h (a + 3) j = hI h0 (a + 3) j) → WA G F mX1_rewind h 0 0 Q 30 [some (.ref a), some (.ref b), some (.int (nI k)), some (.int (nI M)), some (.int (nI m))] [] := by
  intro n
  induction n with
  | zero =>
    intro m h hm f e1 e2
    obtain rfl : m = M := by omega
    refine r_iload (pc := 30) C dX1_rewind_30 rfl ?_
    refine r_iload_n (pc := 32) C dX1_rewind_32 rfl rfl ?_
    refine n_icmp_ge (pc := 33) (tgt := 71) C (by omega) (by omega) dX1_rewind_33 (by decide) (fun c33 => ?_) (fun c33 => absurd c33 (by omega))
    exact kk h _ f e1 e2
  | succ n ih =>
    intro m h hm f e1 e2
    obtain ⟨o1, r10, s10, r11, s11, r12, s12⟩ := L.fq f
    have K' := K.fq f (by omega) (by omega) (by omega)
    cases hr : rwd t k m with
    | none =>
      rw [hr] at e1
      have e1' : hI h (a + 3) k = -1 := e1
      refine r_iload (pc := 30) C dX1_rewind_30 rfl ?_
      refine r_iload_n (pc := 32) C dX1_rewind_32 rfl rfl ?_
      refine n_icmp_ge (pc := 33) (tgt := 71) C (by omega) (by omega) dX1_rewind_33 (by decide) (fun c33 => absurd c33 (by omega)) (fun c33 => ?_)
      refine r_aload_n (pc := 36) C dX1_rewind_36 rfl rfl ?_
      refine r_getR (pc := 37) C fl_X1_19 o1 rfl r12 dX1_rewind_37 ?_
      refine r_iload_n (pc := 40) C dX1_rewind_40 rfl rfl ?_
      refine n_iald (pc := 41) C s12 (by omega) e1' dX1_rewind_41 ?_
      refine r_iconst (pc := 42) (v := (-1)) C dX1_rewind_42 (by decide) ?_
      refine r_icmp_eq (pc := 43) (tgt := 71) C dX1_rewind_43 (by decide) (fun c43 => ?_) (fun c43 => absurd c43 (fun z => z rfl))
      exact kk h _ f (by rw [rwd_none hr M (by omega)]; exact e1) e2
    | some r =>
      rw [hr] at e1
      have e1' : hI h (a + 3) k = nI r := e1
      have hrl := rwd_lt m hr
      have e3 : rwd t k (m + 1) = nxtR t k (tN t 0 3 - (r + 1)) (r + 1) := by
        show (match rwd t k m with | none => none | some r => nxtR t k (tN t 0 3 - (r + 1)) (r + 1)) = _
        rw [hr]
      refine r_iload (pc := 30) C dX1_rewind_30 rfl ?_
      refine r_iload_n (pc := 32) C dX1_rewind_32 rfl rfl ?_
      refine n_icmp_ge (pc := 33) (tgt := 71) C (by omega) (by omega) dX1_rewind_33 (by decide) (fun c33 => absurd c33 (by omega)) (fun c33 => ?_)
      refine r_aload_n (pc := 36) C dX1_rewind_36 rfl rfl ?_
      refine r_getR (pc := 37) C fl_X1_19 o1 rfl r12 dX1_rewind_37 ?_
      refine r_iload_n (pc := 40) C dX1_rewind_40 rfl rfl ?_
      refine n_iald (pc := 41) C s12 (by omega) e1' dX1_rewind_41 ?_
      refine r_iconst (pc := 42) (v := (-1)) C dX1_rewind_42 (by decide) ?_
      refine r_icmp_eq (pc := 43) (tgt := 71) C dX1_rewind_43 (by decide) (fun c43 => absurd c43 (fun z => nI_m1 (by omega) z)) (fun c43 => ?_)
      refine r_aload_n (pc := 46) C dX1_rewind_46 rfl rfl ?_
      refine r_getR (pc := 47) C fl_X1_19 o1 rfl r12 dX1_rewind_47 ?_
      refine r_iload_n (pc := 50) C dX1_rewind_50 rfl rfl ?_
      refine r_aload_n (pc := 51) C dX1_rewind_51 rfl rfl ?_
      refine r_iload_n (pc := 52) C dX1_rewind_52 rfl rfl ?_
      refine r_aload_n (pc := 53) C dX1_rewind_53 rfl rfl ?_
      refine r_getR (pc := 54) C fl_X1_19 o1 rfl r12 dX1_rewind_54 ?_
      refine r_iload_n (pc := 57) C dX1_rewind_57 rfl rfl ?_
      refine n_iald (pc := 58) C s12 (by omega) e1' dX1_rewind_58 ?_
      refine r_iconst (pc := 59) (v := (nI 1)) C dX1_rewind_59 (by decide) ?_
      refine n_iadd (pc := 60) C dX1_rewind_60 ?_
      refine r_calli (cr_V (pc := 61) C (c_X1_nextOf (L.fq f) K' hb hk hkb (r := r + 1) (by omega)) dX1_rewind_61 cm_X1_nextOf ml_X1_47 im_X1_nextOf se_X1_nextOf o1 rfl ⟨⟨Nat.le_of_ble_eq_true rfl, Nat.le_of_ble_eq_true rfl⟩, Nat.le_of_ble_eq_true rfl, Nat.le_of_ble_eq_true rfl⟩ rfl rfl (Nat.le_of_ble_eq_true rfl)) (fun v61 h61 hq61 => ?_)
      obtain ⟨rfl, rfl⟩ := hq61
      refine n_iast (pc := 64) C s12 (by omega) dX1_rewind_64 ?_
      refine n_iinc (pc := 65) (lv' := [_, _, _, _, _]) C dX1_rewind_65 rfl (by decide) rfl rfl ?_
      refine r_goto (pc := 68) (tgt := 30) C dX1_rewind_68 (by decide) ?_
      refine ih (m + 1) _ (by omega) (f.pI rfl) ?_ (fun j hj => ?_)
      · rw [hI_eq, up_s, e3]
      · rw [hI_eq, up_ne hj]; exact e2 j hj
theorem rewind_l1 (C : CX G F mX1_rewind (Rm 3 0 0)) {h0 : AH} {a b : Nat} {t : TS} {M : Nat → Nat} (L : X1L a h0) (K : X1K a t h0) (hb : tN t 0 3 ≤ 200) (hkb : ∀ i, tN t 2 i ≤ 15) (T : T3 b h0) (hab : b + 2 < a ∨ a + 3 < b) (hM : ∀ k, k < 16 → hI h0 (b + 1) k = nI (M k) ∧ M k ≤ 200)
    (kk : ∀ h x2 x3 x4, Fq (fun z => z = a + 3) h0 h → (∀ k, k < 16 → hI h (a + 3) k = oI (rwd t k (M k))) → WA G F mX1_rewind h 0 0 Q 77 [some (.ref a), some (.ref b), some (.int x2), x3, x4] []) :
    ∀ (n k : Nat) (h : AH) (x3 x4 : Option Value), k + n = 16 → Fq (fun z => z = a + 3) h0 h → (∀ j, j < k → hI h (a + 3) j = oI (rwd t j (M j))) → WA G F mX1_rewind h 0 0 Q 2 [some (.ref a), some (.ref b), some (.int (nI k)), x3, x4] [] := by
  intro n
  induction n with
  | zero =>
    intro k h x3 x4 hk f e
    refine r_iload_n (pc := 2) C dX1_rewind_2 rfl rfl ?_
    refine r_bipush (pc := 3) (v := (nI 16)) C dX1_rewind_3 (by decide) ?_
    refine n_icmp_ge (pc := 5) (tgt := 77) C (by omega) (by omega) dX1_rewind_5 (by decide) (fun c5 => ?_) (fun c5 => absurd c5 (by omega))
    exact kk h _ _ _ f (fun j hj => e j (by omega))
  | succ n ih =>
    intro k h x3 x4 hk f e
    obtain ⟨o1, r10, s10, r11, s11, r12, s12⟩ := L.fq f
    have K' := K.fq f (by omega) (by omega) (by omega)
    have T' := T.fq f
    obtain ⟨m1, m2⟩ := hM k (by omega)
    have m1' : hI h (b + 1) k = nI (M k) := by rw [(f.2.2.2 (b + 1) (by omega)).1]; exact m1
    have f' : Fq (fun z => z = a + 3) h0 (pI h (a + 3) k (oI (nxtR t k (tN t 0 3 - 0) 0))) := f.pI rfl
    have m1'' : hI (pI h (a + 3) k (oI (nxtR t k (tN t 0 3 - 0) 0))) (b + 1) (16 * 0 + k) = nI (M k) := by rw [hI_ne (by omega), Nat.mul_zero, Nat.zero_add]; exact m1'
    refine r_iload_n (pc := 2) C dX1_rewind_2 rfl rfl ?_
    refine r_bipush (pc := 3) (v := (nI 16)) C dX1_rewind_3 (by decide) ?_
    refine n_icmp_ge (pc := 5) (tgt := 77) C (by omega) (by omega) dX1_rewind_5 (by decide) (fun c5 => absurd c5 (by omega)) (fun c5 => ?_)
    refine r_aload_n (pc := 8) C dX1_rewind_8 rfl rfl ?_
    refine r_getR (pc := 9) C fl_X1_19 o1 rfl r12 dX1_rewind_9 ?_
    refine r_iload_n (pc := 12) C dX1_rewind_12 rfl rfl ?_
    refine r_aload_n (pc := 13) C dX1_rewind_13 rfl rfl ?_
    refine r_iload_n (pc := 14) C dX1_rewind_14 rfl rfl ?_
    refine r_iconst (pc := 15) (v := (nI 0)) C dX1_rewind_15 (by decide) ?_
    refine r_calli (cr_V (pc := 16) C (c_X1_nextOf (L.fq f) K' hb (by omega) hkb (Nat.zero_le _)) dX1_rewind_16 cm_X1_nextOf ml_X1_47 im_X1_nextOf se_X1_nextOf o1 rfl ⟨⟨Nat.le_of_ble_eq_true rfl, Nat.le_of_ble_eq_true rfl⟩, Nat.le_of_ble_eq_true rfl, Nat.le_of_ble_eq_true rfl⟩ rfl rfl (Nat.le_of_ble_eq_true rfl)) (fun v16 h16 hq16 => ?_)
    obtain ⟨rfl, rfl⟩ := hq16
    refine n_iast (pc := 19) C s12 (by omega) dX1_rewind_19 ?_
    refine r_aload_n (pc := 20) C dX1_rewind_20 rfl rfl ?_
    refine r_iconst (pc := 21) (v := (nI 0)) C dX1_rewind_21 (by decide) ?_
    refine r_iload_n (pc := 22) C dX1_rewind_22 rfl rfl ?_
    refine r_calli (cr_V (pc := 23) C (c_X3_rowsOf (T.fq f') (by decide) (by omega) m1'') dX1_rewind_23 cm_X3_rowsOf ml_X1_50 im_X3_rowsOf se_X3_rowsOf T'.1 rfl ⟨⟨Nat.le_of_ble_eq_true rfl, Nat.le_of_ble_eq_true rfl⟩, Nat.le_of_ble_eq_true rfl, Nat.le_of_ble_eq_true rfl⟩ rfl rfl (Nat.le_of_ble_eq_true rfl)) (fun v23 h23 hq23 => ?_)
    obtain ⟨rfl, rfl⟩ := hq23
    refine r_istore_n (pc := 26) (lv' := [_, _, _, _, _]) C dX1_rewind_26 rfl (by decide) rfl rfl ?_
    refine r_iconst (pc := 27) (v := (nI 0)) C dX1_rewind_27 (by decide) ?_
    refine r_istore (pc := 28) (lv' := [_, _, _, _, _]) C dX1_rewind_28 (by decide) rfl rfl ?_
    refine rewind_l2 C (L.fq f') (K.fq f' (by omega) (by omega) (by omega)) hb hkb (by omega) m2 (fun h1 x4 g1 g2 g3 => ?_) (M k) 0 _ (Nat.zero_add _) Fq.rf (by rw [hI_eq, up_s]; rfl) (fun j hj => rfl)
    refine n_iinc (pc := 71) (lv' := [_, _, _, _, _]) C dX1_rewind_71 rfl (by decide) rfl rfl ?_
    refine r_goto (pc := 74) (tgt := 2) C dX1_rewind_74 (by decide) ?_
    refine ih (k + 1) h1 _ _ (by omega) (f'.tr g1) (fun j hj => ?_)
    by_cases hjk : j = k
    · subst hjk; exact g2
    · rw [g3 j hjk, hI_eq, up_ne hjk]; exact e j (by omega)
end RW53
theorem c_X1_rewind {G : GP} {h : AH} {a b : Nat} {t : TS} {M : Nat → Nat} (L : X1L a h) (K : X1K a t h) (hb : tN t 0 3 ≤ 200) (hkb : ∀ i, tN t 2 i ≤ 15) (T : T3 b h) (hab : b + 2 < a ∨ a + 3 < b) (hM : ∀ k, k < 16 → hI h (b + 1) k = nI (M k) ∧ M k ≤ 200) : MA G mX1_rewind 3 0 0 [.ref a, .ref b] h (Ov (fun h' => Fq (fun z => z = a + 3) h h' ∧ ∀ k, k < 16 → hI h' (a + 3) k = oI (rwd t k (M k)))) := by
  refine MA.intro (lv := [some (.ref a), some (.ref b), none, none, none]) (by decide) (Nat.le_of_ble_eq_true rfl) rfl (fun F C => ?_)
  refine r_iconst (pc := 0) (v := (nI 0)) C dX1_rewind_0 (by decide) ?_
  refine r_istore_n (pc := 1) (lv' := [_, _, _, _, _]) C dX1_rewind_1 rfl (by decide) rfl rfl ?_
  refine rewind_l1 C L K hb hkb T hab hM (fun h1 x2 x3 x4 g1 g2 => ?_) 16 0 h _ _ rfl Fq.rf (fun j hj => absurd hj (Nat.not_lt_zero j))
  exact r_vret (pc := 77) C rfl (Nat.le_refl _) (Nat.le_refl _) ⟨rfl, g1, g2⟩ dX1_rewind_77
theorem i64_sub {a b c : Int64} : a - (b + c) = a - b - c := by
  rw [Int64.sub_eq_add_neg, Int64.sub_eq_add_neg, Int64.sub_eq_add_neg, Int64.neg_add, Int64.add_assoc]
  try rw [Int64.sub_eq_add_neg]
theorem inpN_le {t : TS} {k M : Nat} : ∀ n, inpN t k M n ≤ M ∧ inpN t k M n ≤ n
  | 0 => ⟨Nat.zero_le _, Nat.le_refl _⟩
  | n + 1 => by
    have := inpN_le (t := t) (k := k) (M := M) n
    unfold inpN
    split <;> omega
theorem inp_full {t : TS} {k M n : Nat} (h : inpN t k M n = M) : ∀ m, inpS t k M (n + m) = inpS t k M n ∧ inpN t k M (n + m) = M
  | 0 => ⟨rfl, h⟩
  | m + 1 => by
    obtain ⟨h1, h2⟩ := inp_full h m
    refine ⟨?_, ?_⟩
    · show inpS t k M (n + m) + (if tN t 2 (n + m) = k ∧ inpN t k M (n + m) < M then tL t 0 (n + m) else 0) = _
      rw [h1, h2, if_neg (fun z => Nat.lt_irrefl M z.2), Int64.add_zero]
    · show inpN t k M (n + m) + (if tN t 2 (n + m) = k ∧ inpN t k M (n + m) < M then 1 else 0) = _
      rw [h2, if_neg (fun z => Nat.lt_irrefl M z.2), Nat.add_zero]
theorem starts_l {G : GP} {F : FX} {Q : State → Prop} (C : CX G F mX1_startsWith (Rm 2 0 0)) {h : AH} {a k M : Nat} {t : TS} {tot : Int64} (L : X1L a h) (K : X1K a t h) (hb : tN t 0 3 ≤ 200) (hkb : ∀ i, tN t 2 i ≤ 15) (hk : k < 16) (hM : M ≤ 200) (a1 : inpN t k M (tN t 0 3) = M) (a2 : inpS t k M (tN t 0 3) = tot) {x2 : Int32} {x3 : Int64}
    (kk : ∀ x8, WA G F mX1_startsWith h 0 0 Q 53 [some (.ref a), some (.int (nI k)), some (.int x2), some (.long x3), none, some (.int (nI 0)), some (.long 0), none, some (.int x8)] []) :
    ∀ (n i : Nat), i + n = tN t 0 3 → WA G F mX1_startsWith h 0 0 Q 9 [some (.ref a), some (.int (nI k)), some (.int x2), some (.long x3), none, some (.int (nI (M - inpN t k M i))), some (.long (tot - inpS t k M i)), none, some (.int (nI i))] [] := by
  obtain ⟨o1, r10, s10, r11, s11, r12, s12⟩ := id L
  obtain ⟨f13, k10, k11⟩ := id K
  intro n
  induction n with
  | zero =>
    intro i hi
    obtain rfl : i = tN t 0 3 := by omega
    rw [a1, a2, Nat.sub_self, Int64.sub_self]
    refine r_iload (pc := 9) C dX1_startsWith_9 rfl ?_
    refine r_aload_n (pc := 11) C dX1_startsWith_11 rfl rfl ?_
    refine r_getIe (pc := 12) C fl_X1_22 o1 rfl f13 dX1_startsWith_12 ?_
    refine n_icmp_ge (pc := 15) (tgt := 53) C (by omega) (by omega) dX1_startsWith_15 (by decide) (fun c15 => ?_) (fun c15 => absurd c15 (by omega))
    exact kk _
  | succ n ih =>
    intro i hi
    have hkr := hkb i
    have hle := (inpN_le (t := t) (k := k) (M := M) i).1
    have e1 : inpN t k M (i + 1) = inpN t k M i + (if tN t 2 i = k ∧ inpN t k M i < M then 1 else 0) := rfl
    have e2 : inpS t k M (i + 1) = inpS t k M i + (if tN t 2 i = k ∧ inpN t k M i < M then tL t 0 i else 0) := rfl
    have kx : M - inpN t k M i = 0 → M - inpN t k M i = 0 ∧ tot - inpS t k M i = 0 := by
      intro z
      obtain ⟨g1, g2⟩ := inp_full (t := t) (k := k) (M := M) (n := i) (by omega) (n + 1)
      rw [hi, a2] at g1
      exact ⟨z, by rw [g1, Int64.sub_self]⟩
    refine r_iload (pc := 9) C dX1_startsWith_9 rfl ?_
    refine r_aload_n (pc := 11) C dX1_startsWith_11 rfl rfl ?_
    refine r_getIe (pc := 12) C fl_X1_22 o1 rfl f13 dX1_startsWith_12 ?_
    refine n_icmp_ge (pc := 15) (tgt := 53) C (by omega) (by omega) dX1_startsWith_15 (by decide) (fun c15 => absurd c15 (by omega)) (fun c15 => ?_)
    refine r_iload (pc := 18) C dX1_startsWith_18 rfl ?_
    refine n_if_le (pc := 20) (tgt := 53) C (by omega) dX1_startsWith_20 (by decide) (fun c20 => ?_) (fun c20 => ?_)
    · obtain ⟨z1, z2⟩ := kx (by omega)
      rw [z1, z2]
      exact kk _
    · refine r_aload_n (pc := 23) C dX1_startsWith_23 rfl rfl ?_
      refine r_iload (pc := 24) C dX1_startsWith_24 rfl ?_
      refine r_calli (cr_V (pc := 26) C (c_X1_keyOf L K hb _) dX1_startsWith_26 cm_X1_keyOf ml_X1_43 im_X1_keyOf se_X1_keyOf o1 rfl ⟨⟨Nat.le_of_ble_eq_true rfl, Nat.le_of_ble_eq_true rfl⟩, Nat.le_of_ble_eq_true rfl, Nat.le_of_ble_eq_true rfl⟩ rfl rfl (Nat.le_of_ble_eq_true rfl)) (fun v26 h26 hq26 => ?_)
      obtain ⟨rfl, rfl⟩ := hq26
      rw [keyI_n (by omega) hb]
      refine r_iload_n (pc := 29) C dX1_startsWith_29 rfl rfl ?_
      refine n_icmp_ne (pc := 30) (tgt := 47) C (by omega) (by omega) dX1_startsWith_30 (by decide) (fun c30 => ?_) (fun c30 => ?_)
      · rw [if_neg (fun z => c30 z.1)] at e1 e2
        refine n_iinc (pc := 47) (lv' := [_, _, _, _, _, _, _, _, _]) C dX1_startsWith_47 rfl (by decide) rfl rfl ?_
        refine r_goto (pc := 50) (tgt := 9) C dX1_startsWith_50 (by decide) ?_
        have w := ih (i + 1) (by omega)
        rw [e1, e2, Int64.add_zero, Nat.add_zero] at w
        exact w
      · rw [if_pos ⟨c30, by omega⟩] at e1 e2
        refine r_iinc (pc := 33) (v := nI (M - inpN t k M i - 1)) (lv' := [_, _, _, _, _, _, _, _, _]) C dX1_startsWith_33 rfl (dec_nI (by omega)) (by decide) rfl rfl ?_
        refine r_lload (pc := 36) C dX1_startsWith_36 rfl ?_
        refine r_aload_n (pc := 38) C dX1_startsWith_38 rfl rfl ?_
        refine r_iload (pc := 39) C dX1_startsWith_39 rfl ?_
        refine r_calll (cr_V (pc := 41) C (c_X1_valueOf L K hb _) dX1_startsWith_41 cm_X1_valueOf ml_X1_55 im_X1_valueOf se_X1_valueOf o1 rfl ⟨⟨Nat.le_of_ble_eq_true rfl, Nat.le_of_ble_eq_true rfl⟩, Nat.le_of_ble_eq_true rfl, Nat.le_of_ble_eq_true rfl⟩ rfl rfl (Nat.le_of_ble_eq_true rfl)) (fun v41 h41 hq41 => ?_)
        obtain ⟨rfl, rfl⟩ := hq41
        rw [valI_n (by omega) hb]
        refine r_lsub (pc := 44) C dX1_startsWith_44 ?_
        refine r_lstore (pc := 45) (lv' := [_, _, _, _, _, _, _, _, _]) C dX1_startsWith_45 (by decide) rfl rfl ?_
        refine n_iinc (pc := 47) (lv' := [_, _, _, _, _, _, _, _, _]) C dX1_startsWith_47 rfl (by decide) rfl rfl ?_
        refine r_goto (pc := 50) (tgt := 9) C dX1_startsWith_50 (by decide) ?_
        have w := ih (i + 1) (by omega)
        rw [e1, e2, i64_sub, Nat.sub_add_eq] at w
        exact w
theorem c_X1_startsWith {G : GP} {h : AH} {a k M : Nat} {t : TS} {tot : Int64} (L : X1L a h) (K : X1K a t h) (hb : tN t 0 3 ≤ 200) (hkb : ∀ i, tN t 2 i ≤ 15) (hk : k < 16) (hM : M ≤ 200) (a1 : inpN t k M (tN t 0 3) = M) (a2 : inpS t k M (tN t 0 3) = tot) : MA G mX1_startsWith 2 0 0 [.ref a, .int (nI k), .int (nI M), .long tot] h (Oi (fun v h' => v = nI 1 ∧ h' = h)) := by
  refine MA.intro (lv := [some (.ref a), some (.int (nI k)), some (.int (nI M)), some (.long tot), none, none, none, none, none]) (by decide) (Nat.le_of_ble_eq_true rfl) rfl (fun F C => ?_)
  refine r_iload_n (pc := 0) C dX1_startsWith_0 rfl rfl ?_
  refine r_istore (pc := 1) (lv' := [_, _, _, _, _, _, _, _, _]) C dX1_startsWith_1 (by decide) rfl rfl ?_
  refine r_lload_n (pc := 3) C dX1_startsWith_3 rfl rfl ?_
  refine r_lstore (pc := 4) (lv' := [_, _, _, _, _, _, _, _, _]) C dX1_startsWith_4 (by decide) rfl rfl ?_
  refine r_iconst (pc := 6) (v := (nI 0)) C dX1_startsWith_6 (by decide) ?_
  refine r_istore (pc := 7) (lv' := [_, _, _, _, _, _, _, _, _]) C dX1_startsWith_7 (by decide) rfl rfl ?_
  have w := starts_l (Q := MQA G F 0 0 (Oi (fun v h' => v = nI 1 ∧ h' = h))) C L K hb hkb hk hM a1 a2 (x2 := nI M) (x3 := tot) (fun x8 => ?_) (tN t 0 3) 0 (Nat.zero_add _)
  rw [show inpN t k M 0 = 0 from rfl, show inpS t k M 0 = 0 from rfl, Nat.sub_zero, Int64.sub_zero] at w
  exact w
  refine r_iload (pc := 53) C dX1_startsWith_53 rfl ?_
  refine n_if_ne (pc := 55) (tgt := 69) C (by omega) dX1_startsWith_55 (by decide) (fun c55 => absurd c55 (fun z => z rfl)) (fun c55 => ?_)
  refine r_lload (pc := 58) C dX1_startsWith_58 rfl ?_
  refine r_lconst (pc := 60) (v := 0) C dX1_startsWith_60 (by decide) ?_
  refine r_lcmp (pc := 61) C dX1_startsWith_61 ?_
  refine r_if_ne (pc := 62) (tgt := 69) C dX1_startsWith_62 (by decide) (fun c62 => absurd c62 (fun z => z (lg_cmp0 rfl))) (fun c62 => ?_)
  refine r_iconst (pc := 65) (v := (nI 1)) C dX1_startsWith_65 (by decide) ?_
  refine r_goto (pc := 66) (tgt := 70) C dX1_startsWith_66 (by decide) ?_
  exact r_zret (pc := 70) C rfl (by first | exact bI_01 | exact Or.inl rfl | exact Or.inr rfl) (Nat.le_of_ble_eq_true rfl) (Nat.le_of_ble_eq_true rfl) ⟨_, rfl, ⟨rfl, rfl⟩⟩ dX1_startsWith_70
theorem c_X1_append {G : GP} {h : AH} {a k u : Nat} {t : TS} {v : Int64} (L : X1L a h) (f13 : hI h a 3 = nI (tN t 0 3)) (hb : tN t 0 3 < 200) (hk : k < 16) (hu : hI h (a + 3) k = nI u - 1) (hub : u ≤ 200) : MA G mX1_append 1 0 0 [.ref a, .int (nI k), .long v] h (Oi (fun w h' => w = nI (tN t 0 3) ∧ h' = (if u = 0 then pI (pI (pL (pI h (a + 1) (tN t 0 3) (nI k)) (a + 2) (tN t 0 3) v) a 3 (nI (tN t 0 3 + 1))) (a + 3) k (nI (tN t 0 3)) else pI (pL (pI h (a + 1) (tN t 0 3) (nI k)) (a + 2) (tN t 0 3) v) a 3 (nI (tN t 0 3 + 1))))) := by
  obtain ⟨o1, r10, s10, r11, s11, r12, s12⟩ := id L
  refine MA.intro (lv := [some (.ref a), some (.int (nI k)), some (.long v), none, none]) (by decide) (Nat.le_of_ble_eq_true rfl) rfl (fun F C => ?_)
  refine r_aload_n (pc := 0) C dX1_append_0 rfl rfl ?_
  refine r_getIe (pc := 1) C fl_X1_22 o1 rfl f13 dX1_append_1 ?_
  refine r_sipush (pc := 4) (v := (nI 200)) C dX1_append_4 (by decide) ?_
  refine n_icmp_lt (pc := 7) (tgt := 13) C (by omega) (by omega) dX1_append_7 (by decide) (fun c7 => ?_) (fun c7 => absurd c7 (by omega))
  refine r_iload_n (pc := 13) C dX1_append_13 rfl rfl ?_
  refine r_calli (cr_SN (pc := 14) C (c_X5_isKey _ _) dX1_append_14 cm_X5_isKey ml_X1_32 st_X5_isKey ⟨⟨Nat.le_of_ble_eq_true rfl, Nat.le_of_ble_eq_true rfl⟩, Nat.le_of_ble_eq_true rfl, Nat.le_of_ble_eq_true rfl⟩ rfl rfl (Nat.le_of_ble_eq_true rfl)) (fun v14 h14 hq14 => ?_)
  obtain ⟨rfl, rfl⟩ := hq14
  refine b_if_ne (pc := 17) (tgt := 23) C dX1_append_17 (by decide) (fun c17 => ?_) (fun c17 => absurd c17 (fun z => z (inN_ok hk)))
  refine r_aload_n (pc := 23) C dX1_append_23 rfl rfl ?_
  refine r_getIe (pc := 24) C fl_X1_22 o1 rfl f13 dX1_append_24 ?_
  refine r_istore (pc := 27) (lv' := [_, _, _, _, _]) C dX1_append_27 (by decide) rfl rfl ?_
  refine r_aload_n (pc := 29) C dX1_append_29 rfl rfl ?_
  refine r_getR (pc := 30) C fl_X1_9 o1 rfl r10 dX1_append_30 ?_
  refine r_iload (pc := 33) C dX1_append_33 rfl ?_
  refine r_iload_n (pc := 35) C dX1_append_35 rfl rfl ?_
  refine n_iast (pc := 36) C s10 (by omega) dX1_append_36 ?_
  refine r_aload_n (pc := 37) C dX1_append_37 rfl rfl ?_
  refine r_getR (pc := 38) C fl_X1_15 o1 rfl r11 dX1_append_38 ?_
  refine r_iload (pc := 41) C dX1_append_41 rfl ?_
  refine r_lload_n (pc := 43) C dX1_append_43 rfl rfl ?_
  refine n_last (pc := 44) C s11 (by omega) dX1_append_44 ?_
  refine r_aload_n (pc := 45) C dX1_append_45 rfl rfl ?_
  refine r_dup (pc := 46) C dX1_append_46 rfl ?_
  refine r_getIe (pc := 47) C fl_X1_22 o1 rfl (show _ = nI (tN t 0 3) from (by rw [hI_pL, hI_ne (by omega)]; exact f13)) dX1_append_47 ?_
  refine r_iconst (pc := 50) (v := (nI 1)) C dX1_append_50 (by decide) ?_
  refine n_iadd (pc := 51) C dX1_append_51 ?_
  refine r_putI (pc := 52) C fl_X1_22 o1 rfl rfl rfl rfl dX1_append_52 ?_
  refine r_aload_n (pc := 55) C dX1_append_55 rfl rfl ?_
  refine r_getR (pc := 56) C fl_X1_19 o1 rfl r12 dX1_append_56 ?_
  refine r_iload_n (pc := 59) C dX1_append_59 rfl rfl ?_
  refine n_iald (pc := 60) C s12 (by omega) (show _ = nI u - 1 from (by rw [hI_ne (by omega), hI_pL, hI_ne (by omega)]; exact hu)) dX1_append_60 ?_
  refine r_iconst (pc := 61) (v := (-1)) C dX1_append_61 (by decide) ?_
  refine r_icmp_ne (pc := 62) (tgt := 73) C dX1_append_62 (by decide) (fun c62 => ?_) (fun c62 => ?_)
  · refine r_iload (pc := 73) C dX1_append_73 rfl ?_
    exact r_iret (pc := 75) C rfl (Nat.le_of_ble_eq_true rfl) (Nat.le_of_ble_eq_true rfl) ⟨_, rfl, ⟨rfl, by first | rw [if_pos ((uwm1 (by omega)).mp c62)] | rw [if_neg (fun z => c62 ((uwm1 (by omega)).mpr z))]⟩⟩ dX1_append_75
  · refine r_aload_n (pc := 65) C dX1_append_65 rfl rfl ?_
    refine r_getR (pc := 66) C fl_X1_19 o1 rfl r12 dX1_append_66 ?_
    refine r_iload_n (pc := 69) C dX1_append_69 rfl rfl ?_
    refine r_iload (pc := 70) C dX1_append_70 rfl ?_
    refine n_iast (pc := 72) C s12 (by omega) dX1_append_72 ?_
    refine r_iload (pc := 73) C dX1_append_73 rfl ?_
    exact r_iret (pc := 75) C rfl (Nat.le_of_ble_eq_true rfl) (Nat.le_of_ble_eq_true rfl) ⟨_, rfl, ⟨rfl, by first | rw [if_pos ((uwm1 (by omega)).mp c62)] | rw [if_neg (fun z => c62 ((uwm1 (by omega)).mpr z))]⟩⟩ dX1_append_75
theorem c_X1_appendF {G : GP} {h : AH} {a : Nat} {t : TS} {v : Int64} {x : Int32} (L : X1L a h) (f13 : hI h a 3 = nI (tN t 0 3)) (hb : tN t 0 3 = 200) : MA G mX1_append 1 0 0 [.ref a, .int x, .long v] h (Oi (fun w h' => w = -104 ∧ h' = h)) := by
  obtain ⟨o1, r10, s10, r11, s11, r12, s12⟩ := id L
  refine MA.intro (lv := [some (.ref a), some (.int x), some (.long v), none, none]) (by decide) (Nat.le_of_ble_eq_true rfl) rfl (fun F C => ?_)
  refine r_aload_n (pc := 0) C dX1_append_0 rfl rfl ?_
  refine r_getIe (pc := 1) C fl_X1_22 o1 rfl f13 dX1_append_1 ?_
  refine r_sipush (pc := 4) (v := (nI 200)) C dX1_append_4 (by decide) ?_
  refine n_icmp_lt (pc := 7) (tgt := 13) C (by omega) (by omega) dX1_append_7 (by decide) (fun c7 => absurd c7 (by omega)) (fun c7 => ?_)
  refine r_bipush (pc := 10) (v := (-104)) C dX1_append_10 (by decide) ?_
  exact r_iret (pc := 12) C rfl (Nat.le_of_ble_eq_true rfl) (Nat.le_of_ble_eq_true rfl) ⟨_, rfl, ⟨rfl, rfl⟩⟩ dX1_append_12
