/-! ===== the class: a mark by itself ===== -/
def X2L (a : Nat) (h : AH) : Prop := hS h a = (0, 2) ∧ hR h a 0 = some (a + 6) ∧ hS h (a + 6) = (1, 4) ∧ hR h a 2 = some (a + 1) ∧ T3 (a + 1) h ∧ hR h a 3 = some (a + 4) ∧ hS h (a + 4) = (1, 200) ∧ hR h a 4 = some (a + 5) ∧ hS h (a + 5) = (1, 200)
theorem X2L.fq {P : Nat → Prop} {a : Nat} {h h' : AH} (T : X2L a h) (f : Fq P h h') : X2L a h' := by
  unfold X2L T3; rw [f.2.1, f.2.2.1]; exact T
theorem c_X2_widthOf {G : GP} {h : AH} {a s : Nat} {v : Int32} (L : X2L a h) (hs : s < 4) (hv : hI h (a + 6) s = v) : MA G mX2_widthOf 0 0 0 [.ref a, .int (nI s)] h (Oi (fun v' h' => v' = v ∧ h' = h)) := by
  obtain ⟨o2, r20, s20, r22, T, r23, s23, r24, s24⟩ := L
  refine MA.intro (lv := [some (.ref a), some (.int (nI s))]) (by decide) (Nat.le_of_ble_eq_true rfl) rfl (fun F C => ?_)
  refine r_iload_n (pc := 0) C dX2_widthOf_0 rfl rfl ?_
  refine n_if_lt (pc := 1) (tgt := 22) C (by omega) dX2_widthOf_1 (by decide) ?_
  refine r_iload_n (pc := 4) C dX2_widthOf_4 rfl rfl ?_
  refine r_aload_n (pc := 5) C dX2_widthOf_5 rfl rfl ?_
  refine r_getR (pc := 6) C fl_X2_44 o2 rfl r20 dX2_widthOf_6 ?_
  refine r_alen (pc := 9) C s20 (by decide) (by decide) dX2_widthOf_9 ?_
  refine n_icmp_ge (pc := 10) (tgt := 22) C (by omega) (by omega) dX2_widthOf_10 (by decide) (fun c10 => absurd c10 (by omega)) (fun c10 => ?_)
  refine r_aload_n (pc := 13) C dX2_widthOf_13 rfl rfl ?_
  refine r_getR (pc := 14) C fl_X2_44 o2 rfl r20 dX2_widthOf_14 ?_
  refine r_iload_n (pc := 17) C dX2_widthOf_17 rfl rfl ?_
  refine n_iald (pc := 18) C s20 (by omega) hv dX2_widthOf_18 ?_
  refine r_goto (pc := 19) (tgt := 23) C dX2_widthOf_19 (by decide) ?_
  exact r_iret (pc := 23) C rfl (Nat.le_of_ble_eq_true rfl) (Nat.le_of_ble_eq_true rfl) ⟨_, rfl, ⟨rfl, rfl⟩⟩ dX2_widthOf_23
theorem c_X2_loosen {G : GP} {h : AH} {a b n p : Nat} (o2 : hS h a = (0, 2)) (o0 : hS h b = (0, 0)) (hab : a ≠ b) (f07 : hI h b 7 = nI p) (hp : p ≤ 1) (f26 : hI h a 6 = nI n) : MA G mX2_loosen 0 0 0 [.ref a, .ref b] h (Ov (fun h' => h' = if p = 0 then pI (pI h b 7 (nI 1)) a 6 (nI (n + 1)) else h)) := by
  refine MA.intro (lv := [some (.ref a), some (.ref b)]) (by decide) (Nat.le_of_ble_eq_true rfl) rfl (fun F C => ?_)
  refine r_aload_n (pc := 0) C dX2_loosen_0 rfl rfl ?_
  refine r_getIe (pc := 1) C fl_X2_50 o0 rfl f07 dX2_loosen_1 ?_
  refine n_if_ne (pc := 4) (tgt := 22) C (by omega) dX2_loosen_4 (by decide) (fun c4 => ?_) (fun c4 => ?_)
  · exact r_vret (pc := 22) C rfl (Nat.le_of_ble_eq_true rfl) (Nat.le_of_ble_eq_true rfl) ⟨rfl, (by first | rw [if_pos c4] | rw [if_neg c4])⟩ dX2_loosen_22
  · refine r_aload_n (pc := 7) C dX2_loosen_7 rfl rfl ?_
    refine r_iconst (pc := 8) (v := (nI 1)) C dX2_loosen_8 (by decide) ?_
    refine r_putI (pc := 9) C fl_X2_50 o0 rfl rfl rfl rfl dX2_loosen_9 ?_
    refine r_aload_n (pc := 12) C dX2_loosen_12 rfl rfl ?_
    refine r_dup (pc := 13) C dX2_loosen_13 rfl ?_
    refine r_getIe (pc := 14) C fl_X2_29 o2 rfl (show _ = nI n from (by rw [hI_ne hab]; exact f26)) dX2_loosen_14 ?_
    refine r_iconst (pc := 17) (v := (nI 1)) C dX2_loosen_17 (by decide) ?_
    refine n_iadd (pc := 18) C dX2_loosen_18 ?_
    refine r_putI (pc := 19) C fl_X2_29 o2 rfl rfl rfl rfl dX2_loosen_19 ?_
    exact r_vret (pc := 22) C rfl (Nat.le_of_ble_eq_true rfl) (Nat.le_of_ble_eq_true rfl) ⟨rfl, (by first | rw [if_pos c4] | rw [if_neg c4])⟩ dX2_loosen_22
theorem c_X2_keep {G : GP} {h : AH} {a b c n m : Nat} {x : Int32} (L : X2L a h) (o0 : hS h b = (0, 0)) (hb : b ≠ a + 4 ∧ b ≠ a + 5) (f00 : hI h b 0 = nI c) (f25 : hI h a 5 = nI n) (hn : n ≤ 200) (hm : m ≤ 200) : MA G mX2_keep 0 0 0 [.ref a, .ref b, .int x, .int (nI m)] h (Oi (fun v h' => v = bI (n < m) ∧ h' = (if n < m then pI (pI (pI h (a + 4) n x) (a + 5) n (nI c)) a 5 (nI (n + 1)) else h))) := by
  obtain ⟨o2, r20, s20, r22, T, r23, s23, r24, s24⟩ := L
  refine MA.intro (lv := [some (.ref a), some (.ref b), some (.int x), some (.int (nI m))]) (by decide) (Nat.le_of_ble_eq_true rfl) rfl (fun F C => ?_)
  have u5 : hI (pI h (a + 4) n x) a 5 = nI n := by rw [hI_ne (by omega)]; exact f25
  have u0 : hI (pI h (a + 4) n x) b 0 = nI c := by rw [hI_ne hb.1]; exact f00
  have w5 : hI (pI (pI h (a + 4) n x) (a + 5) n (nI c)) a 5 = nI n := by rw [hI_ne (by omega)]; exact u5
  refine r_aload_n (pc := 0) C dX2_keep_0 rfl rfl ?_
  refine r_getIe (pc := 1) C fl_X2_25 o2 rfl f25 dX2_keep_1 ?_
  refine r_iload_n (pc := 4) C dX2_keep_4 rfl rfl ?_
  refine n_icmp_ge (pc := 5) (tgt := 20) C (by omega) (by omega) dX2_keep_5 (by decide) (fun c5 => ?_) (fun c5 => ?_)
  · refine r_iconst (pc := 20) (v := (nI 0)) C dX2_keep_20 (by decide) ?_
    exact r_zret (pc := 21) C rfl (by first | exact bI_01 | exact Or.inl rfl | exact Or.inr rfl) (Nat.le_of_ble_eq_true rfl) (Nat.le_of_ble_eq_true rfl) ⟨_, rfl, ⟨ff0 (by omega), (if_neg (by omega)).symm⟩⟩ dX2_keep_21
  · refine r_aload_n (pc := 8) C dX2_keep_8 rfl rfl ?_
    refine r_getIe (pc := 9) C fl_X2_25 o2 rfl f25 dX2_keep_9 ?_
    refine r_aload_n (pc := 12) C dX2_keep_12 rfl rfl ?_
    refine r_getR (pc := 13) C fl_X2_18 o2 rfl r23 dX2_keep_13 ?_
    refine r_alen (pc := 16) C s23 (by decide) (by decide) dX2_keep_16 ?_
    refine n_icmp_lt (pc := 17) (tgt := 22) C (by omega) (by omega) dX2_keep_17 (by decide) (fun c17 => ?_) (fun c17 => absurd c17 (by omega))
    refine r_aload_n (pc := 22) C dX2_keep_22 rfl rfl ?_
    refine r_getR (pc := 23) C fl_X2_18 o2 rfl r23 dX2_keep_23 ?_
    refine r_aload_n (pc := 26) C dX2_keep_26 rfl rfl ?_
    refine r_getIe (pc := 27) C fl_X2_25 o2 rfl f25 dX2_keep_27 ?_
    refine r_iload_n (pc := 30) C dX2_keep_30 rfl rfl ?_
    refine n_iast (pc := 31) C s23 (by omega) dX2_keep_31 ?_
    refine r_aload_n (pc := 32) C dX2_keep_32 rfl rfl ?_
    refine r_getR (pc := 33) C fl_X2_22 o2 rfl r24 dX2_keep_33 ?_
    refine r_aload_n (pc := 36) C dX2_keep_36 rfl rfl ?_
    refine r_getIe (pc := 37) C fl_X2_25 o2 rfl u5 dX2_keep_37 ?_
    refine r_aload_n (pc := 40) C dX2_keep_40 rfl rfl ?_
    refine r_getIe (pc := 41) C fl_X2_56 o0 rfl u0 dX2_keep_41 ?_
    refine n_iast (pc := 44) C s24 (by omega) dX2_keep_44 ?_
    refine r_aload_n (pc := 45) C dX2_keep_45 rfl rfl ?_
    refine r_dup (pc := 46) C dX2_keep_46 rfl ?_
    refine r_getIe (pc := 47) C fl_X2_25 o2 rfl w5 dX2_keep_47 ?_
    refine r_iconst (pc := 50) (v := (nI 1)) C dX2_keep_50 (by decide) ?_
    refine n_iadd (pc := 51) C dX2_keep_51 ?_
    refine r_putI (pc := 52) C fl_X2_25 o2 rfl rfl rfl rfl dX2_keep_52 ?_
    refine r_iconst (pc := 55) (v := (nI 1)) C dX2_keep_55 (by decide) ?_
    exact r_zret (pc := 56) C rfl (by first | exact bI_01 | exact Or.inl rfl | exact Or.inr rfl) (Nat.le_of_ble_eq_true rfl) (Nat.le_of_ble_eq_true rfl) ⟨_, rfl, ⟨tt1 (by omega), (if_pos (by omega)).symm⟩⟩ dX2_keep_56
theorem c_X2_rowKept {G : GP} {h : AH} {a i n : Nat} {v : Int32} (L : X2L a h) (f25 : hI h a 5 = nI n) (hn : n ≤ 200) (hi : i < n) (hv : hI h (a + 4) i = v) : MA G mX2_rowKept 0 0 0 [.ref a, .int (nI i)] h (Oi (fun v' h' => v' = v ∧ h' = h)) := by
  obtain ⟨o2, r20, s20, r22, T, r23, s23, r24, s24⟩ := L
  refine MA.intro (lv := [some (.ref a), some (.int (nI i))]) (by decide) (Nat.le_of_ble_eq_true rfl) rfl (fun F C => ?_)
  refine r_iload_n (pc := 0) C dX2_rowKept_0 rfl rfl ?_
  refine n_if_lt (pc := 1) (tgt := 21) C (by omega) dX2_rowKept_1 (by decide) ?_
  refine r_iload_n (pc := 4) C dX2_rowKept_4 rfl rfl ?_
  refine r_aload_n (pc := 5) C dX2_rowKept_5 rfl rfl ?_
  refine r_getIe (pc := 6) C fl_X2_25 o2 rfl f25 dX2_rowKept_6 ?_
  refine n_icmp_ge (pc := 9) (tgt := 21) C (by omega) (by omega) dX2_rowKept_9 (by decide) (fun c9 => absurd c9 (by omega)) (fun c9 => ?_)
  refine r_aload_n (pc := 12) C dX2_rowKept_12 rfl rfl ?_
  refine r_getR (pc := 13) C fl_X2_18 o2 rfl r23 dX2_rowKept_13 ?_
  refine r_iload_n (pc := 16) C dX2_rowKept_16 rfl rfl ?_
  refine n_iald (pc := 17) C s23 (by omega) hv dX2_rowKept_17 ?_
  refine r_goto (pc := 18) (tgt := 22) C dX2_rowKept_18 (by decide) ?_
  exact r_iret (pc := 22) C rfl (Nat.le_of_ble_eq_true rfl) (Nat.le_of_ble_eq_true rfl) ⟨_, rfl, ⟨rfl, rfl⟩⟩ dX2_rowKept_22
theorem c_X2_channelKept {G : GP} {h : AH} {a i n : Nat} {v : Int32} (L : X2L a h) (f25 : hI h a 5 = nI n) (hn : n ≤ 200) (hi : i < n) (hv : hI h (a + 5) i = v) : MA G mX2_channelKept 0 0 0 [.ref a, .int (nI i)] h (Oi (fun v' h' => v' = v ∧ h' = h)) := by
  obtain ⟨o2, r20, s20, r22, T, r23, s23, r24, s24⟩ := L
  refine MA.intro (lv := [some (.ref a), some (.int (nI i))]) (by decide) (Nat.le_of_ble_eq_true rfl) rfl (fun F C => ?_)
  refine r_iload_n (pc := 0) C dX2_channelKept_0 rfl rfl ?_
  refine n_if_lt (pc := 1) (tgt := 21) C (by omega) dX2_channelKept_1 (by decide) ?_
  refine r_iload_n (pc := 4) C dX2_channelKept_4 rfl rfl ?_
  refine r_aload_n (pc := 5) C dX2_channelKept_5 rfl rfl ?_
  refine r_getIe (pc := 6) C fl_X2_25 o2 rfl f25 dX2_channelKept_6 ?_
  refine n_icmp_ge (pc := 9) (tgt := 21) C (by omega) (by omega) dX2_channelKept_9 (by decide) (fun c9 => absurd c9 (by omega)) (fun c9 => ?_)
  refine r_aload_n (pc := 12) C dX2_channelKept_12 rfl rfl ?_
  refine r_getR (pc := 13) C fl_X2_22 o2 rfl r24 dX2_channelKept_13 ?_
  refine r_iload_n (pc := 16) C dX2_channelKept_16 rfl rfl ?_
  refine n_iald (pc := 17) C s24 (by omega) hv dX2_channelKept_17 ?_
  refine r_goto (pc := 18) (tgt := 22) C dX2_channelKept_18 (by decide) ?_
  exact r_iret (pc := 22) C rfl (Nat.le_of_ble_eq_true rfl) (Nat.le_of_ble_eq_true rfl) ⟨_, rfl, ⟨rfl, rfl⟩⟩ dX2_channelKept_22
theorem getp {l : List (Nat × Nat)} {i : Nat} {p : Nat × Nat} {rs : List (Nat × Nat)} (hd : l.drop i = p :: rs) : i < l.length ∧ l.getD i (0, 0) = p ∧ l.drop (i + 1) = rs ∧ p ∈ l := by
  have h1 : i < l.length := by
    rcases Nat.lt_or_ge i l.length with z | z
    · exact z
    · rw [List.drop_eq_nil_iff.mpr z] at hd; cases hd
  have hq? : l[i]? = some p := by
    have e := congrArg List.head? hd
    rw [List.head?_drop] at e
    exact e
  exact ⟨h1, by rw [List.getD_eq_getElem?_getD, hq?]; rfl, by rw [← List.tail_drop, hd]; rfl, List.mem_of_getElem? hq?⟩
section MK54
variable {G : GP} {F : FX} {Q : State → Prop}
theorem rowsFor_l (C : CX G F mX2_rowsFor (Rm 0 0 0)) {h : AH} {a c : Nat} {l : List (Nat × Nat)} (L : X2L a h) (f25 : hI h a 5 = nI l.length) (hl : l.length ≤ 200) (hc : c < 100000) (hk : ∀ i, i < l.length → hI h (a + 5) i = nI (l.getD i (0, 0)).1) (hk2 : ∀ p ∈ l, p.1 < 100000)
    (kk : ∀ x3, WA G F mX2_rowsFor h 0 0 Q 31 [some (.ref a), some (.int (nI c)), some (.int (nI (l.countP (fun z => decide (z.1 = c))))), some (.int x3)] []) :
    ∀ (rest : List (Nat × Nat)) (i b : Nat), l.drop i = rest → i ≤ l.length → b + rest.countP (fun z => decide (z.1 = c)) = l.countP (fun z => decide (z.1 = c)) → WA G F mX2_rowsFor h 0 0 Q 4 [some (.ref a), some (.int (nI c)), some (.int (nI b)), some (.int (nI i))] [] := by
  obtain ⟨o2, r20, s20, r22, T, r23, s23, r24, s24⟩ := L
  intro rest
  induction rest with
  | nil =>
    intro i b hd hi hb
    have hk2 : l.length ≤ i := List.drop_eq_nil_iff.mp hd
    rw [List.countP_nil, Nat.add_zero] at hb
    subst hb
    refine r_iload_n (pc := 4) C dX2_rowsFor_4 rfl rfl ?_
    refine r_aload_n (pc := 5) C dX2_rowsFor_5 rfl rfl ?_
    refine r_getIe (pc := 6) C fl_X2_25 o2 rfl f25 dX2_rowsFor_6 ?_
    refine n_icmp_ge (pc := 9) (tgt := 31) C (by omega) (by omega) dX2_rowsFor_9 (by decide) (fun c9 => ?_) (fun c9 => absurd c9 (by omega))
    exact kk _
  | cons p rs ih =>
    intro i b hd hi hb
    obtain ⟨h1, hgd, hrs, hpm⟩ := getp hd
    have hpc := hk2 p hpm
    rw [List.countP_cons] at hb
    refine r_iload_n (pc := 4) C dX2_rowsFor_4 rfl rfl ?_
    refine r_aload_n (pc := 5) C dX2_rowsFor_5 rfl rfl ?_
    refine r_getIe (pc := 6) C fl_X2_25 o2 rfl f25 dX2_rowsFor_6 ?_
    refine n_icmp_ge (pc := 9) (tgt := 31) C (by omega) (by omega) dX2_rowsFor_9 (by decide) (fun c9 => absurd c9 (by omega)) (fun c9 => ?_)
    refine r_aload_n (pc := 12) C dX2_rowsFor_12 rfl rfl ?_
    refine r_getR (pc := 13) C fl_X2_22 o2 rfl r24 dX2_rowsFor_13 ?_
    refine r_iload_n (pc := 16) C dX2_rowsFor_16 rfl rfl ?_
    refine n_iald (pc := 17) C s24 (by omega) ((hk i h1).trans (by rw [hgd])) dX2_rowsFor_17 ?_
    refine r_iload_n (pc := 18) C dX2_rowsFor_18 rfl rfl ?_
    refine n_icmp_ne (pc := 19) (tgt := 25) C (by omega) (by omega) dX2_rowsFor_19 (by decide) (fun c19 => ?_) (fun c19 => ?_)
    · refine n_iinc (pc := 25) (lv' := [_, _, _, _]) C dX2_rowsFor_25 rfl (by decide) rfl rfl ?_
      refine r_goto (pc := 28) (tgt := 4) C dX2_rowsFor_28 (by decide) ?_
      exact ih (i + 1) _ hrs (by omega) (by simp [c19] at hb; omega)
    · refine n_iinc (pc := 22) (lv' := [_, _, _, _]) C dX2_rowsFor_22 rfl (by decide) rfl rfl ?_
      refine n_iinc (pc := 25) (lv' := [_, _, _, _]) C dX2_rowsFor_25 rfl (by decide) rfl rfl ?_
      refine r_goto (pc := 28) (tgt := 4) C dX2_rowsFor_28 (by decide) ?_
      exact ih (i + 1) _ hrs (by omega) (by simp [c19] at hb; omega)
theorem rowFor_l (C : CX G F mX2_rowFor (Rm 0 0 0)) {h : AH} {a c : Nat} {x2 : Int32} {l : List (Nat × Nat)} (L : X2L a h) (f25 : hI h a 5 = nI l.length) (hl : l.length ≤ 200) (hc : c < 100000) (hk : ∀ i, i < l.length → hI h (a + 5) i = nI (l.getD i (0, 0)).1 ∧ hI h (a + 4) i = nI (l.getD i (0, 0)).2) (hk2 : ∀ p ∈ l, p.1 < 100000) {o : Option Nat} :
    ∀ (rest : List (Nat × Nat)) (i n : Nat), l.drop i = rest → i ≤ l.length → n < 2147483648 → kAt c rest n = o → WA G F mX2_rowFor h 0 0 (MQA G F 0 0 (Oi (fun v h' => v = oI o ∧ h' = h))) 11 [some (.ref a), some (.int (nI c)), some (.int x2), some (.int (nI n)), some (.int (nI i))] [] := by
  obtain ⟨o2, r20, s20, r22, T, r23, s23, r24, s24⟩ := L
  intro rest
  induction rest with
  | nil =>
    intro i n hd hi hn ho
    have hk2 : l.length ≤ i := List.drop_eq_nil_iff.mp hd
    refine r_iload (pc := 11) C dX2_rowFor_11 rfl ?_
    refine r_aload_n (pc := 13) C dX2_rowFor_13 rfl rfl ?_
    refine r_getIe (pc := 14) C fl_X2_25 o2 rfl f25 dX2_rowFor_14 ?_
    refine n_icmp_ge (pc := 17) (tgt := 52) C (by omega) (by omega) dX2_rowFor_17 (by decide) (fun c17 => ?_) (fun c17 => absurd c17 (by omega))
    refine r_iconst (pc := 52) (v := (-1)) C dX2_rowFor_52 (by decide) ?_
    exact r_iret (pc := 53) C rfl (Nat.le_of_ble_eq_true rfl) (Nat.le_of_ble_eq_true rfl) ⟨_, rfl, ⟨by rw [← ho]; rfl, rfl⟩⟩ dX2_rowFor_53
  | cons p rs ih =>
    intro i n hd hi hn ho
    obtain ⟨h1, hgd, hrs, hpm⟩ := getp hd
    have hpc := hk2 p hpm
    unfold kAt at ho
    refine r_iload (pc := 11) C dX2_rowFor_11 rfl ?_
    refine r_aload_n (pc := 13) C dX2_rowFor_13 rfl rfl ?_
    refine r_getIe (pc := 14) C fl_X2_25 o2 rfl f25 dX2_rowFor_14 ?_
    refine n_icmp_ge (pc := 17) (tgt := 52) C (by omega) (by omega) dX2_rowFor_17 (by decide) (fun c17 => absurd c17 (by omega)) (fun c17 => ?_)
    refine r_aload_n (pc := 20) C dX2_rowFor_20 rfl rfl ?_
    refine r_getR (pc := 21) C fl_X2_22 o2 rfl r24 dX2_rowFor_21 ?_
    refine r_iload (pc := 24) C dX2_rowFor_24 rfl ?_
    refine n_iald (pc := 26) C s24 (by omega) ((hk i h1).1.trans (by rw [hgd])) dX2_rowFor_26 ?_
    refine r_iload_n (pc := 27) C dX2_rowFor_27 rfl rfl ?_
    refine n_icmp_ne (pc := 28) (tgt := 46) C (by omega) (by omega) dX2_rowFor_28 (by decide) (fun c28 => ?_) (fun c28 => ?_)
    · rw [if_neg c28] at ho
      refine n_iinc (pc := 46) (lv' := [_, _, _, _, _]) C dX2_rowFor_46 rfl (by decide) rfl rfl ?_
      refine r_goto (pc := 49) (tgt := 11) C dX2_rowFor_49 (by decide) ?_
      exact ih (i + 1) n hrs (by omega) hn ho
    · rw [if_pos c28] at ho
      refine r_iload_n (pc := 31) C dX2_rowFor_31 rfl rfl ?_
      refine n_if_ne (pc := 32) (tgt := 43) C (by omega) dX2_rowFor_32 (by decide) (fun c32 => ?_) (fun c32 => ?_)
      · rw [if_neg c32] at ho
        refine r_iinc (pc := 43) (v := nI (n - 1)) (lv' := [_, _, _, _, _]) C dX2_rowFor_43 rfl (dec_nI c32) (by decide) rfl rfl ?_
        refine n_iinc (pc := 46) (lv' := [_, _, _, _, _]) C dX2_rowFor_46 rfl (by decide) rfl rfl ?_
        refine r_goto (pc := 49) (tgt := 11) C dX2_rowFor_49 (by decide) ?_
        exact ih (i + 1) (n - 1) hrs (by omega) (by omega) ho
      · rw [if_pos c32] at ho
        refine r_aload_n (pc := 35) C dX2_rowFor_35 rfl rfl ?_
        refine r_getR (pc := 36) C fl_X2_18 o2 rfl r23 dX2_rowFor_36 ?_
        refine r_iload (pc := 39) C dX2_rowFor_39 rfl ?_
        refine n_iald (pc := 41) C s23 (by omega) ((hk i h1).2.trans (by rw [hgd])) dX2_rowFor_41 ?_
        exact r_iret (pc := 42) C rfl (Nat.le_of_ble_eq_true rfl) (Nat.le_of_ble_eq_true rfl) ⟨_, rfl, ⟨by rw [← ho]; rfl, rfl⟩⟩ dX2_rowFor_42
end MK54
theorem c_X2_rowsFor {G : GP} {h : AH} {a c : Nat} {l : List (Nat × Nat)} (L : X2L a h) (f25 : hI h a 5 = nI l.length) (hl : l.length ≤ 200) (hc : c < 100000) (hk : ∀ i, i < l.length → hI h (a + 5) i = nI (l.getD i (0, 0)).1) (hk2 : ∀ p ∈ l, p.1 < 100000) : MA G mX2_rowsFor 0 0 0 [.ref a, .int (nI c)] h (Oi (fun v h' => v = nI (l.countP (fun z => decide (z.1 = c))) ∧ h' = h)) := by
  refine MA.intro (lv := [some (.ref a), some (.int (nI c)), none, none]) (by decide) (Nat.le_of_ble_eq_true rfl) rfl (fun F C => ?_)
  refine r_iconst (pc := 0) (v := (nI 0)) C dX2_rowsFor_0 (by decide) ?_
  refine r_istore_n (pc := 1) (lv' := [_, _, _, _]) C dX2_rowsFor_1 rfl (by decide) rfl rfl ?_
  refine r_iconst (pc := 2) (v := (nI 0)) C dX2_rowsFor_2 (by decide) ?_
  refine r_istore_n (pc := 3) (lv' := [_, _, _, _]) C dX2_rowsFor_3 rfl (by decide) rfl rfl ?_
  refine rowsFor_l C L f25 hl hc hk hk2 (fun x3 => ?_) l 0 0 rfl (Nat.zero_le _) (Nat.zero_add _)
  refine r_iload_n (pc := 31) C dX2_rowsFor_31 rfl rfl ?_
  exact r_iret (pc := 32) C rfl (Nat.le_of_ble_eq_true rfl) (Nat.le_of_ble_eq_true rfl) ⟨_, rfl, ⟨rfl, rfl⟩⟩ dX2_rowsFor_32
theorem c_X2_rowFor {G : GP} {h : AH} {a c : Nat} {l : List (Nat × Nat)} (L : X2L a h) (f25 : hI h a 5 = nI l.length) (hl : l.length ≤ 200) (hc : c < 100000) (hk : ∀ i, i < l.length → hI h (a + 5) i = nI (l.getD i (0, 0)).1 ∧ hI h (a + 4) i = nI (l.getD i (0, 0)).2) (hk2 : ∀ p ∈ l, p.1 < 100000) (x : Int32) : MA G mX2_rowFor 0 0 0 [.ref a, .int (nI c), .int x] h (Oi (fun v h' => v = oI (kAtI l c x) ∧ h' = h)) := by
  refine MA.intro (lv := [some (.ref a), some (.int (nI c)), some (.int x), none, none]) (by decide) (Nat.le_of_ble_eq_true rfl) rfl (fun F C => ?_)
  by_cases hi : x < 0
  · rw [show kAtI l c x = none from cif_t hi]
    refine r_iload_n (pc := 0) C dX2_rowFor_0 rfl rfl ?_
    refine r_if_ge (pc := 1) (tgt := 6) C dX2_rowFor_1 (by decide) (fun c1 => absurd c1 (Int32.not_le.mpr hi)) (fun c1 => ?_)
    refine r_iconst (pc := 4) (v := (-1)) C dX2_rowFor_4 (by decide) ?_
    exact r_iret (pc := 5) C rfl (Nat.le_of_ble_eq_true rfl) (Nat.le_of_ble_eq_true rfl) ⟨_, rfl, ⟨rfl, rfl⟩⟩ dX2_rowFor_5
  · obtain ⟨n, hn, rfl⟩ := nI_of hi
    rw [show kAtI l c (nI n) = kAt c l n from (cif_f hi).trans (by rw [cl hn])]
    refine r_iload_n (pc := 0) C dX2_rowFor_0 rfl rfl ?_
    refine n_if_ge (pc := 1) (tgt := 6) C (by omega) dX2_rowFor_1 (by decide) ?_
    refine r_iload_n (pc := 6) C dX2_rowFor_6 rfl rfl ?_
    refine r_istore_n (pc := 7) (lv' := [_, _, _, _, _]) C dX2_rowFor_7 rfl (by decide) rfl rfl ?_
    refine r_iconst (pc := 8) (v := (nI 0)) C dX2_rowFor_8 (by decide) ?_
    refine r_istore (pc := 9) (lv' := [_, _, _, _, _]) C dX2_rowFor_9 (by decide) rfl rfl ?_
    exact rowFor_l C L f25 hl hc hk hk2 l 0 n rfl (Nat.zero_le _) hn rfl
