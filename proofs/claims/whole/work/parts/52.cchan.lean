/-! ===== the class: a channel by itself ===== -/
def fsI : List Nat → Int32
  | [] => -1
  | r :: _ => nI r
def lsI (l : List Nat) : Int32 := match l.getLast? with
  | none => -1
  | some r => nI r
/-- the chain of a channel's rows -/
def CHN (b : Nat → Int32) : List Nat → Prop
  | [] => True
  | r :: l => b r = fsI l ∧ CHN b l
theorem CHN.drop {b : Nat → Int32} : ∀ {l : List Nat} (n : Nat), CHN b l → CHN b (l.drop n)
  | l, 0, h => h
  | [], n + 1, h => trivial
  | r :: l, n + 1, h => CHN.drop (l := l) n h.2
theorem CHN.up {b : Nat → Int32} {r : Nat} {v : Int32} : ∀ {l : List Nat}, CHN b l → r ∉ l → CHN (va_up b r v) l
  | [], _, _ => trivial
  | q :: l, h, hr => ⟨(by rw [up_ne (show q ≠ r from fun e => hr (by rw [e]; exact List.mem_cons_self))]; exact h.1), h.2.up (fun z => hr (List.mem_cons_of_mem _ z))⟩
theorem CHN.cg {b b' : Nat → Int32} : ∀ {l : List Nat}, CHN b l → (∀ r ∈ l, b' r = b r) → CHN b' l
  | [], _, _ => trivial
  | q :: l, h, hr => ⟨(hr q List.mem_cons_self).trans h.1, h.2.cg (fun r z => hr r (List.mem_cons_of_mem _ z))⟩
theorem lsI_app {l : List Nat} {r : Nat} : lsI (l ++ [r]) = nI r := by unfold lsI; rw [List.getLast?_concat]
theorem lsI_cons {r s : Nat} {l : List Nat} : lsI (r :: s :: l) = lsI (s :: l) := by unfold lsI; rw [List.getLast?_cons_cons]
theorem lsI_some {l : List Nat} (h : l ≠ []) : lsI l = nI (l.getLast h) := by unfold lsI; rw [List.getLast?_eq_some_getLast h]
theorem fsI_app {l : List Nat} {r : Nat} : fsI (l ++ [r]) = if l = [] then nI r else fsI l := by
  cases l with
  | nil => rfl
  | cons a l => rfl
/-- r is put at the end -/
theorem CHN.app {b : Nat → Int32} {r : Nat} : ∀ {l : List Nat}, CHN b l → l.Nodup → r ∉ l → (hl : l ≠ []) → CHN (va_up (va_up b r (-1)) (l.getLast hl) (nI r)) (l ++ [r])
  | [q], _, _, hr, _ => by
    have hne : r ≠ q := fun e => hr (e ▸ List.mem_cons_self)
    refine ⟨?_, ?_, trivial⟩
    · show va_up _ q _ q = nI r; exact up_s
    · show va_up (va_up b r (-1)) q (nI r) r = -1; rw [up_ne hne, up_s]
  | q :: s :: l, h, hn, hr, _ => by
    obtain ⟨h1, h2⟩ := h
    obtain ⟨n1, n2⟩ := List.nodup_cons.mp hn
    refine ⟨?_, ?_⟩
    · have e1 : q ≠ (q :: s :: l).getLast (List.cons_ne_nil _ _) := by
        rw [List.getLast_cons (List.cons_ne_nil s l)]
        exact fun e => n1 (e ▸ List.getLast_mem _)
      have e2 : q ≠ r := fun e => hr (e ▸ List.mem_cons_self)
      rw [up_ne e1, up_ne e2, h1]
      rfl
    · have := h2.app (r := r) n2 (fun z => hr (List.mem_cons_of_mem _ z)) (List.cons_ne_nil s l)
      rw [show (q :: s :: l).getLast (List.cons_ne_nil _ _) = (s :: l).getLast (List.cons_ne_nil s l) from List.getLast_cons _]
      exact this
theorem drop_get {l : List Nat} {i : Nat} (h : i < l.length) : l.drop i = l.getD i 0 :: l.drop (i + 1) := by
  rw [List.drop_eq_getElem_cons h, List.getD_eq_getElem?_getD, List.getElem?_eq_getElem h]; rfl
theorem getD_mem {l : List Nat} {i : Nat} (h : i < l.length) : l.getD i 0 ∈ l := by
  rw [List.getD_eq_getElem?_getD, List.getElem?_eq_getElem h]; exact List.getElem_mem h
theorem c_X0_rowBehind {G : GP} {h : AH} {a b r : Nat} {v : Int32} (o0 : hS h a = (0, 0)) (r01 : hR h a 1 = some b) (s01 : hS h b = (1, 200)) (hr : r < 200) (hv : hI h b r = v) : MA G mX0_rowBehind 0 0 0 [.ref a, .int (nI r)] h (Oi (fun v' h' => v' = v ∧ h' = h)) := by
  refine MA.intro (lv := [some (.ref a), some (.int (nI r))]) (by decide) (Nat.le_of_ble_eq_true rfl) rfl (fun F C => ?_)
  refine r_iload_n (pc := 0) C dX0_rowBehind_0 rfl rfl ?_
  refine n_if_lt (pc := 1) (tgt := 22) C (by omega) dX0_rowBehind_1 (by decide) ?_
  refine r_iload_n (pc := 4) C dX0_rowBehind_4 rfl rfl ?_
  refine r_aload_n (pc := 5) C dX0_rowBehind_5 rfl rfl ?_
  refine r_getR (pc := 6) C fl_X0_34 o0 rfl r01 dX0_rowBehind_6 ?_
  refine r_alen (pc := 9) C s01 (by decide) (by decide) dX0_rowBehind_9 ?_
  refine n_icmp_ge (pc := 10) (tgt := 22) C (by omega) (by omega) dX0_rowBehind_10 (by decide) (fun c10 => absurd c10 (by omega)) (fun c10 => ?_)
  refine r_aload_n (pc := 13) C dX0_rowBehind_13 rfl rfl ?_
  refine r_getR (pc := 14) C fl_X0_34 o0 rfl r01 dX0_rowBehind_14 ?_
  refine r_iload_n (pc := 17) C dX0_rowBehind_17 rfl rfl ?_
  refine n_iald (pc := 18) C s01 (by omega) hv dX0_rowBehind_18 ?_
  refine r_goto (pc := 19) (tgt := 23) C dX0_rowBehind_19 (by decide) ?_
  exact r_iret (pc := 23) C rfl (Nat.le_of_ble_eq_true rfl) (Nat.le_of_ble_eq_true rfl) ⟨_, rfl, ⟨rfl, rfl⟩⟩ dX0_rowBehind_23
theorem rowAt_l {G : GP} {F : FX} {Q : State → Prop} (C : CX G F mX0_rowAt (Rm 1 0 0)) {h : AH} {a b i : Nat} {l : List Nat} (o0 : hS h a = (0, 0)) (r01 : hR h a 1 = some b) (s01 : hS h b = (1, 200)) (hc : CHN (hI h b) l) (hl : ∀ r ∈ l, r < 200) (hln : l.length ≤ 200) (hi : i < l.length)
    (kk : ∀ x3, WA G F mX0_rowAt h 0 0 Q 38 [some (.ref a), some (.int (nI i)), some (.int (nI (l.getD i 0))), some (.int x3)] []) :
    ∀ (n j : Nat) (x2 : Int32), j + n = i → x2 = fsI (l.drop j) → WA G F mX0_rowAt h 0 0 Q 21 [some (.ref a), some (.int (nI i)), some (.int x2), some (.int (nI j))] [] := by
  intro n
  induction n with
  | zero =>
    intro j x2 hj hx
    obtain rfl : j = i := by omega
    rw [drop_get hi] at hx
    subst hx
    refine r_iload_n (pc := 21) C dX0_rowAt_21 rfl rfl ?_
    refine r_iload_n (pc := 22) C dX0_rowAt_22 rfl rfl ?_
    refine n_icmp_ge (pc := 23) (tgt := 38) C (by omega) (by omega) dX0_rowAt_23 (by decide) (fun c23 => ?_) (fun c23 => absurd c23 (by omega))
    exact kk _
  | succ n ih =>
    intro j x2 hj hx
    have hj2 : j < l.length := by omega
    have hc2 := hc.drop j
    rw [drop_get hj2] at hx hc2
    subst hx
    have hr := hl _ (getD_mem hj2)
    refine r_iload_n (pc := 21) C dX0_rowAt_21 rfl rfl ?_
    refine r_iload_n (pc := 22) C dX0_rowAt_22 rfl rfl ?_
    refine n_icmp_ge (pc := 23) (tgt := 38) C (by omega) (by omega) dX0_rowAt_23 (by decide) (fun c23 => absurd c23 (by omega)) (fun c23 => ?_)
    refine r_aload_n (pc := 26) C dX0_rowAt_26 rfl rfl ?_
    refine r_iload_n (pc := 27) C dX0_rowAt_27 rfl rfl ?_
    refine r_calli (cr_V (pc := 28) C (c_X0_rowBehind o0 r01 s01 hr hc2.1) dX0_rowAt_28 cm_X0_rowBehind ml_X0_38 im_X0_rowBehind se_X0_rowBehind o0 rfl ⟨⟨Nat.le_of_ble_eq_true rfl, Nat.le_of_ble_eq_true rfl⟩, Nat.le_of_ble_eq_true rfl, Nat.le_of_ble_eq_true rfl⟩ rfl rfl (Nat.le_of_ble_eq_true rfl)) (fun v28 h28 hq28 => ?_)
    obtain ⟨rfl, rfl⟩ := hq28
    refine r_istore_n (pc := 31) (lv' := [_, _, _, _]) C dX0_rowAt_31 rfl (by decide) rfl rfl ?_
    refine n_iinc (pc := 32) (lv' := [_, _, _, _]) C dX0_rowAt_32 rfl (by decide) rfl rfl ?_
    refine r_goto (pc := 35) (tgt := 21) C dX0_rowAt_35 (by decide) ?_
    exact ih (j + 1) _ (by omega) rfl
theorem c_X0_rowAt {G : GP} {h : AH} {a b : Nat} {l : List Nat} (o0 : hS h a = (0, 0)) (r01 : hR h a 1 = some b) (s01 : hS h b = (1, 200)) (f02 : hI h a 2 = fsI l) (f04 : hI h a 4 = nI l.length) (hc : CHN (hI h b) l) (hl : ∀ r ∈ l, r < 200) (hln : l.length ≤ 200) (x : Int32) : MA G mX0_rowAt 1 0 0 [.ref a, .int x] h (Oi (fun v h' => v = cif (inN x l.length) (nI (l.getD x.toNatClampNeg 0)) (-1) ∧ h' = h)) := by
  refine MA.intro (lv := [some (.ref a), some (.int x), none, none]) (by decide) (Nat.le_of_ble_eq_true rfl) rfl (fun F C => ?_)
  have t14 : ∀ i, i < l.length → x = nI i → WA G F mX0_rowAt h 0 0 (MQA G F 0 0 (Oi (fun v h' => v = cif (inN x l.length) (nI (l.getD x.toNatClampNeg 0)) (-1) ∧ h' = h))) 14 [some (.ref a), some (.int x), none, none] [] := by
    intro i hi hx
    subst hx
    have e : cif (inN (nI i) l.length) (nI (l.getD (nI i).toNatClampNeg 0)) (-1) = nI (l.getD i 0) := by
      rw [cif_t (inN_ok hi), cl (by omega)]
    refine r_aload_n (pc := 14) C dX0_rowAt_14 rfl rfl ?_
    refine r_getIe (pc := 15) C fl_X0_9 o0 rfl f02 dX0_rowAt_15 ?_
    refine r_istore_n (pc := 18) (lv' := [_, _, _, _]) C dX0_rowAt_18 rfl (by decide) rfl rfl ?_
    refine r_iconst (pc := 19) (v := (nI 0)) C dX0_rowAt_19 (by decide) ?_
    refine r_istore_n (pc := 20) (lv' := [_, _, _, _]) C dX0_rowAt_20 rfl (by decide) rfl rfl ?_
    refine rowAt_l C o0 r01 s01 hc hl hln hi (fun x3 => ?_) i 0 _ (Nat.zero_add _) rfl
    refine r_iload_n (pc := 38) C dX0_rowAt_38 rfl rfl ?_
    exact r_iret (pc := 39) C rfl (Nat.le_of_ble_eq_true rfl) (Nat.le_of_ble_eq_true rfl) ⟨_, rfl, ⟨e.symm, rfl⟩⟩ dX0_rowAt_39
  refine r_iload_n (pc := 0) C dX0_rowAt_0 rfl rfl ?_
  refine r_if_lt (pc := 1) (tgt := 12) C dX0_rowAt_1 (by decide) (fun c1 => ?_) (fun c1 => ?_)
  · refine r_iconst (pc := 12) (v := (-1)) C dX0_rowAt_12 (by decide) ?_
    exact r_iret (pc := 13) C rfl (Nat.le_of_ble_eq_true rfl) (Nat.le_of_ble_eq_true rfl) ⟨_, rfl, ⟨(cif_f (fun z => by first | exact ((ltI (by omega)).mp z).1 c1 | exact c9 ((ltI (by omega)).mp z).2)).symm, rfl⟩⟩ dX0_rowAt_13
  · refine r_iload_n (pc := 4) C dX0_rowAt_4 rfl rfl ?_
    refine r_aload_n (pc := 5) C dX0_rowAt_5 rfl rfl ?_
    refine r_getIe (pc := 6) C fl_X0_18 o0 rfl f04 dX0_rowAt_6 ?_
    refine r_icmp_lt (pc := 9) (tgt := 14) C dX0_rowAt_9 (by decide) (fun c9 => ?_) (fun c9 => ?_)
    · obtain ⟨i, hi, hx⟩ := (ltI (by omega)).mpr ⟨c1, c9⟩
      exact t14 i hi hx
    · refine r_iconst (pc := 12) (v := (-1)) C dX0_rowAt_12 (by decide) ?_
      exact r_iret (pc := 13) C rfl (Nat.le_of_ble_eq_true rfl) (Nat.le_of_ble_eq_true rfl) ⟨_, rfl, ⟨(cif_f (fun z => by first | exact ((ltI (by omega)).mp z).1 c1 | exact c9 ((ltI (by omega)).mp z).2)).symm, rfl⟩⟩ dX0_rowAt_13
theorem c_X0_hasRowInFront {G : GP} {h : AH} {a n b : Nat} (o0 : hS h a = (0, 0)) (f04 : hI h a 4 = nI n) (f05 : hI h a 5 = nI b - 1) (hn : n < 100000) (hb : b < 100000) : MA G mX0_hasRowInFront 0 0 0 [.ref a] h (Oi (fun v h' => v = bI (n ≠ 0 ∧ b ≠ 1) ∧ h' = h)) := by
  refine MA.intro (lv := [some (.ref a)]) (by decide) (Nat.le_of_ble_eq_true rfl) rfl (fun F C => ?_)
  refine r_aload_n (pc := 0) C dX0_hasRowInFront_0 rfl rfl ?_
  refine r_getIe (pc := 1) C fl_X0_18 o0 rfl f04 dX0_hasRowInFront_1 ?_
  refine n_if_le (pc := 4) (tgt := 18) C (by omega) dX0_hasRowInFront_4 (by decide) (fun c4 => ?_) (fun c4 => ?_)
  · refine r_iconst (pc := 18) (v := (nI 0)) C dX0_hasRowInFront_18 (by decide) ?_
    exact r_zret (pc := 19) C rfl (by first | exact bI_01 | exact Or.inl rfl | exact Or.inr rfl) (Nat.le_of_ble_eq_true rfl) (Nat.le_of_ble_eq_true rfl) ⟨_, rfl, ⟨by first | exact tt1 ⟨by omega, fun z => c11 ((bar_0 (by omega)).mpr z)⟩ | exact ff0 (fun z => z.1 (by omega)) | exact ff0 (fun z => z.2 ((bar_0 (by omega)).mp c11)), rfl⟩⟩ dX0_hasRowInFront_19
  · refine r_aload_n (pc := 7) C dX0_hasRowInFront_7 rfl rfl ?_
    refine r_getIe (pc := 8) C fl_X0_21 o0 rfl f05 dX0_hasRowInFront_8 ?_
    refine r_if_eq (pc := 11) (tgt := 18) C dX0_hasRowInFront_11 (by decide) (fun c11 => ?_) (fun c11 => ?_)
    · refine r_iconst (pc := 18) (v := (nI 0)) C dX0_hasRowInFront_18 (by decide) ?_
      exact r_zret (pc := 19) C rfl (by first | exact bI_01 | exact Or.inl rfl | exact Or.inr rfl) (Nat.le_of_ble_eq_true rfl) (Nat.le_of_ble_eq_true rfl) ⟨_, rfl, ⟨by first | exact tt1 ⟨by omega, fun z => c11 ((bar_0 (by omega)).mpr z)⟩ | exact ff0 (fun z => z.1 (by omega)) | exact ff0 (fun z => z.2 ((bar_0 (by omega)).mp c11)), rfl⟩⟩ dX0_hasRowInFront_19
    · refine r_iconst (pc := 14) (v := (nI 1)) C dX0_hasRowInFront_14 (by decide) ?_
      refine r_goto (pc := 15) (tgt := 19) C dX0_hasRowInFront_15 (by decide) ?_
      exact r_zret (pc := 19) C rfl (by first | exact bI_01 | exact Or.inl rfl | exact Or.inr rfl) (Nat.le_of_ble_eq_true rfl) (Nat.le_of_ble_eq_true rfl) ⟨_, rfl, ⟨by first | exact tt1 ⟨by omega, fun z => c11 ((bar_0 (by omega)).mpr z)⟩ | exact ff0 (fun z => z.1 (by omega)) | exact ff0 (fun z => z.2 ((bar_0 (by omega)).mp c11)), rfl⟩⟩ dX0_hasRowInFront_19
/-- the heap behind append -/
def apH (h : AH) (a b : Nat) (l : List Nat) (r : Nat) : AH :=
  pI (pI (if l = [] then pI (pI h b r (-1)) a 2 (nI r) else pI (pI h b r (-1)) b (l.getLastD 0) (nI r)) a 3 (nI r)) a 4 (nI (l.length + 1))
theorem c_X0_append {G : GP} {h : AH} {a b r : Nat} {l : List Nat} (o0 : hS h a = (0, 0)) (r01 : hR h a 1 = some b) (s01 : hS h b = (1, 200)) (hab : a ≠ b) (f03 : hI h a 3 = lsI l) (f04 : hI h a 4 = nI l.length) (hl : ∀ r ∈ l, r < 200) (hr : r < 200) : MA G mX0_append 0 0 0 [.ref a, .int (nI r)] h (Ov (fun h' => h' = apH h a b l r)) := by
  refine MA.intro (lv := [some (.ref a), some (.int (nI r))]) (by decide) (Nat.le_of_ble_eq_true rfl) rfl (fun F C => ?_)
  have g3 : hI (pI h b r (-1)) a 3 = lsI l := by rw [hI_ne hab]; exact f03
  have g4 : hI (pI h b r (-1)) a 4 = nI l.length := by rw [hI_ne hab]; exact f04
  by_cases hl0 : l = []
  · rw [show apH h a b l r = _ from congrArg (fun z => pI (pI z a 3 (nI r)) a 4 (nI (l.length + 1))) (if_pos hl0)]
    rw [hl0] at g3
    refine r_iload_n (pc := 0) C dX0_append_0 rfl rfl ?_
    refine n_if_lt (pc := 1) (tgt := 13) C (by omega) dX0_append_1 (by decide) ?_
    refine r_iload_n (pc := 4) C dX0_append_4 rfl rfl ?_
    refine r_aload_n (pc := 5) C dX0_append_5 rfl rfl ?_
    refine r_getR (pc := 6) C fl_X0_34 o0 rfl r01 dX0_append_6 ?_
    refine r_alen (pc := 9) C s01 (by decide) (by decide) dX0_append_9 ?_
    refine n_icmp_lt (pc := 10) (tgt := 14) C (by omega) (by omega) dX0_append_10 (by decide) (fun c10 => ?_) (fun c10 => absurd c10 (by omega))
    refine r_aload_n (pc := 14) C dX0_append_14 rfl rfl ?_
    refine r_getR (pc := 15) C fl_X0_34 o0 rfl r01 dX0_append_15 ?_
    refine r_iload_n (pc := 18) C dX0_append_18 rfl rfl ?_
    refine r_iconst (pc := 19) (v := (-1)) C dX0_append_19 (by decide) ?_
    refine n_iast (pc := 20) C s01 (by omega) dX0_append_20 ?_
    refine r_aload_n (pc := 21) C dX0_append_21 rfl rfl ?_
    refine r_getIe (pc := 22) C fl_X0_15 o0 rfl g3 dX0_append_22 ?_
    refine r_if_lt (pc := 25) (tgt := 53) C dX0_append_25 (by decide) (fun c25 => ?_) (fun c25 => absurd c25 (fun z => z (by decide)))
    refine r_aload_n (pc := 53) C dX0_append_53 rfl rfl ?_
    refine r_iload_n (pc := 54) C dX0_append_54 rfl rfl ?_
    refine r_putI (pc := 55) C fl_X0_9 o0 rfl rfl rfl rfl dX0_append_55 ?_
    refine r_aload_n (pc := 58) C dX0_append_58 rfl rfl ?_
    refine r_iload_n (pc := 59) C dX0_append_59 rfl rfl ?_
    refine r_putI (pc := 60) C fl_X0_15 o0 rfl rfl rfl rfl dX0_append_60 ?_
    refine r_aload_n (pc := 63) C dX0_append_63 rfl rfl ?_
    refine r_dup (pc := 64) C dX0_append_64 rfl ?_
    refine r_getIe (pc := 65) C fl_X0_18 o0 rfl (show _ = nI l.length from (by rw [hI_eq, up_ne (by decide), hI_eq, up_ne (by decide)]; exact g4)) dX0_append_65 ?_
    refine r_iconst (pc := 68) (v := (nI 1)) C dX0_append_68 (by decide) ?_
    refine n_iadd (pc := 69) C dX0_append_69 ?_
    refine r_putI (pc := 70) C fl_X0_18 o0 rfl rfl rfl rfl dX0_append_70 ?_
    exact r_vret (pc := 73) C rfl (Nat.le_of_ble_eq_true rfl) (Nat.le_of_ble_eq_true rfl) ⟨rfl, rfl⟩ dX0_append_73
  · rw [show apH h a b l r = _ from congrArg (fun z => pI (pI z a 3 (nI r)) a 4 (nI (l.length + 1))) (if_neg hl0)]
    have hz := hl _ (List.getLast_mem hl0)
    rw [lsI_some hl0] at g3
    rw [show l.getLastD 0 = l.getLast hl0 from by rw [List.getLastD_eq_getLast?, List.getLast?_eq_some_getLast hl0]; rfl]
    refine r_iload_n (pc := 0) C dX0_append_0 rfl rfl ?_
    refine n_if_lt (pc := 1) (tgt := 13) C (by omega) dX0_append_1 (by decide) ?_
    refine r_iload_n (pc := 4) C dX0_append_4 rfl rfl ?_
    refine r_aload_n (pc := 5) C dX0_append_5 rfl rfl ?_
    refine r_getR (pc := 6) C fl_X0_34 o0 rfl r01 dX0_append_6 ?_
    refine r_alen (pc := 9) C s01 (by decide) (by decide) dX0_append_9 ?_
    refine n_icmp_lt (pc := 10) (tgt := 14) C (by omega) (by omega) dX0_append_10 (by decide) (fun c10 => ?_) (fun c10 => absurd c10 (by omega))
    refine r_aload_n (pc := 14) C dX0_append_14 rfl rfl ?_
    refine r_getR (pc := 15) C fl_X0_34 o0 rfl r01 dX0_append_15 ?_
    refine r_iload_n (pc := 18) C dX0_append_18 rfl rfl ?_
    refine r_iconst (pc := 19) (v := (-1)) C dX0_append_19 (by decide) ?_
    refine n_iast (pc := 20) C s01 (by omega) dX0_append_20 ?_
    refine r_aload_n (pc := 21) C dX0_append_21 rfl rfl ?_
    refine r_getIe (pc := 22) C fl_X0_15 o0 rfl g3 dX0_append_22 ?_
    refine n_if_lt (pc := 25) (tgt := 53) C (by omega) dX0_append_25 (by decide) ?_
    refine r_aload_n (pc := 28) C dX0_append_28 rfl rfl ?_
    refine r_getIe (pc := 29) C fl_X0_15 o0 rfl g3 dX0_append_29 ?_
    refine r_aload_n (pc := 32) C dX0_append_32 rfl rfl ?_
    refine r_getR (pc := 33) C fl_X0_34 o0 rfl r01 dX0_append_33 ?_
    refine r_alen (pc := 36) C s01 (by decide) (by decide) dX0_append_36 ?_
    refine n_icmp_ge (pc := 37) (tgt := 53) C (by omega) (by omega) dX0_append_37 (by decide) (fun c37 => absurd c37 (by omega)) (fun c37 => ?_)
    refine r_aload_n (pc := 40) C dX0_append_40 rfl rfl ?_
    refine r_getR (pc := 41) C fl_X0_34 o0 rfl r01 dX0_append_41 ?_
    refine r_aload_n (pc := 44) C dX0_append_44 rfl rfl ?_
    refine r_getIe (pc := 45) C fl_X0_15 o0 rfl g3 dX0_append_45 ?_
    refine r_iload_n (pc := 48) C dX0_append_48 rfl rfl ?_
    refine n_iast (pc := 49) C s01 (by omega) dX0_append_49 ?_
    refine r_goto (pc := 50) (tgt := 58) C dX0_append_50 (by decide) ?_
    refine r_aload_n (pc := 58) C dX0_append_58 rfl rfl ?_
    refine r_iload_n (pc := 59) C dX0_append_59 rfl rfl ?_
    refine r_putI (pc := 60) C fl_X0_15 o0 rfl rfl rfl rfl dX0_append_60 ?_
    refine r_aload_n (pc := 63) C dX0_append_63 rfl rfl ?_
    refine r_dup (pc := 64) C dX0_append_64 rfl ?_
    refine r_getIe (pc := 65) C fl_X0_18 o0 rfl (show _ = nI l.length from (by rw [hI_eq, up_ne (by decide), hI_ne hab]; exact g4)) dX0_append_65 ?_
    refine r_iconst (pc := 68) (v := (nI 1)) C dX0_append_68 (by decide) ?_
    refine n_iadd (pc := 69) C dX0_append_69 ?_
    refine r_putI (pc := 70) C fl_X0_18 o0 rfl rfl rfl rfl dX0_append_70 ?_
    exact r_vret (pc := 73) C rfl (Nat.le_of_ble_eq_true rfl) (Nat.le_of_ble_eq_true rfl) ⟨rfl, rfl⟩ dX0_append_73
/-- the heap behind removeFirst -/
def rmH (h : AH) (a : Nat) (l : List Nat) (b : Nat) : AH :=
  if 1 < b then pI (pI (if l = [] then pI (pI h a 2 (fsI l)) a 3 (-1) else pI h a 2 (fsI l)) a 4 (nI l.length)) a 5 (nI (b - 1) - 1)
  else pI (if l = [] then pI (pI h a 2 (fsI l)) a 3 (-1) else pI h a 2 (fsI l)) a 4 (nI l.length)
theorem barI_le {b : Nat} (hb : b < 2147483648) : nI b - 1 ≤ nI 0 ↔ b ≤ 1 := by
  cases b with
  | zero => exact ⟨fun _ => by omega, fun _ => by decide⟩
  | succ c => rw [nI_pred, nI_leI (by omega) (by decide)]; omega
theorem bar_pred {n : Nat} (h : ¬ n ≤ 1) : nI n - 1 - nI 1 = nI (n - 1) - 1 := by
  obtain ⟨c, rfl⟩ : ∃ c, n = c + 1 := ⟨n - 1, by omega⟩
  rw [nI_pred, Nat.add_sub_cancel]
  rfl
theorem c_X0_removeFirst {G : GP} {h : AH} {a b r n : Nat} {l : List Nat} (o0 : hS h a = (0, 0)) (r01 : hR h a 1 = some b) (s01 : hS h b = (1, 200)) (f02 : hI h a 2 = nI r) (f04 : hI h a 4 = nI (l.length + 1)) (f05 : hI h a 5 = nI n - 1) (hv : hI h b r = fsI l) (hl : ∀ r ∈ l, r < 200) (hr : r < 200) (hn : n < 100000) (hln : l.length < 100000) : MA G mX0_removeFirst 1 0 0 [.ref a] h (Oi (fun v h' => v = nI r ∧ h' = rmH h a l n)) := by
  refine MA.intro (lv := [some (.ref a), none]) (by decide) (Nat.le_of_ble_eq_true rfl) rfl (fun F C => ?_)
  have t34 : ∀ h1, hS h1 = hS h → hI h1 a 4 = nI (l.length + 1) → hI h1 a 5 = nI n - 1 → h1 = (if l = [] then pI (pI h a 2 (fsI l)) a 3 (-1) else pI h a 2 (fsI l)) → WA G F mX0_removeFirst h1 0 0 (MQA G F 0 0 (Oi (fun v h' => v = nI r ∧ h' = rmH h a l n))) 34 [some (.ref a), some (.int (nI r))] [] := by
    intro h1 e1 g4 g5 e2
    have o0' : hS h1 a = (0, 0) := by rw [e1]; exact o0
    have u5 : hI (pI h1 a 4 (nI l.length)) a 5 = nI n - 1 := by rw [hI_eq, up_ne (by decide)]; exact g5
    refine r_aload_n (pc := 34) C dX0_removeFirst_34 rfl rfl ?_
    refine r_dup (pc := 35) C dX0_removeFirst_35 rfl ?_
    refine r_getIe (pc := 36) C fl_X0_18 o0' rfl g4 dX0_removeFirst_36 ?_
    refine r_iconst (pc := 39) (v := (nI 1)) C dX0_removeFirst_39 (by decide) ?_
    refine n_isub (pc := 40) C (by omega) dX0_removeFirst_40 ?_
    refine r_putI (pc := 41) C fl_X0_18 o0' rfl rfl rfl rfl dX0_removeFirst_41 ?_
    rw [Nat.add_sub_cancel]
    refine r_aload_n (pc := 44) C dX0_removeFirst_44 rfl rfl ?_
    refine r_getIe (pc := 45) C fl_X0_21 (show hS h1 a = _ from o0') rfl u5 dX0_removeFirst_45 ?_
    refine r_if_le (pc := 48) (tgt := 61) C dX0_removeFirst_48 (by decide) (fun c48 => ?_) (fun c48 => ?_)
    · refine r_iload_n (pc := 61) C dX0_removeFirst_61 rfl rfl ?_
      exact r_iret (pc := 62) C rfl (Nat.le_of_ble_eq_true rfl) (Nat.le_of_ble_eq_true rfl) ⟨_, rfl, ⟨rfl, by unfold rmH; first | rw [if_neg (by have := (barI_le (by omega)).mp c48; omega), ← e2] | rw [if_pos (by have := mt (barI_le (by omega)).mpr c48; omega), ← e2, ← bar_pred (fun z => c48 ((barI_le (by omega)).mpr z))]⟩⟩ dX0_removeFirst_62
    · refine r_aload_n (pc := 51) C dX0_removeFirst_51 rfl rfl ?_
      refine r_dup (pc := 52) C dX0_removeFirst_52 rfl ?_
      refine r_getIe (pc := 53) C fl_X0_21 (show hS h1 a = _ from o0') rfl u5 dX0_removeFirst_53 ?_
      refine r_iconst (pc := 56) (v := (nI 1)) C dX0_removeFirst_56 (by decide) ?_
      refine r_isub (pc := 57) C dX0_removeFirst_57 ?_
      refine r_putI (pc := 58) C fl_X0_21 (show hS h1 a = _ from o0') rfl rfl rfl rfl dX0_removeFirst_58 ?_
      refine r_iload_n (pc := 61) C dX0_removeFirst_61 rfl rfl ?_
      exact r_iret (pc := 62) C rfl (Nat.le_of_ble_eq_true rfl) (Nat.le_of_ble_eq_true rfl) ⟨_, rfl, ⟨rfl, by unfold rmH; first | rw [if_neg (by have := (barI_le (by omega)).mp c48; omega), ← e2] | rw [if_pos (by have := mt (barI_le (by omega)).mpr c48; omega), ← e2, ← bar_pred (fun z => c48 ((barI_le (by omega)).mpr z))]⟩⟩ dX0_removeFirst_62
  cases l with
  | nil =>
    refine r_aload_n (pc := 0) C dX0_removeFirst_0 rfl rfl ?_
    refine r_getIe (pc := 1) C fl_X0_9 o0 rfl f02 dX0_removeFirst_1 ?_
    refine r_istore_n (pc := 4) (lv' := [_, _]) C dX0_removeFirst_4 rfl (by decide) rfl rfl ?_
    refine r_iload_n (pc := 5) C dX0_removeFirst_5 rfl rfl ?_
    refine r_iconst (pc := 6) (v := (-1)) C dX0_removeFirst_6 (by decide) ?_
    refine r_icmp_ne (pc := 7) (tgt := 12) C dX0_removeFirst_7 (by decide) (fun c7 => ?_) (fun c7 => absurd c7 (fun z => nI_m1 (by omega) z))
    refine r_aload_n (pc := 12) C dX0_removeFirst_12 rfl rfl ?_
    refine r_aload_n (pc := 13) C dX0_removeFirst_13 rfl rfl ?_
    refine r_iload_n (pc := 14) C dX0_removeFirst_14 rfl rfl ?_
    refine r_calli (cr_V (pc := 15) C (c_X0_rowBehind o0 r01 s01 hr hv) dX0_removeFirst_15 cm_X0_rowBehind ml_X0_38 im_X0_rowBehind se_X0_rowBehind o0 rfl ⟨⟨Nat.le_of_ble_eq_true rfl, Nat.le_of_ble_eq_true rfl⟩, Nat.le_of_ble_eq_true rfl, Nat.le_of_ble_eq_true rfl⟩ rfl rfl (Nat.le_of_ble_eq_true rfl)) (fun v15 h15 hq15 => ?_)
    obtain ⟨rfl, rfl⟩ := hq15
    refine r_putI (pc := 18) C fl_X0_9 o0 rfl rfl rfl rfl dX0_removeFirst_18 ?_
    refine r_aload_n (pc := 21) C dX0_removeFirst_21 rfl rfl ?_
    refine r_getIe (pc := 22) C fl_X0_9 o0 rfl (show hI (pI _ a 2 (fsI [])) a 2 = -1 from (by rw [hI_eq, up_s]; rfl)) dX0_removeFirst_22 ?_
    refine r_iconst (pc := 25) (v := (-1)) C dX0_removeFirst_25 (by decide) ?_
    refine r_icmp_ne (pc := 26) (tgt := 34) C dX0_removeFirst_26 (by decide) (fun c26 => absurd c26 (fun z => z rfl)) (fun c26 => ?_)
    refine r_aload_n (pc := 29) C dX0_removeFirst_29 rfl rfl ?_
    refine r_iconst (pc := 30) (v := (-1)) C dX0_removeFirst_30 (by decide) ?_
    refine r_putI (pc := 31) C fl_X0_15 o0 rfl rfl rfl rfl dX0_removeFirst_31 ?_
    refine t34 _ rfl ?_ ?_ (if_pos rfl).symm
    · rw [hI_eq, up_ne (by decide), hI_eq, up_ne (by decide)]; exact f04
    · rw [hI_eq, up_ne (by decide), hI_eq, up_ne (by decide)]; exact f05
  | cons s l =>
    have hs := hl s List.mem_cons_self
    refine r_aload_n (pc := 0) C dX0_removeFirst_0 rfl rfl ?_
    refine r_getIe (pc := 1) C fl_X0_9 o0 rfl f02 dX0_removeFirst_1 ?_
    refine r_istore_n (pc := 4) (lv' := [_, _]) C dX0_removeFirst_4 rfl (by decide) rfl rfl ?_
    refine r_iload_n (pc := 5) C dX0_removeFirst_5 rfl rfl ?_
    refine r_iconst (pc := 6) (v := (-1)) C dX0_removeFirst_6 (by decide) ?_
    refine r_icmp_ne (pc := 7) (tgt := 12) C dX0_removeFirst_7 (by decide) (fun c7 => ?_) (fun c7 => absurd c7 (fun z => nI_m1 (by omega) z))
    refine r_aload_n (pc := 12) C dX0_removeFirst_12 rfl rfl ?_
    refine r_aload_n (pc := 13) C dX0_removeFirst_13 rfl rfl ?_
    refine r_iload_n (pc := 14) C dX0_removeFirst_14 rfl rfl ?_
    refine r_calli (cr_V (pc := 15) C (c_X0_rowBehind o0 r01 s01 hr hv) dX0_removeFirst_15 cm_X0_rowBehind ml_X0_38 im_X0_rowBehind se_X0_rowBehind o0 rfl ⟨⟨Nat.le_of_ble_eq_true rfl, Nat.le_of_ble_eq_true rfl⟩, Nat.le_of_ble_eq_true rfl, Nat.le_of_ble_eq_true rfl⟩ rfl rfl (Nat.le_of_ble_eq_true rfl)) (fun v15 h15 hq15 => ?_)
    obtain ⟨rfl, rfl⟩ := hq15
    refine r_putI (pc := 18) C fl_X0_9 o0 rfl rfl rfl rfl dX0_removeFirst_18 ?_
    refine r_aload_n (pc := 21) C dX0_removeFirst_21 rfl rfl ?_
    refine r_getIe (pc := 22) C fl_X0_9 o0 rfl (show hI (pI _ a 2 (fsI (s :: l))) a 2 = nI s from (by rw [hI_eq, up_s]; rfl)) dX0_removeFirst_22 ?_
    refine r_iconst (pc := 25) (v := (-1)) C dX0_removeFirst_25 (by decide) ?_
    refine r_icmp_ne (pc := 26) (tgt := 34) C dX0_removeFirst_26 (by decide) (fun c26 => ?_) (fun c26 => absurd c26 (fun z => nI_m1 (by omega) z))
    refine t34 _ rfl ?_ ?_ (if_neg (List.cons_ne_nil _ _)).symm
    · rw [hI_eq, up_ne (by decide)]; exact f04
    · rw [hI_eq, up_ne (by decide)]; exact f05
theorem c_X0_empty {G : GP} {h : AH} {a : Nat} (o0 : hS h a = (0, 0)) : MA G mX0_empty 0 0 0 [.ref a] h (Ov (fun h' => h' = pI (pI (pI h a 2 (-1)) a 3 (-1)) a 4 (nI 0))) := by
  refine MA.intro (lv := [some (.ref a)]) (by decide) (Nat.le_of_ble_eq_true rfl) rfl (fun F C => ?_)
  refine r_aload_n (pc := 0) C dX0_empty_0 rfl rfl ?_
  refine r_iconst (pc := 1) (v := (-1)) C dX0_empty_1 (by decide) ?_
  refine r_putI (pc := 2) C fl_X0_9 o0 rfl rfl rfl rfl dX0_empty_2 ?_
  refine r_aload_n (pc := 5) C dX0_empty_5 rfl rfl ?_
  refine r_iconst (pc := 6) (v := (-1)) C dX0_empty_6 (by decide) ?_
  refine r_putI (pc := 7) C fl_X0_15 o0 rfl rfl rfl rfl dX0_empty_7 ?_
  refine r_aload_n (pc := 10) C dX0_empty_10 rfl rfl ?_
  refine r_iconst (pc := 11) (v := (nI 0)) C dX0_empty_11 (by decide) ?_
  refine r_putI (pc := 12) C fl_X0_18 o0 rfl rfl rfl rfl dX0_empty_12 ?_
  exact r_vret (pc := 15) C rfl (Nat.le_of_ble_eq_true rfl) (Nat.le_of_ble_eq_true rfl) ⟨rfl, rfl⟩ dX0_empty_15
theorem c_X0_forgetMark {G : GP} {h : AH} {a : Nat} (o0 : hS h a = (0, 0)) : MA G mX0_forgetMark 0 0 0 [.ref a] h (Ov (fun h' => h' = pI (pI (pI h a 5 (-1)) a 6 (nI 0)) a 7 (nI 0))) := by
  refine MA.intro (lv := [some (.ref a)]) (by decide) (Nat.le_of_ble_eq_true rfl) rfl (fun F C => ?_)
  refine r_aload_n (pc := 0) C dX0_forgetMark_0 rfl rfl ?_
  refine r_iconst (pc := 1) (v := (-1)) C dX0_forgetMark_1 (by decide) ?_
  refine r_putI (pc := 2) C fl_X0_21 o0 rfl rfl rfl rfl dX0_forgetMark_2 ?_
  refine r_aload_n (pc := 5) C dX0_forgetMark_5 rfl rfl ?_
  refine r_iconst (pc := 6) (v := (nI 0)) C dX0_forgetMark_6 (by decide) ?_
  refine r_putI (pc := 7) C fl_X0_24 o0 rfl rfl rfl rfl dX0_forgetMark_7 ?_
  refine r_aload_n (pc := 10) C dX0_forgetMark_10 rfl rfl ?_
  refine r_iconst (pc := 11) (v := (nI 0)) C dX0_forgetMark_11 (by decide) ?_
  refine r_putI (pc := 12) C fl_X0_28 o0 rfl rfl rfl rfl dX0_forgetMark_12 ?_
  exact r_vret (pc := 15) C rfl (Nat.le_of_ble_eq_true rfl) (Nat.le_of_ble_eq_true rfl) ⟨rfl, rfl⟩ dX0_forgetMark_15
