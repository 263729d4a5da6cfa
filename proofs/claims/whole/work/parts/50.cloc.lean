/-! ===== the class: its smallest methods ===== -/
theorem ltI {x : Int32} {n : Nat} (hn : n < 2147483648) : inN x n ↔ ¬ x < nI 0 ∧ x < nI n := by
  constructor
  · rintro ⟨j, hj, rfl⟩
    exact ⟨nI_pos (by omega), (nI_ltI (by omega) hn).mpr hj⟩
  · rintro ⟨h1, h2⟩
    obtain ⟨j, hj, rfl⟩ := nI_of h1
    exact ⟨j, (nI_ltI hj hn).mp h2, rfl⟩
theorem inN_ok {j n : Nat} (h : j < n) : inN (nI j) n := ⟨j, h, rfl⟩
theorem inN_lt {j n : Nat} (hj : j < 2147483648) (hn : n < 2147483648) (h : inN (nI j) n) : j < n := by
  obtain ⟨i, hi, e⟩ := h
  rw [nI_in2 hj (by omega) e]; exact hi
theorem m1_no {n : Nat} (hn : n < 2147483648) : ¬ inN (-1) n := fun ⟨j, hj, e⟩ => nI_m1 (by omega) e.symm
theorem c_X5_isKey {G : GP} (h : AH) (x : Int32) : MA G mX5_isKey 0 0 0 [.int x] h (Oi (fun v h' => v = bI (inN x 16) ∧ h' = h)) := by
  refine MA.intro (lv := [some (.int x)]) (by decide) (Nat.le_of_ble_eq_true rfl) rfl (fun F C => ?_)
  refine r_iload_n (pc := 0) C dX5_isKey_0 rfl rfl ?_
  refine r_if_lt (pc := 1) (tgt := 14) C dX5_isKey_1 (by decide) (fun c1 => ?_) (fun c1 => ?_)
  · refine r_iconst (pc := 14) (v := (nI 0)) C dX5_isKey_14 (by decide) ?_
    exact r_zret (pc := 15) C rfl (by first | exact bI_01 | exact Or.inl rfl | exact Or.inr rfl) (Nat.le_of_ble_eq_true rfl) (Nat.le_of_ble_eq_true rfl) ⟨_, rfl, ⟨by first | exact tt1 ((ltI (by decide)).mpr ⟨c1, Int32.not_le.mp c7⟩) | exact ff0 (fun z => ((ltI (by decide)).mp z).1 c1) | exact ff0 (fun z => Int32.not_lt.mpr c7 ((ltI (by decide)).mp z).2), rfl⟩⟩ dX5_isKey_15
  · refine r_iload_n (pc := 4) C dX5_isKey_4 rfl rfl ?_
    refine r_bipush (pc := 5) (v := (nI 16)) C dX5_isKey_5 (by decide) ?_
    refine r_icmp_ge (pc := 7) (tgt := 14) C dX5_isKey_7 (by decide) (fun c7 => ?_) (fun c7 => ?_)
    · refine r_iconst (pc := 14) (v := (nI 0)) C dX5_isKey_14 (by decide) ?_
      exact r_zret (pc := 15) C rfl (by first | exact bI_01 | exact Or.inl rfl | exact Or.inr rfl) (Nat.le_of_ble_eq_true rfl) (Nat.le_of_ble_eq_true rfl) ⟨_, rfl, ⟨by first | exact tt1 ((ltI (by decide)).mpr ⟨c1, Int32.not_le.mp c7⟩) | exact ff0 (fun z => ((ltI (by decide)).mp z).1 c1) | exact ff0 (fun z => Int32.not_lt.mpr c7 ((ltI (by decide)).mp z).2), rfl⟩⟩ dX5_isKey_15
    · refine r_iconst (pc := 10) (v := (nI 1)) C dX5_isKey_10 (by decide) ?_
      refine r_goto (pc := 11) (tgt := 15) C dX5_isKey_11 (by decide) ?_
      exact r_zret (pc := 15) C rfl (by first | exact bI_01 | exact Or.inl rfl | exact Or.inr rfl) (Nat.le_of_ble_eq_true rfl) (Nat.le_of_ble_eq_true rfl) ⟨_, rfl, ⟨by first | exact tt1 ((ltI (by decide)).mpr ⟨c1, Int32.not_le.mp c7⟩) | exact ff0 (fun z => ((ltI (by decide)).mp z).1 c1) | exact ff0 (fun z => Int32.not_lt.mpr c7 ((ltI (by decide)).mp z).2), rfl⟩⟩ dX5_isKey_15
theorem c_X5_isRow {G : GP} (h : AH) (x : Int32) : MA G mX5_isRow 0 0 0 [.int x] h (Oi (fun v h' => v = bI (inN x 200) ∧ h' = h)) := by
  refine MA.intro (lv := [some (.int x)]) (by decide) (Nat.le_of_ble_eq_true rfl) rfl (fun F C => ?_)
  refine r_iload_n (pc := 0) C dX5_isRow_0 rfl rfl ?_
  refine r_if_lt (pc := 1) (tgt := 15) C dX5_isRow_1 (by decide) (fun c1 => ?_) (fun c1 => ?_)
  · refine r_iconst (pc := 15) (v := (nI 0)) C dX5_isRow_15 (by decide) ?_
    exact r_zret (pc := 16) C rfl (by first | exact bI_01 | exact Or.inl rfl | exact Or.inr rfl) (Nat.le_of_ble_eq_true rfl) (Nat.le_of_ble_eq_true rfl) ⟨_, rfl, ⟨by first | exact tt1 ((ltI (by decide)).mpr ⟨c1, Int32.not_le.mp c8⟩) | exact ff0 (fun z => ((ltI (by decide)).mp z).1 c1) | exact ff0 (fun z => Int32.not_lt.mpr c8 ((ltI (by decide)).mp z).2), rfl⟩⟩ dX5_isRow_16
  · refine r_iload_n (pc := 4) C dX5_isRow_4 rfl rfl ?_
    refine r_sipush (pc := 5) (v := (nI 200)) C dX5_isRow_5 (by decide) ?_
    refine r_icmp_ge (pc := 8) (tgt := 15) C dX5_isRow_8 (by decide) (fun c8 => ?_) (fun c8 => ?_)
    · refine r_iconst (pc := 15) (v := (nI 0)) C dX5_isRow_15 (by decide) ?_
      exact r_zret (pc := 16) C rfl (by first | exact bI_01 | exact Or.inl rfl | exact Or.inr rfl) (Nat.le_of_ble_eq_true rfl) (Nat.le_of_ble_eq_true rfl) ⟨_, rfl, ⟨by first | exact tt1 ((ltI (by decide)).mpr ⟨c1, Int32.not_le.mp c8⟩) | exact ff0 (fun z => ((ltI (by decide)).mp z).1 c1) | exact ff0 (fun z => Int32.not_lt.mpr c8 ((ltI (by decide)).mp z).2), rfl⟩⟩ dX5_isRow_16
    · refine r_iconst (pc := 11) (v := (nI 1)) C dX5_isRow_11 (by decide) ?_
      refine r_goto (pc := 12) (tgt := 16) C dX5_isRow_12 (by decide) ?_
      exact r_zret (pc := 16) C rfl (by first | exact bI_01 | exact Or.inl rfl | exact Or.inr rfl) (Nat.le_of_ble_eq_true rfl) (Nat.le_of_ble_eq_true rfl) ⟨_, rfl, ⟨by first | exact tt1 ((ltI (by decide)).mpr ⟨c1, Int32.not_le.mp c8⟩) | exact ff0 (fun z => ((ltI (by decide)).mp z).1 c1) | exact ff0 (fun z => Int32.not_lt.mpr c8 ((ltI (by decide)).mp z).2), rfl⟩⟩ dX5_isRow_16
theorem c_X5_isWidth {G : GP} (h : AH) (x : Int32) : MA G mX5_isWidth 0 0 0 [.int x] h (Oi (fun v h' => v = bI (nI 1 ≤ x ∧ x ≤ nI 4) ∧ h' = h)) := by
  refine MA.intro (lv := [some (.int x)]) (by decide) (Nat.le_of_ble_eq_true rfl) rfl (fun F C => ?_)
  refine r_iload_n (pc := 0) C dX5_isWidth_0 rfl rfl ?_
  refine r_iconst (pc := 1) (v := (nI 1)) C dX5_isWidth_1 (by decide) ?_
  refine r_icmp_lt (pc := 2) (tgt := 14) C dX5_isWidth_2 (by decide) (fun c2 => ?_) (fun c2 => ?_)
  · refine r_iconst (pc := 14) (v := (nI 0)) C dX5_isWidth_14 (by decide) ?_
    exact r_zret (pc := 15) C rfl (by first | exact bI_01 | exact Or.inl rfl | exact Or.inr rfl) (Nat.le_of_ble_eq_true rfl) (Nat.le_of_ble_eq_true rfl) ⟨_, rfl, ⟨by first | exact tt1 ⟨Int32.not_lt.mp c2, Int32.not_lt.mp c7⟩ | exact ff0 (fun z => Int32.not_lt.mpr z.1 c2) | exact ff0 (fun z => Int32.not_lt.mpr z.2 c7), rfl⟩⟩ dX5_isWidth_15
  · refine r_iload_n (pc := 5) C dX5_isWidth_5 rfl rfl ?_
    refine r_iconst (pc := 6) (v := (nI 4)) C dX5_isWidth_6 (by decide) ?_
    refine r_icmp_gt (pc := 7) (tgt := 14) C dX5_isWidth_7 (by decide) (fun c7 => ?_) (fun c7 => ?_)
    · refine r_iconst (pc := 14) (v := (nI 0)) C dX5_isWidth_14 (by decide) ?_
      exact r_zret (pc := 15) C rfl (by first | exact bI_01 | exact Or.inl rfl | exact Or.inr rfl) (Nat.le_of_ble_eq_true rfl) (Nat.le_of_ble_eq_true rfl) ⟨_, rfl, ⟨by first | exact tt1 ⟨Int32.not_lt.mp c2, Int32.not_lt.mp c7⟩ | exact ff0 (fun z => Int32.not_lt.mpr z.1 c2) | exact ff0 (fun z => Int32.not_lt.mpr z.2 c7), rfl⟩⟩ dX5_isWidth_15
    · refine r_iconst (pc := 10) (v := (nI 1)) C dX5_isWidth_10 (by decide) ?_
      refine r_goto (pc := 11) (tgt := 15) C dX5_isWidth_11 (by decide) ?_
      exact r_zret (pc := 15) C rfl (by first | exact bI_01 | exact Or.inl rfl | exact Or.inr rfl) (Nat.le_of_ble_eq_true rfl) (Nat.le_of_ble_eq_true rfl) ⟨_, rfl, ⟨by first | exact tt1 ⟨Int32.not_lt.mp c2, Int32.not_lt.mp c7⟩ | exact ff0 (fun z => Int32.not_lt.mpr z.1 c2) | exact ff0 (fun z => Int32.not_lt.mpr z.2 c7), rfl⟩⟩ dX5_isWidth_15
theorem c_X5_numberOf {G : GP} (h : AH) (g f q : Nat) : MA G mX5_numberOf 0 0 0 [.int (nI g), .int (nI f), .int (nI q)] h (Oi (fun v h' => v = nI (16 * g + 4 * f + q) ∧ h' = h)) := by
  refine MA.intro (lv := [some (.int (nI g)), some (.int (nI f)), some (.int (nI q))]) (by decide) (Nat.le_of_ble_eq_true rfl) rfl (fun F C => ?_)
  refine r_iload_n (pc := 0) C dX5_numberOf_0 rfl rfl ?_
  refine r_bipush (pc := 1) (v := (nI 16)) C dX5_numberOf_1 (by decide) ?_
  refine n_imul (pc := 3) C dX5_numberOf_3 ?_
  refine r_iload_n (pc := 4) C dX5_numberOf_4 rfl rfl ?_
  refine r_iconst (pc := 5) (v := (nI 4)) C dX5_numberOf_5 (by decide) ?_
  refine n_imul (pc := 6) C dX5_numberOf_6 ?_
  refine n_iadd (pc := 7) C dX5_numberOf_7 ?_
  refine r_iload_n (pc := 8) C dX5_numberOf_8 rfl rfl ?_
  refine n_iadd (pc := 9) C dX5_numberOf_9 ?_
  exact r_iret (pc := 10) C rfl (Nat.le_of_ble_eq_true rfl) (Nat.le_of_ble_eq_true rfl) ⟨_, rfl, ⟨by rw [Nat.mul_comm 16 g, Nat.mul_comm 4 f], rfl⟩⟩ dX5_numberOf_10
theorem c_X5_gapOf {G : GP} (h : AH) (g : Nat) (hg : g < 2147483648) : MA G mX5_gapOf 0 0 0 [.int (nI g)] h (Oi (fun v h' => v = nI (g / 16) ∧ h' = h)) := by
  refine MA.intro (lv := [some (.int (nI g))]) (by decide) (Nat.le_of_ble_eq_true rfl) rfl (fun F C => ?_)
  refine r_iload_n (pc := 0) C dX5_gapOf_0 rfl rfl ?_
  refine r_bipush (pc := 1) (v := (nI 16)) C dX5_gapOf_1 (by decide) ?_
  refine n_idiv (pc := 3) C (by omega) (by omega) (by omega) dX5_gapOf_3 ?_
  exact r_iret (pc := 4) C rfl (Nat.le_of_ble_eq_true rfl) (Nat.le_of_ble_eq_true rfl) ⟨_, rfl, ⟨rfl, rfl⟩⟩ dX5_gapOf_4
/-- whose KEY k is, of n tasks -/
def ownI (k n : Nat) : Int32 := if n = 0 then -1 else nI (k % n)
theorem c_X5_owner {G : GP} (h : AH) (k n : Nat) (hk : k < 2147483648) (hn : n < 2147483648) : MA G mX5_owner 0 0 0 [.int (nI k), .int (nI n)] h (Oi (fun v h' => v = ownI k n ∧ h' = h)) := by
  refine MA.intro (lv := [some (.int (nI k)), some (.int (nI n))]) (by decide) (Nat.le_of_ble_eq_true rfl) rfl (fun F C => ?_)
  refine r_iload_n (pc := 0) C dX5_owner_0 rfl rfl ?_
  refine n_if_lt (pc := 1) (tgt := 9) C (by omega) dX5_owner_1 (by decide) ?_
  refine r_iload_n (pc := 4) C dX5_owner_4 rfl rfl ?_
  refine r_iconst (pc := 5) (v := (nI 1)) C dX5_owner_5 (by decide) ?_
  refine n_icmp_ge (pc := 6) (tgt := 13) C (by omega) (by omega) dX5_owner_6 (by decide) (fun c6 => ?_) (fun c6 => ?_)
  · refine r_iload_n (pc := 13) C dX5_owner_13 rfl rfl ?_
    refine r_iload_n (pc := 14) C dX5_owner_14 rfl rfl ?_
    refine n_irem (pc := 15) C (by omega) (by omega) (by omega) dX5_owner_15 ?_
    exact r_iret (pc := 16) C rfl (Nat.le_of_ble_eq_true rfl) (Nat.le_of_ble_eq_true rfl) ⟨_, rfl, ⟨by unfold ownI; first | rw [if_neg (by omega)] | rw [if_pos (by omega)], rfl⟩⟩ dX5_owner_16
  · refine r_iconst (pc := 9) (v := (-1)) C dX5_owner_9 (by decide) ?_
    refine r_goto (pc := 10) (tgt := 16) C dX5_owner_10 (by decide) ?_
    exact r_iret (pc := 16) C rfl (Nat.le_of_ble_eq_true rfl) (Nat.le_of_ble_eq_true rfl) ⟨_, rfl, ⟨by unfold ownI; first | rw [if_neg (by omega)] | rw [if_pos (by omega)], rfl⟩⟩ dX5_owner_16
def rndI (k n : Nat) : Nat := if n = 0 then 0 else k % n
theorem c_X5_around {G : GP} (h : AH) (k n : Nat) (hk : k < 2147483648) (hn : n < 2147483648) : MA G mX5_around 0 0 0 [.int (nI k), .int (nI n)] h (Oi (fun v h' => v = nI (rndI k n) ∧ h' = h)) := by
  refine MA.intro (lv := [some (.int (nI k)), some (.int (nI n))]) (by decide) (Nat.le_of_ble_eq_true rfl) rfl (fun F C => ?_)
  refine r_iload_n (pc := 0) C dX5_around_0 rfl rfl ?_
  refine n_if_lt (pc := 1) (tgt := 9) C (by omega) dX5_around_1 (by decide) ?_
  refine r_iload_n (pc := 4) C dX5_around_4 rfl rfl ?_
  refine r_iconst (pc := 5) (v := (nI 1)) C dX5_around_5 (by decide) ?_
  refine n_icmp_ge (pc := 6) (tgt := 13) C (by omega) (by omega) dX5_around_6 (by decide) (fun c6 => ?_) (fun c6 => ?_)
  · refine r_iload_n (pc := 13) C dX5_around_13 rfl rfl ?_
    refine r_iload_n (pc := 14) C dX5_around_14 rfl rfl ?_
    refine n_irem (pc := 15) C (by omega) (by omega) (by omega) dX5_around_15 ?_
    exact r_iret (pc := 16) C rfl (Nat.le_of_ble_eq_true rfl) (Nat.le_of_ble_eq_true rfl) ⟨_, rfl, ⟨by unfold rndI; first | rw [if_neg (by omega)] | rw [if_pos (by omega)], rfl⟩⟩ dX5_around_16
  · refine r_iconst (pc := 9) (v := (nI 0)) C dX5_around_9 (by decide) ?_
    refine r_goto (pc := 10) (tgt := 16) C dX5_around_10 (by decide) ?_
    exact r_iret (pc := 16) C rfl (Nat.le_of_ble_eq_true rfl) (Nat.le_of_ble_eq_true rfl) ⟨_, rfl, ⟨by unfold rndI; first | rw [if_neg (by omega)] | rw [if_pos (by omega)], rfl⟩⟩ dX5_around_16
theorem MA.introF {G : GP} {M : MD} {h : AH} {lv : List (Option Value)} {k mc ms : Nat} {As : List Value} {Qa : Option Value → AH → Prop} (hy : plainFor M.1 = true) (hn : (lg_sl As).length ≤ M.2.2.1) (he : lvE As M.2.2.1 = lv) (body : ∀ F : FX, CX G F M (Rm k mc ms) → WA G F M h 0 0 (MQA G F mc ms Qa) 0 lv []) : MA G M k mc ms As h Qa := by
  subst he
  unfold MA Met
  refine MetFree.of_bodySF (code := M.2.1) (maxLocals := M.2.2.1) (ret := M.2.2.2) hy ?_ ?_
  · intro args s m h hn
    obtain ⟨meth, c, h1, h2, h3, h4, h5, h6, -, -⟩ := Cond.code_spec hn (atoms_spec (ws := wsM M) h _ List.mem_cons_self)
    exact ⟨meth, c, h1, h2, h3, h4, h5, h6⟩
  · intro p e s m args below meth c s₁ B hml hv _
    have hh0 : s₁.heap = s.heap := by rw [B.state]; rfl
    obtain ⟨rfl, hp, hK⟩ := hv
    have hts := atoms_spec (ws := wsM M) B.pre
    have hlv := LV.entry As hn
    rw [lg_entry_eq]
    obtain ⟨t, a1, o, b1, b2, b3⟩ := body (p, e, (headSpec (wsM M) (Rm k mc ms)).room, s, m, As.toArray, below, meth, c) ⟨B.exec, B.bytes, hml, B.returns, findClass_of_methodNamed B.named, fun w hw => hts w (List.mem_cons_of_mem _ hw), B.notSynchronized, (name_of_methodNamed B.named B.method).1, rfl, hK⟩ s.heap [] _ hp (fun q h => by cases h) hlv s₁ hh0 (Stand.of_body B)
    exact ⟨t, o, a1, b1, b2, ⟨b3.1, b3.2⟩⟩
theorem c_J9_max {G : GP} (h : AH) (x y : Int32) : MA G mJ9_max_7cf53 0 0 0 [.int x, .int y] h (Oi (fun v h' => v = (if x < y then y else x) ∧ h' = h)) := by
  refine MA.introF (lv := [some (.int x), some (.int y)]) (by decide +kernel) (Nat.le_of_ble_eq_true rfl) rfl (fun F C => ?_)
  refine r_iload_n (pc := 0) C dJ9_max_7cf53_0 rfl rfl ?_
  refine r_iload_n (pc := 1) C dJ9_max_7cf53_1 rfl rfl ?_
  refine r_icmp_lt (pc := 2) (tgt := 9) C dJ9_max_7cf53_2 (by decide) (fun c2 => ?_) (fun c2 => ?_)
  · refine r_iload_n (pc := 9) C dJ9_max_7cf53_9 rfl rfl ?_
    exact r_iret (pc := 10) C rfl (Nat.le_of_ble_eq_true rfl) (Nat.le_of_ble_eq_true rfl) ⟨_, rfl, ⟨by first | rw [if_pos c2] | rw [if_neg c2], rfl⟩⟩ dJ9_max_7cf53_10
  · refine r_iload_n (pc := 5) C dJ9_max_7cf53_5 rfl rfl ?_
    refine r_goto (pc := 6) (tgt := 10) C dJ9_max_7cf53_6 (by decide) ?_
    exact r_iret (pc := 10) C rfl (Nat.le_of_ble_eq_true rfl) (Nat.le_of_ble_eq_true rfl) ⟨_, rfl, ⟨by first | rw [if_pos c2] | rw [if_neg c2], rfl⟩⟩ dJ9_max_7cf53_10
theorem c_J9_min {G : GP} (h : AH) (x y : Int32) : MA G mJ9_min_7cf53 0 0 0 [.int x, .int y] h (Oi (fun v h' => v = (if y < x then y else x) ∧ h' = h)) := by
  refine MA.introF (lv := [some (.int x), some (.int y)]) (by decide +kernel) (Nat.le_of_ble_eq_true rfl) rfl (fun F C => ?_)
  refine r_iload_n (pc := 0) C dJ9_min_7cf53_0 rfl rfl ?_
  refine r_iload_n (pc := 1) C dJ9_min_7cf53_1 rfl rfl ?_
  refine r_icmp_gt (pc := 2) (tgt := 9) C dJ9_min_7cf53_2 (by decide) (fun c2 => ?_) (fun c2 => ?_)
  · refine r_iload_n (pc := 9) C dJ9_min_7cf53_9 rfl rfl ?_
    exact r_iret (pc := 10) C rfl (Nat.le_of_ble_eq_true rfl) (Nat.le_of_ble_eq_true rfl) ⟨_, rfl, ⟨by first | rw [if_pos c2] | rw [if_neg c2], rfl⟩⟩ dJ9_min_7cf53_10
  · refine r_iload_n (pc := 5) C dJ9_min_7cf53_5 rfl rfl ?_
    refine r_goto (pc := 6) (tgt := 10) C dJ9_min_7cf53_6 (by decide) ?_
    exact r_iret (pc := 10) C rfl (Nat.le_of_ble_eq_true rfl) (Nat.le_of_ble_eq_true rfl) ⟨_, rfl, ⟨by first | rw [if_pos c2] | rw [if_neg c2], rfl⟩⟩ dJ9_min_7cf53_10
/-- only numbers change, of cells that P names -/
def Fq (P : Nat → Prop) (h h' : AH) : Prop := hN h' = hN h ∧ hS h' = hS h ∧ hR h' = hR h ∧ ∀ a, ¬ P a → hI h' a = hI h a ∧ hL h' a = hL h a
theorem Fq.rf {P : Nat → Prop} {h : AH} : Fq P h h := ⟨rfl, rfl, rfl, fun _ _ => ⟨rfl, rfl⟩⟩
theorem Fq.tr {P : Nat → Prop} {h h1 h2 : AH} (a : Fq P h h1) (b : Fq P h1 h2) : Fq P h h2 := ⟨b.1.trans a.1, b.2.1.trans a.2.1, b.2.2.1.trans a.2.2.1, fun x hx => ⟨(b.2.2.2 x hx).1.trans (a.2.2.2 x hx).1, (b.2.2.2 x hx).2.trans (a.2.2.2 x hx).2⟩⟩
theorem Fq.pI {P : Nat → Prop} {a k : Nat} {v : Int32} {h h1 : AH} (f : Fq P h h1) (ha : P a) : Fq P h (pI h1 a k v) := f.tr ⟨rfl, rfl, rfl, fun x hx => ⟨hI_ne (fun e => hx (e ▸ ha)), rfl⟩⟩
theorem Fq.pL {P : Nat → Prop} {a k : Nat} {v : Int64} {h h1 : AH} (f : Fq P h h1) (ha : P a) : Fq P h (pL h1 a k v) := f.tr ⟨rfl, rfl, rfl, fun x hx => ⟨rfl, hL_ne (fun e => hx (e ▸ ha))⟩⟩
theorem Fq.wd {P P' : Nat → Prop} {h h1 : AH} (f : Fq P h h1) (hp : ∀ a, P a → P' a) : Fq P' h h1 := ⟨f.1, f.2.1, f.2.2.1, fun x hx => f.2.2.2 x (fun z => hx (hp x z))⟩
section FL50
variable {G : GP} {F : FX} {Q : State → Prop}
theorem fill_l {h0 : AH} {a n : Nat} {v : Int32} (C : CX G F mJ7_fill_53178 (Rm 0 0 0)) (hs : hS h0 a = (1, n)) (hn : n < 100000) (kk : ∀ h x2, Fq (fun z => z = a) h0 h → (∀ i, i < n → hI h a i = v) → WA G F mJ7_fill_53178 h 0 0 Q 20 [some (.ref a), some (.int v), some (.int x2), some (.int (nI n))] []) :
    ∀ (k i : Nat) (h : AH), i + k = n → Fq (fun z => z = a) h0 h → (∀ j, j < i → hI h a j = v) → WA G F mJ7_fill_53178 h 0 0 Q 5 [some (.ref a), some (.int v), some (.int (nI i)), some (.int (nI n))] [] := by
  intro k
  induction k with
  | zero =>
    intro i h hi hf hj
    refine r_iload_n (pc := 5) C dJ7_fill_53178_5 rfl rfl ?_
    refine r_iload_n (pc := 6) C dJ7_fill_53178_6 rfl rfl ?_
    refine n_icmp_ge (pc := 7) (tgt := 20) C (by omega) (by omega) dJ7_fill_53178_7 (by decide) (fun c7 => ?_) (fun c7 => absurd c7 (by omega))
    exact kk h _ hf (fun j hj' => hj j (by omega))
  | succ k ih =>
    intro i h hi hf hj
    have hsh : hS h a = (1, n) := by rw [hf.2.1]; exact hs
    refine r_iload_n (pc := 5) C dJ7_fill_53178_5 rfl rfl ?_
    refine r_iload_n (pc := 6) C dJ7_fill_53178_6 rfl rfl ?_
    refine n_icmp_ge (pc := 7) (tgt := 20) C (by omega) (by omega) dJ7_fill_53178_7 (by decide) (fun c7 => absurd c7 (by omega)) (fun c7 => ?_)
    refine r_aload_n (pc := 10) C dJ7_fill_53178_10 rfl rfl ?_
    refine r_iload_n (pc := 11) C dJ7_fill_53178_11 rfl rfl ?_
    refine r_iload_n (pc := 12) C dJ7_fill_53178_12 rfl rfl ?_
    refine n_iast (pc := 13) C hsh (by omega) dJ7_fill_53178_13 ?_ (by omega)
    refine n_iinc (pc := 14) (lv' := [_, _, _, _]) C dJ7_fill_53178_14 rfl (by decide) rfl rfl ?_
    refine r_goto (pc := 17) (tgt := 5) C dJ7_fill_53178_17 (by decide) ?_
    refine ih (i + 1) _ (by omega) (hf.pI rfl) (fun j hj' => ?_)
    rw [hI_eq]
    unfold va_up
    split
    · rfl
    · exact hj j (by omega)
theorem filll_l {h0 : AH} {a n : Nat} {v : Int64} (C : CX G F mJ7_fill_d0a16 (Rm 0 0 0)) (hs : hS h0 a = (2, n)) (hn : n < 100000) (kk : ∀ h x2, Fq (fun z => z = a) h0 h → (∀ i, i < n → hL h a i = v) → WA G F mJ7_fill_d0a16 h 0 0 Q 22 [some (.ref a), some (.long v), none, some (.int x2), some (.int (nI n))] []) :
    ∀ (k i : Nat) (h : AH), i + k = n → Fq (fun z => z = a) h0 h → (∀ j, j < i → hL h a j = v) → WA G F mJ7_fill_d0a16 h 0 0 Q 6 [some (.ref a), some (.long v), none, some (.int (nI i)), some (.int (nI n))] [] := by
  intro k
  induction k with
  | zero =>
    intro i h hi hf hj
    refine r_iload_n (pc := 6) C dJ7_fill_d0a16_6 rfl rfl ?_
    refine r_iload (pc := 7) C dJ7_fill_d0a16_7 rfl ?_
    refine n_icmp_ge (pc := 9) (tgt := 22) C (by omega) (by omega) dJ7_fill_d0a16_9 (by decide) (fun c9 => ?_) (fun c9 => absurd c9 (by omega))
    exact kk h _ hf (fun j hj' => hj j (by omega))
  | succ k ih =>
    intro i h hi hf hj
    have hsh : hS h a = (2, n) := by rw [hf.2.1]; exact hs
    refine r_iload_n (pc := 6) C dJ7_fill_d0a16_6 rfl rfl ?_
    refine r_iload (pc := 7) C dJ7_fill_d0a16_7 rfl ?_
    refine n_icmp_ge (pc := 9) (tgt := 22) C (by omega) (by omega) dJ7_fill_d0a16_9 (by decide) (fun c9 => absurd c9 (by omega)) (fun c9 => ?_)
    refine r_aload_n (pc := 12) C dJ7_fill_d0a16_12 rfl rfl ?_
    refine r_iload_n (pc := 13) C dJ7_fill_d0a16_13 rfl rfl ?_
    refine r_lload_n (pc := 14) C dJ7_fill_d0a16_14 rfl rfl ?_
    refine n_last (pc := 15) C hsh (by omega) dJ7_fill_d0a16_15 ?_ (by omega)
    refine n_iinc (pc := 16) (lv' := [_, _, _, _, _]) C dJ7_fill_d0a16_16 rfl (by decide) rfl rfl ?_
    refine r_goto (pc := 19) (tgt := 6) C dJ7_fill_d0a16_19 (by decide) ?_
    refine ih (i + 1) _ (by omega) (hf.pL rfl) (fun j hj' => ?_)
    rw [hL_eq]
    unfold va_up
    split
    · rfl
    · exact hj j (by omega)
end FL50
theorem c_J7_fill {G : GP} {h : AH} {a n : Nat} {v : Int32} (hs : hS h a = (1, n)) (hn : n < 100000) : MA G mJ7_fill_53178 0 0 0 [.ref a, .int v] h (Ov (fun h' => Fq (fun z => z = a) h h' ∧ ∀ i, i < n → hI h' a i = v)) := by
  refine MA.introF (lv := [some (.ref a), some (.int v), none, none]) (by decide +kernel) (Nat.le_of_ble_eq_true rfl) rfl (fun F C => ?_)
  refine r_iconst (pc := 0) (v := (nI 0)) C dJ7_fill_53178_0 (by decide) ?_
  refine r_istore_n (pc := 1) (lv' := [_, _, _, _]) C dJ7_fill_53178_1 rfl (by decide) rfl rfl ?_
  refine r_aload_n (pc := 2) C dJ7_fill_53178_2 rfl rfl ?_
  refine r_alen (pc := 3) C hs (by decide) (by decide) dJ7_fill_53178_3 ?_
  refine r_istore_n (pc := 4) (lv' := [_, _, _, _]) C dJ7_fill_53178_4 rfl (by decide) rfl rfl ?_
  refine fill_l C hs hn (fun h1 x2 f1 f2 => ?_) n 0 h (Nat.zero_add _) Fq.rf (fun j hj => absurd hj (Nat.not_lt_zero j))
  exact r_vret (pc := 20) C rfl (Nat.le_refl _) (Nat.le_refl _) ⟨rfl, f1, f2⟩ dJ7_fill_53178_20
theorem c_J7_filll {G : GP} {h : AH} {a n : Nat} {v : Int64} (hs : hS h a = (2, n)) (hn : n < 100000) : MA G mJ7_fill_d0a16 0 0 0 [.ref a, .long v] h (Ov (fun h' => Fq (fun z => z = a) h h' ∧ ∀ i, i < n → hL h' a i = v)) := by
  refine MA.introF (lv := [some (.ref a), some (.long v), none, none, none]) (by decide +kernel) (Nat.le_of_ble_eq_true rfl) rfl (fun F C => ?_)
  refine r_iconst (pc := 0) (v := (nI 0)) C dJ7_fill_d0a16_0 (by decide) ?_
  refine r_istore_n (pc := 1) (lv' := [_, _, _, _, _]) C dJ7_fill_d0a16_1 rfl (by decide) rfl rfl ?_
  refine r_aload_n (pc := 2) C dJ7_fill_d0a16_2 rfl rfl ?_
  refine r_alen (pc := 3) C hs (by decide) (by decide) dJ7_fill_d0a16_3 ?_
  refine r_istore (pc := 4) (lv' := [_, _, _, _, _]) C dJ7_fill_d0a16_4 (by decide) rfl rfl ?_
  refine filll_l C hs hn (fun h1 x2 f1 f2 => ?_) n 0 h (Nat.zero_add _) Fq.rf (fun j hj => absurd hj (Nat.not_lt_zero j))
  exact r_vret (pc := 22) C rfl (Nat.le_refl _) (Nat.le_refl _) ⟨rfl, f1, f2⟩ dJ7_fill_d0a16_22
theorem kl_1 : Cond.methodLink RJ7 316 ⟨"[I", "clone", "()Ljava/lang/Object;"⟩ ∈ GW := gw_of 444 (by decide +kernel) rfl
theorem kl_2 : Cond.sameMethod "[I" "java/lang/Object" "clone" "()Ljava/lang/Object;" ∈ GW := gw_of 445 (by decide +kernel) rfl
theorem kl_3 : Cond.native ⟨"java/lang/Object", "clone", "()Ljava/lang/Object;"⟩ ∈ GW := gw_of 446 (by decide +kernel) rfl
theorem kl_4 : Cond.instanceMethod ⟨"java/lang/Object", "clone", "()Ljava/lang/Object;"⟩ ∈ GW := gw_of 447 (by decide +kernel) rfl
theorem kl_5 : Cond.selects "[I" ⟨"[I", "clone", "()Ljava/lang/Object;"⟩ ⟨"java/lang/Object", "clone", "()Ljava/lang/Object;"⟩ ∈ GW := gw_of 448 (by decide +kernel) rfl
theorem kl_6 : Cond.castable "[I" "java/lang/Cloneable" ∈ NW := nw_of 449 (by decide +kernel) rfl
theorem ay_1 : Cond.methodLink RX3 30 arraycopyName ∈ GW := gw_of 509 (by decide +kernel) rfl
theorem ay_2 : Cond.native arraycopyName ∈ GW := gw_of 454 (by decide +kernel) rfl
theorem ay_3 : Cond.static arraycopyName ∈ GW := gw_of 453 (by decide +kernel) rfl
theorem ay_4 : Cond.initialized "java/lang/System" ∈ GW := gw_of 61 (by decide +kernel) rfl
theorem c_J7_copyOf {G : GP} {h : AH} {a : Nat} (hs : hS h a = (1, 4)) : MA G mJ7_copyOf_59c91 1 1 4 [.ref a, .int (nI 4)] h (Oq (fun o h' => o = some (hN h) ∧ h' = pIs (hnew h (1, 4)) (hN h) (hI h a))) := by
  refine MA.introF (lv := [some (.ref a), some (.int (nI 4)), none]) (by decide +kernel) (Nat.le_of_ble_eq_true rfl) rfl (fun F C => ?_)
  refine r_iload_n (pc := 0) C dJ7_copyOf_59c91_0 rfl rfl ?_
  refine r_aload_n (pc := 1) C dJ7_copyOf_59c91_1 rfl rfl ?_
  refine r_alen (pc := 2) C hs (by decide) (by decide) dJ7_copyOf_59c91_2 ?_
  refine n_icmp_ne (pc := 3) (tgt := 14) C (by omega) (by omega) dJ7_copyOf_59c91_3 (by decide) (fun c3 => absurd c3 (fun z => z rfl)) (fun c3 => ?_)
  refine r_aload_n (pc := 6) C dJ7_copyOf_59c91_6 rfl rfl ?_
  refine r_clone (pc := 7) C hs kl_1 kl_2 kl_3 kl_4 kl_5 kl_6 (by decide) (by decide) (by decide) (by decide) dJ7_copyOf_59c91_7 ?_
  refine r_castA (pc := 10) C (show hS (hnew h (1, 4)) (hN h) = (1, 4) from if_pos rfl) cl_J7_317 dJ7_copyOf_59c91_10 ?_
  exact r_aret (pc := 13) (o := some _) C rfl (Or.inr ⟨_, rfl⟩) (Nat.le_of_ble_eq_true rfl) (Nat.le_of_ble_eq_true rfl) ⟨_, rfl, rfl, rfl⟩ dJ7_copyOf_59c91_13
