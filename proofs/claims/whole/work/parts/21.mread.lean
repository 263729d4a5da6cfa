/-! ===== the reference: its small readers ===== -/
/-- x is one of 0 .. n - 1 -/
def inN (x : Int32) (n : Nat) : Prop := ∃ j, j < n ∧ x = nI j
theorem inN_iff {x : Int32} {n : Nat} (h0 : 0 < n) (hn : n < 2147483648) : (nI 0 ≤ x ∧ x ≤ nI (n - 1)) ↔ inN x n := by
  constructor
  · rintro ⟨h1, h2⟩
    have h3 : ¬ x < 0 := by rw [nI_0] at h1; exact Int32.not_lt.mpr h1
    obtain ⟨j, hj, rfl⟩ := nI_of h3
    rw [nI_leI hj (by omega)] at h2
    exact ⟨j, by omega, rfl⟩
  · rintro ⟨j, hj, rfl⟩
    exact ⟨by rw [nI_leI (by decide) (by omega)]; omega, by rw [nI_leI (by omega) (by omega)]; omega⟩
theorem inN_cl {x : Int32} {n : Nat} (h : inN x n) (hn : n < 2147483648) : x.toNatClampNeg < n ∧ x = nI x.toNatClampNeg := by
  obtain ⟨j, hj, rfl⟩ := h
  rw [nI_clamp (by omega)]
  exact ⟨hj, rfl⟩
theorem uwm1 {u : Nat} (h : u < 2147483648) : nI u - 1 = -1 ↔ u = 0 := by
  constructor
  · intro e
    cases u with
    | zero => rfl
    | succ v => rw [nI_pred] at e; exact absurd e (nI_m1 (by omega))
  · rintro rfl; decide
theorem uwS {u j : Nat} (h : u = j + 1) : nI u - 1 = nI j := by rw [h]; exact nI_pred j
theorem uw0 {u : Nat} (h : u = 0) : nI u - 1 = -1 := by rw [h]; decide
/-- the numbers keep to their bounds -/
def TB (t : TS) : Prop := (2 ≤ tN t 0 0 ∧ tN t 0 0 ≤ 4) ∧ (∀ s, s < 4 → 1 ≤ tN t 1 s ∧ tN t 1 s ≤ 4) ∧ (1 ≤ tN t 0 1 ∧ tN t 0 1 ≤ 20) ∧ tN t 0 2 ≤ 200 ∧ tN t 0 3 ≤ 200 ∧ tN t 0 4 ≤ 8 ∧ tN t 0 5 ≤ tN t 0 4 ∧ (∀ i, tN t 2 i ≤ 15) ∧ (∀ j, tN t 3 j ≤ 200) ∧ (∀ c, tN t 4 c ≤ (tC t c).length + 1) ∧ (∀ j, tN t 5 j ≤ 1 ∧ tN t 6 j ≤ 1 ∧ tN t 7 j ≤ 1 ∧ tN t 12 j ≤ 1) ∧ (∀ q, tN t 8 q ≤ 3) ∧ (∀ j, tN t 9 j ≤ 3) ∧ (∀ j, tN t 10 j ≤ 4) ∧ (∀ j, tN t 11 j ≤ 200) ∧ (∀ c, (tC t c).length ≤ 200) ∧ (∀ j, (tK t j).length ≤ 200) ∧ (∀ c r, r ∈ tC t c → r < tN t 0 3) ∧ (∀ j q, q ∈ tK t j → q.1 < 48 ∧ q.2 < tN t 0 3)
section TBs
variable {t : TS}
theorem TB.S (B : TB t) : 2 ≤ tN t 0 0 ∧ tN t 0 0 ≤ 4 := B.1
theorem TB.P (B : TB t) {s : Nat} (h : s < 4) : 1 ≤ tN t 1 s ∧ tN t 1 s ≤ 4 := B.2.1 s h
theorem TB.cap (B : TB t) : 1 ≤ tN t 0 1 ∧ tN t 0 1 ≤ 20 := B.2.2.1
theorem TB.lim (B : TB t) : tN t 0 2 ≤ 200 := B.2.2.2.1
theorem TB.fed (B : TB t) : tN t 0 3 ≤ 200 := B.2.2.2.2.1
theorem TB.marks (B : TB t) : tN t 0 4 ≤ 8 := B.2.2.2.2.2.1
theorem TB.uw (B : TB t) : tN t 0 5 ≤ tN t 0 4 := B.2.2.2.2.2.2.1
theorem TB.key (B : TB t) (i : Nat) : tN t 2 i ≤ 15 := B.2.2.2.2.2.2.2.1 i
theorem TB.many (B : TB t) (i : Nat) : tN t 3 i ≤ 200 := B.2.2.2.2.2.2.2.2.1 i
theorem TB.bar (B : TB t) (i : Nat) : tN t 4 i ≤ (tC t i).length + 1 := B.2.2.2.2.2.2.2.2.2.1 i
theorem TB.bool (B : TB t) (i : Nat) : tN t 5 i ≤ 1 ∧ tN t 6 i ≤ 1 ∧ tN t 7 i ≤ 1 ∧ tN t 12 i ≤ 1 := B.2.2.2.2.2.2.2.2.2.2.1 i
theorem TB.next (B : TB t) (i : Nat) : tN t 8 i ≤ 3 := B.2.2.2.2.2.2.2.2.2.2.2.1 i
theorem TB.stat (B : TB t) (i : Nat) : tN t 9 i ≤ 3 := B.2.2.2.2.2.2.2.2.2.2.2.2.1 i
theorem TB.thn (B : TB t) (i : Nat) : tN t 10 i ≤ 4 := B.2.2.2.2.2.2.2.2.2.2.2.2.2.1 i
theorem TB.kmany (B : TB t) (i : Nat) : tN t 11 i ≤ 200 := B.2.2.2.2.2.2.2.2.2.2.2.2.2.2.1 i
theorem TB.len (B : TB t) (i : Nat) : (tC t i).length ≤ 200 := B.2.2.2.2.2.2.2.2.2.2.2.2.2.2.2.1 i
theorem TB.klen (B : TB t) (i : Nat) : (tK t i).length ≤ 200 := B.2.2.2.2.2.2.2.2.2.2.2.2.2.2.2.2.1 i
theorem TB.row (B : TB t) {c r : Nat} (h : r ∈ tC t c) : r < tN t 0 3 := B.2.2.2.2.2.2.2.2.2.2.2.2.2.2.2.2.2.1 c r h
theorem TB.krow (B : TB t) {j : Nat} {q : Nat × Nat} (h : q ∈ tK t j) : q.1 < 48 ∧ q.2 < tN t 0 3 := B.2.2.2.2.2.2.2.2.2.2.2.2.2.2.2.2.2.2 j q h
end TBs
theorem c_X6_in {G : GP} (h : AH) (x l g : Int32) : MA G mX6_in 0 0 0 [.int x, .int l, .int g] h (Oi (fun v h' => v = bI (l ≤ x ∧ x ≤ g) ∧ h' = h)) := by
  refine MA.intro (lv := [some (.int x), some (.int l), some (.int g)]) (by decide) (Nat.le_of_ble_eq_true rfl) rfl (fun F C => ?_)
  refine r_iload_n (pc := 0) C dX6_in_0 rfl rfl ?_
  refine r_iload_n (pc := 1) C dX6_in_1 rfl rfl ?_
  refine r_icmp_lt (pc := 2) (tgt := 14) C dX6_in_2 (by decide) (fun c2 => ?_) (fun c2 => ?_)
  · refine r_iconst (pc := 14) (v := (nI 0)) C dX6_in_14 (by decide) ?_
    exact r_zret (pc := 15) C rfl (by first | exact bI_01 | exact Or.inl rfl | exact Or.inr rfl) (Nat.le_of_ble_eq_true rfl) (Nat.le_of_ble_eq_true rfl) ⟨_, rfl, ⟨by first | exact tt1 ⟨Int32.not_lt.mp c2, Int32.not_lt.mp c7⟩ | exact ff0 (fun q => absurd c2 (Int32.not_lt.mpr q.1)) | exact ff0 (fun q => absurd c7 (Int32.not_lt.mpr q.2)), rfl⟩⟩ dX6_in_15
  · refine r_iload_n (pc := 5) C dX6_in_5 rfl rfl ?_
    refine r_iload_n (pc := 6) C dX6_in_6 rfl rfl ?_
    refine r_icmp_gt (pc := 7) (tgt := 14) C dX6_in_7 (by decide) (fun c7 => ?_) (fun c7 => ?_)
    · refine r_iconst (pc := 14) (v := (nI 0)) C dX6_in_14 (by decide) ?_
      exact r_zret (pc := 15) C rfl (by first | exact bI_01 | exact Or.inl rfl | exact Or.inr rfl) (Nat.le_of_ble_eq_true rfl) (Nat.le_of_ble_eq_true rfl) ⟨_, rfl, ⟨by first | exact tt1 ⟨Int32.not_lt.mp c2, Int32.not_lt.mp c7⟩ | exact ff0 (fun q => absurd c2 (Int32.not_lt.mpr q.1)) | exact ff0 (fun q => absurd c7 (Int32.not_lt.mpr q.2)), rfl⟩⟩ dX6_in_15
    · refine r_iconst (pc := 10) (v := (nI 1)) C dX6_in_10 (by decide) ?_
      refine r_goto (pc := 11) (tgt := 15) C dX6_in_11 (by decide) ?_
      exact r_zret (pc := 15) C rfl (by first | exact bI_01 | exact Or.inl rfl | exact Or.inr rfl) (Nat.le_of_ble_eq_true rfl) (Nat.le_of_ble_eq_true rfl) ⟨_, rfl, ⟨by first | exact tt1 ⟨Int32.not_lt.mp c2, Int32.not_lt.mp c7⟩ | exact ff0 (fun q => absurd c2 (Int32.not_lt.mpr q.1)) | exact ff0 (fun q => absurd c7 (Int32.not_lt.mpr q.2)), rfl⟩⟩ dX6_in_15
theorem c_X6_at {G : GP} (h : AH) (g f q : Nat) : MA G mX6_at 0 0 0 [.int (nI g), .int (nI f), .int (nI q)] h (Oi (fun v h' => v = nI (16 * g + 4 * f + q) ∧ h' = h)) := by
  refine MA.intro (lv := [some (.int (nI g)), some (.int (nI f)), some (.int (nI q))]) (by decide) (Nat.le_of_ble_eq_true rfl) rfl (fun F C => ?_)
  refine r_bipush (pc := 0) (v := (nI 16)) C dX6_at_0 (by decide) ?_
  refine r_iload_n (pc := 2) C dX6_at_2 rfl rfl ?_
  refine n_imul (pc := 3) C dX6_at_3 ?_
  refine r_iconst (pc := 4) (v := (nI 4)) C dX6_at_4 (by decide) ?_
  refine r_iload_n (pc := 5) C dX6_at_5 rfl rfl ?_
  refine n_imul (pc := 6) C dX6_at_6 ?_
  refine n_iadd (pc := 7) C dX6_at_7 ?_
  refine r_iload_n (pc := 8) C dX6_at_8 rfl rfl ?_
  refine n_iadd (pc := 9) C dX6_at_9 ?_
  exact r_iret (pc := 10) C rfl (Nat.le_of_ble_eq_true rfl) (Nat.le_of_ble_eq_true rfl) ⟨_, rfl, ⟨rfl, rfl⟩⟩ dX6_at_10
theorem c_X6_isStage {G : GP} {m : Nat} {t : TS} {h : AH} (E : RM m t h) (B : TB t) (x : Int32) : MA G mX6_isStage 1 0 0 [.ref m, .int x] h (Oi (fun v h' => v = bI (inN x (tN t 0 0)) ∧ h' = h)) := by
  have b1 := B.S
  refine MA.intro (lv := [some (.ref m), some (.int x)]) (by decide) (Nat.le_of_ble_eq_true rfl) rfl (fun F C => ?_)
  refine r_iload_n (pc := 0) C dX6_isStage_0 rfl rfl ?_
  refine r_iconst (pc := 1) (v := (nI 0)) C dX6_isStage_1 (by decide) ?_
  refine r_aload_n (pc := 2) C dX6_isStage_2 rfl rfl ?_
  refine r_getIe (pc := 3) C fl_X6_91 E.L.o rfl E.S dX6_isStage_3 ?_
  refine r_iconst (pc := 6) (v := (nI 1)) C dX6_isStage_6 (by decide) ?_
  refine n_isub (pc := 7) C (by omega) dX6_isStage_7 ?_
  refine r_calli (cr_S (pc := 8) C (c_X6_in _ _ _ _) dX6_isStage_8 cm_X6_in ml_X6_94 st_X6_in ⟨⟨Nat.le_of_ble_eq_true rfl, Nat.le_of_ble_eq_true rfl⟩, Nat.le_of_ble_eq_true rfl, Nat.le_of_ble_eq_true rfl⟩ rfl rfl (Nat.le_of_ble_eq_true rfl)) (fun v8 h8 hq8 => ?_)
  obtain ⟨rfl, rfl⟩ := hq8
  exact r_zret (pc := 11) C rfl (by first | exact bI_01 | exact Or.inl rfl | exact Or.inr rfl) (Nat.le_of_ble_eq_true rfl) (Nat.le_of_ble_eq_true rfl) ⟨_, rfl, ⟨bI_congr (inN_iff (by omega) (by omega)), rfl⟩⟩ dX6_isStage_11
theorem inN_iff0 {x : Int32} {n : Nat} (hn : n < 2147483648) : (nI 0 ≤ x ∧ x ≤ nI n - nI 1) ↔ inN x n := by
  rcases Nat.eq_zero_or_pos n with h0 | h0
  · subst h0
    constructor
    · rintro ⟨h1, h2⟩
      have : nI 0 ≤ nI 0 - nI 1 := Int32.le_trans h1 h2
      exact absurd this (by decide)
    · rintro ⟨j, hj, -⟩; exact absurd hj (by omega)
  · rw [pk_sub (by omega)]
    exact inN_iff h0 hn
theorem c_X6_isMark {G : GP} {m : Nat} {t : TS} {h : AH} (E : RM m t h) (B : TB t) (x : Int32) : MA G mX6_isMark 1 0 0 [.ref m, .int x] h (Oi (fun v h' => v = bI (inN x (tN t 0 4)) ∧ h' = h)) := by
  have b1 := B.marks
  refine MA.intro (lv := [some (.ref m), some (.int x)]) (by decide) (Nat.le_of_ble_eq_true rfl) rfl (fun F C => ?_)
  refine r_iload_n (pc := 0) C dX6_isMark_0 rfl rfl ?_
  refine r_iconst (pc := 1) (v := (nI 0)) C dX6_isMark_1 (by decide) ?_
  refine r_aload_n (pc := 2) C dX6_isMark_2 rfl rfl ?_
  refine r_getIe (pc := 3) C fl_X6_105 E.L.o rfl E.marks dX6_isMark_3 ?_
  refine r_iconst (pc := 6) (v := (nI 1)) C dX6_isMark_6 (by decide) ?_
  refine r_isub (pc := 7) C dX6_isMark_7 ?_
  refine r_calli (cr_S (pc := 8) C (c_X6_in _ _ _ _) dX6_isMark_8 cm_X6_in ml_X6_94 st_X6_in ⟨⟨Nat.le_of_ble_eq_true rfl, Nat.le_of_ble_eq_true rfl⟩, Nat.le_of_ble_eq_true rfl, Nat.le_of_ble_eq_true rfl⟩ rfl rfl (Nat.le_of_ble_eq_true rfl)) (fun v8 h8 hq8 => ?_)
  obtain ⟨rfl, rfl⟩ := hq8
  exact r_zret (pc := 11) C rfl (by first | exact bI_01 | exact Or.inl rfl | exact Or.inr rfl) (Nat.le_of_ble_eq_true rfl) (Nat.le_of_ble_eq_true rfl) ⟨_, rfl, ⟨bI_congr (inN_iff0 (by omega)), rfl⟩⟩ dX6_isMark_11
/-- a task, a channel, by numbers -/
def inT (t : TS) (x y : Int32) : Prop := ∃ s, s < tN t 0 0 ∧ x = nI s ∧ inN y (tN t 1 s)
def inC (t : TS) (x y z : Int32) : Prop := ∃ g, g + 1 < tN t 0 0 ∧ x = nI g ∧ inN y (tN t 1 g) ∧ inN z (tN t 1 (g + 1))
theorem nI_in2 {a b : Nat} (ha : a < 2147483648) (hb : b < 2147483648) (h : nI a = nI b) : a = b := (nI_eq ha hb).mp h
theorem c_X6_isTask {G : GP} {m : Nat} {t : TS} {h : AH} (E : RM m t h) (B : TB t) (x y : Int32) : MA G mX6_isTask 2 0 0 [.ref m, .int x, .int y] h (Oi (fun v h' => v = bI (inT t x y) ∧ h' = h)) := by
  have b1 := B.S
  refine MA.intro (lv := [some (.ref m), some (.int x), some (.int y)]) (by decide) (Nat.le_of_ble_eq_true rfl) rfl (fun F C => ?_)
  refine r_aload_n (pc := 0) C dX6_isTask_0 rfl rfl ?_
  refine r_iload_n (pc := 1) C dX6_isTask_1 rfl rfl ?_
  refine r_calli (cr_V (pc := 2) C (c_X6_isStage E B _) dX6_isTask_2 cm_X6_isStage ml_X6_98 im_X6_isStage se_X6_isStage E.L.o rfl ⟨⟨Nat.le_of_ble_eq_true rfl, Nat.le_of_ble_eq_true rfl⟩, Nat.le_of_ble_eq_true rfl, Nat.le_of_ble_eq_true rfl⟩ rfl rfl (Nat.le_of_ble_eq_true rfl)) (fun v2 h2 hq2 => ?_)
  obtain ⟨rfl, rfl⟩ := hq2
  refine b_if_eq (pc := 5) (tgt := 28) C dX6_isTask_5 (by decide) (fun c5 => ?_) (fun c5 => ?_)
  · have z : ¬ inT t x y := fun ⟨s, hs, e, _⟩ => c5 ⟨s, hs, e⟩
    refine r_iconst (pc := 28) (v := (nI 0)) C dX6_isTask_28 (by decide) ?_
    exact r_zret (pc := 29) C rfl (by first | exact bI_01 | exact Or.inl rfl | exact Or.inr rfl) (Nat.le_of_ble_eq_true rfl) (Nat.le_of_ble_eq_true rfl) ⟨_, rfl, ⟨by first | exact tt1 z | exact ff0 z, rfl⟩⟩ dX6_isTask_29
  · obtain ⟨s, hs, rfl⟩ := c5
    have b2 := B.P (s := s) (by omega)
    refine r_iload_n (pc := 8) C dX6_isTask_8 rfl rfl ?_
    refine r_iconst (pc := 9) (v := (nI 0)) C dX6_isTask_9 (by decide) ?_
    refine r_aload_n (pc := 10) C dX6_isTask_10 rfl rfl ?_
    refine r_getR (pc := 11) C fl_X6_7 E.L.o rfl E.L.r1 dX6_isTask_11 ?_
    refine r_iload_n (pc := 14) C dX6_isTask_14 rfl rfl ?_
    refine n_iald (pc := 15) C E.L.s1 (by omega) (E.k_P _ (by omega)) dX6_isTask_15 ?_
    refine r_iconst (pc := 16) (v := (nI 1)) C dX6_isTask_16 (by decide) ?_
    refine n_isub (pc := 17) C (by omega) dX6_isTask_17 ?_
    refine r_calli (cr_S (pc := 18) C (c_X6_in _ _ _ _) dX6_isTask_18 cm_X6_in ml_X6_94 st_X6_in ⟨⟨Nat.le_of_ble_eq_true rfl, Nat.le_of_ble_eq_true rfl⟩, Nat.le_of_ble_eq_true rfl, Nat.le_of_ble_eq_true rfl⟩ rfl rfl (Nat.le_of_ble_eq_true rfl)) (fun v18 h18 hq18 => ?_)
    obtain ⟨rfl, rfl⟩ := hq18
    rw [bI_congr (inN_iff (by omega) (by omega))]
    refine b_if_eq (pc := 21) (tgt := 28) C dX6_isTask_21 (by decide) (fun c21 => ?_) (fun c21 => ?_)
    · have z : ¬ inT t (nI s) y := fun ⟨s', hs', e, k⟩ => c21 (by rw [nI_in2 (by omega) (by omega) e]; exact k)
      refine r_iconst (pc := 28) (v := (nI 0)) C dX6_isTask_28 (by decide) ?_
      exact r_zret (pc := 29) C rfl (by first | exact bI_01 | exact Or.inl rfl | exact Or.inr rfl) (Nat.le_of_ble_eq_true rfl) (Nat.le_of_ble_eq_true rfl) ⟨_, rfl, ⟨by first | exact tt1 z | exact ff0 z, rfl⟩⟩ dX6_isTask_29
    · have z : inT t (nI s) y := ⟨s, hs, rfl, c21⟩
      refine r_iconst (pc := 24) (v := (nI 1)) C dX6_isTask_24 (by decide) ?_
      refine r_goto (pc := 25) (tgt := 29) C dX6_isTask_25 (by decide) ?_
      exact r_zret (pc := 29) C rfl (by first | exact bI_01 | exact Or.inl rfl | exact Or.inr rfl) (Nat.le_of_ble_eq_true rfl) (Nat.le_of_ble_eq_true rfl) ⟨_, rfl, ⟨by first | exact tt1 z | exact ff0 z, rfl⟩⟩ dX6_isTask_29
theorem c_X6_isChannel {G : GP} {m : Nat} {t : TS} {h : AH} (E : RM m t h) (B : TB t) (x y w : Int32) : MA G mX6_isChannel 1 0 0 [.ref m, .int x, .int y, .int w] h (Oi (fun v h' => v = bI (inC t x y w) ∧ h' = h)) := by
  have b1 := B.S
  refine MA.intro (lv := [some (.ref m), some (.int x), some (.int y), some (.int w)]) (by decide) (Nat.le_of_ble_eq_true rfl) rfl (fun F C => ?_)
  refine r_iload_n (pc := 0) C dX6_isChannel_0 rfl rfl ?_
  refine r_iconst (pc := 1) (v := (nI 0)) C dX6_isChannel_1 (by decide) ?_
  refine r_aload_n (pc := 2) C dX6_isChannel_2 rfl rfl ?_
  refine r_getIe (pc := 3) C fl_X6_91 E.L.o rfl E.S dX6_isChannel_3 ?_
  refine r_iconst (pc := 6) (v := (nI 2)) C dX6_isChannel_6 (by decide) ?_
  refine n_isub (pc := 7) C (by omega) dX6_isChannel_7 ?_
  refine r_calli (cr_S (pc := 8) C (c_X6_in _ _ _ _) dX6_isChannel_8 cm_X6_in ml_X6_94 st_X6_in ⟨⟨Nat.le_of_ble_eq_true rfl, Nat.le_of_ble_eq_true rfl⟩, Nat.le_of_ble_eq_true rfl, Nat.le_of_ble_eq_true rfl⟩ rfl rfl (Nat.le_of_ble_eq_true rfl)) (fun v8 h8 hq8 => ?_)
  obtain ⟨rfl, rfl⟩ := hq8
  rw [show tN t 0 0 - 2 = tN t 0 0 - 1 - 1 from rfl, bI_congr (inN_iff (by omega) (by omega))]
  refine b_if_eq (pc := 11) (tgt := 52) C dX6_isChannel_11 (by decide) (fun c11 => ?_) (fun c11 => ?_)
  · have z : ¬ inC t x y w := fun ⟨s, hs, e, _⟩ => c11 ⟨s, by omega, e⟩
    refine r_iconst (pc := 52) (v := (nI 0)) C dX6_isChannel_52 (by decide) ?_
    exact r_zret (pc := 53) C rfl (by first | exact bI_01 | exact Or.inl rfl | exact Or.inr rfl) (Nat.le_of_ble_eq_true rfl) (Nat.le_of_ble_eq_true rfl) ⟨_, rfl, ⟨by first | exact tt1 z | exact ff0 z, rfl⟩⟩ dX6_isChannel_53
  · obtain ⟨s, hs, rfl⟩ := c11
    have b2 := B.P (s := s) (by omega)
    have b3 := B.P (s := s + 1) (by omega)
    refine r_iload_n (pc := 14) C dX6_isChannel_14 rfl rfl ?_
    refine r_iconst (pc := 15) (v := (nI 0)) C dX6_isChannel_15 (by decide) ?_
    refine r_aload_n (pc := 16) C dX6_isChannel_16 rfl rfl ?_
    refine r_getR (pc := 17) C fl_X6_7 E.L.o rfl E.L.r1 dX6_isChannel_17 ?_
    refine r_iload_n (pc := 20) C dX6_isChannel_20 rfl rfl ?_
    refine n_iald (pc := 21) C E.L.s1 (by omega) (E.k_P _ (by omega)) dX6_isChannel_21 ?_
    refine r_iconst (pc := 22) (v := (nI 1)) C dX6_isChannel_22 (by decide) ?_
    refine n_isub (pc := 23) C (by omega) dX6_isChannel_23 ?_
    refine r_calli (cr_S (pc := 24) C (c_X6_in _ _ _ _) dX6_isChannel_24 cm_X6_in ml_X6_94 st_X6_in ⟨⟨Nat.le_of_ble_eq_true rfl, Nat.le_of_ble_eq_true rfl⟩, Nat.le_of_ble_eq_true rfl, Nat.le_of_ble_eq_true rfl⟩ rfl rfl (Nat.le_of_ble_eq_true rfl)) (fun v24 h24 hq24 => ?_)
    obtain ⟨rfl, rfl⟩ := hq24
    rw [bI_congr (inN_iff (by omega) (by omega))]
    refine b_if_eq (pc := 27) (tgt := 52) C dX6_isChannel_27 (by decide) (fun c27 => ?_) (fun c27 => ?_)
    · have z : ¬ inC t (nI s) y w := fun ⟨s', hs', e, k, _⟩ => c27 (by rw [nI_in2 (by omega) (by omega) e]; exact k)
      refine r_iconst (pc := 52) (v := (nI 0)) C dX6_isChannel_52 (by decide) ?_
      exact r_zret (pc := 53) C rfl (by first | exact bI_01 | exact Or.inl rfl | exact Or.inr rfl) (Nat.le_of_ble_eq_true rfl) (Nat.le_of_ble_eq_true rfl) ⟨_, rfl, ⟨by first | exact tt1 z | exact ff0 z, rfl⟩⟩ dX6_isChannel_53
    · refine r_iload_n (pc := 30) C dX6_isChannel_30 rfl rfl ?_
      refine r_iconst (pc := 31) (v := (nI 0)) C dX6_isChannel_31 (by decide) ?_
      refine r_aload_n (pc := 32) C dX6_isChannel_32 rfl rfl ?_
      refine r_getR (pc := 33) C fl_X6_7 E.L.o rfl E.L.r1 dX6_isChannel_33 ?_
      refine r_iload_n (pc := 36) C dX6_isChannel_36 rfl rfl ?_
      refine r_iconst (pc := 37) (v := (nI 1)) C dX6_isChannel_37 (by decide) ?_
      refine n_iadd (pc := 38) C dX6_isChannel_38 ?_
      refine n_iald (pc := 39) C E.L.s1 (by omega) (E.k_P _ (by omega)) dX6_isChannel_39 ?_
      refine r_iconst (pc := 40) (v := (nI 1)) C dX6_isChannel_40 (by decide) ?_
      refine n_isub (pc := 41) C (by omega) dX6_isChannel_41 ?_
      refine r_calli (cr_S (pc := 42) C (c_X6_in _ _ _ _) dX6_isChannel_42 cm_X6_in ml_X6_94 st_X6_in ⟨⟨Nat.le_of_ble_eq_true rfl, Nat.le_of_ble_eq_true rfl⟩, Nat.le_of_ble_eq_true rfl, Nat.le_of_ble_eq_true rfl⟩ rfl rfl (Nat.le_of_ble_eq_true rfl)) (fun v42 h42 hq42 => ?_)
      obtain ⟨rfl, rfl⟩ := hq42
      rw [bI_congr (inN_iff (by omega) (by omega))]
      refine b_if_eq (pc := 45) (tgt := 52) C dX6_isChannel_45 (by decide) (fun c45 => ?_) (fun c45 => ?_)
      · have z : ¬ inC t (nI s) y w := fun ⟨s', hs', e, _, k⟩ => c45 (by rw [nI_in2 (by omega) (by omega) e]; exact k)
        refine r_iconst (pc := 52) (v := (nI 0)) C dX6_isChannel_52 (by decide) ?_
        exact r_zret (pc := 53) C rfl (by first | exact bI_01 | exact Or.inl rfl | exact Or.inr rfl) (Nat.le_of_ble_eq_true rfl) (Nat.le_of_ble_eq_true rfl) ⟨_, rfl, ⟨by first | exact tt1 z | exact ff0 z, rfl⟩⟩ dX6_isChannel_53
      · have z : inC t (nI s) y w := ⟨s, by omega, rfl, c27, c45⟩
        refine r_iconst (pc := 48) (v := (nI 1)) C dX6_isChannel_48 (by decide) ?_
        refine r_goto (pc := 49) (tgt := 53) C dX6_isChannel_49 (by decide) ?_
        exact r_zret (pc := 53) C rfl (by first | exact bI_01 | exact Or.inl rfl | exact Or.inr rfl) (Nat.le_of_ble_eq_true rfl) (Nat.le_of_ble_eq_true rfl) ⟨_, rfl, ⟨by first | exact tt1 z | exact ff0 z, rfl⟩⟩ dX6_isChannel_53
