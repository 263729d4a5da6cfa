/-! ===== the class: settings, what it tells ===== -/
def unrOK (t : TS) (k u : Nat) : Prop := (u = 0 → cnt t k (tN t 0 3) ≤ tN t 3 k) ∧ ∀ r, u = r + 1 → r < tN t 0 3 ∧ tN t 2 r = k ∧ cnt t k r = tN t 3 k
/-- what the class knows besides is right -/
def Ext (t : TS) (e : ES) : Prop :=
  (∀ k, k < 16 → unrOK t k (xN e 0 k)) ∧ (∀ k, xN e 0 k ≤ 200) ∧
  (∀ c, c < 16 * (tN t 0 0 - 1) → xN e 1 c = if tN t 0 5 = 0 then 0 else tN t 12 (48 * (tN t 0 5 - 1) + c)) ∧
  (∀ s q, s < tN t 0 0 → q < 4 → xN e 2 (4 * s + q) = if s = 0 then 0 else cmN t s q (tN t 1 (s - 1))) ∧
  (∀ j, j < tN t 0 4 → xN e 3 j = lsN t j 48) ∧
  (∀ j, j < tN t 0 4 → ∀ s, s < tN t 0 0 → xN e 4 (4 * j + s) = tN t 10 (4 * j + s)) ∧
  (∀ s q, s < tN t 0 0 → q < 4 → (tN t 7 (4 * s + q) ≠ 0 ↔ (xN e 2 (4 * s + q) ≠ 0 ∧ tN t 6 (4 * s + q) = 0)) ∧ (tN t 7 (4 * s + q) ≠ 0 → xI e 0 (4 * s + q) = tI t 1 (4 * s + q))) ∧
  ∀ j, j < tN t 0 4 → tN t 9 j ≠ 0 → xI e 1 j - tI t 2 j = tI t 3 j
theorem cnt_cg {t t' : TS} (h : tN t' 2 = tN t 2) {k : Nat} : ∀ n, cnt t' k n = cnt t k n
  | 0 => rfl
  | n + 1 => by unfold cnt; rw [cnt_cg h n, h]
theorem cmN_cg {t t' : TS} (h : tN t' 5 = tN t 5) {s q : Nat} : ∀ n, cmN t' s q n = cmN t s q n
  | 0 => rfl
  | n + 1 => by unfold cmN; rw [cmN_cg h n, h]
theorem lsN_cg {t t' : TS} (h : tN t' 12 = tN t 12) {j : Nat} : ∀ n, lsN t' j n = lsN t j n
  | 0 => rfl
  | n + 1 => by unfold lsN; rw [lsN_cg h n, h]
theorem cmN_le {t : TS} (B : TB t) {s q : Nat} : ∀ n, cmN t s q n ≤ n
  | 0 => Nat.le_refl 0
  | n + 1 => by have := cmN_le B (s := s) (q := q) n; have := (B.bool (16 * (s - 1) + 4 * n + q)).1; unfold cmN; omega
theorem Ext.cg {t t' : TS} {e : ES} (H : Ext t e) (h00 : tN t' 0 0 = tN t 0 0) (h03 : tN t' 0 3 = tN t 0 3) (h04 : tN t' 0 4 = tN t 0 4) (h05 : tN t' 0 5 = tN t 0 5) (h1 : tN t' 1 = tN t 1) (h2 : tN t' 2 = tN t 2) (h3 : tN t' 3 = tN t 3) (h5 : tN t' 5 = tN t 5) (h6 : tN t' 6 = tN t 6) (h7 : tN t' 7 = tN t 7) (h9 : tN t' 9 = tN t 9) (h10 : tN t' 10 = tN t 10) (h12 : tN t' 12 = tN t 12) (i1 : tI t' 1 = tI t 1) (i2 : tI t' 2 = tI t 2) (i3 : tI t' 3 = tI t 3) : Ext t' e := by
  obtain ⟨a1, a2, a3, a4, a5, a6, a7, a8⟩ := H
  unfold Ext unrOK
  simp only [cnt_cg h2, cmN_cg h5, lsN_cg h12, h00, h03, h04, h05, h1, h2, h3, h6, h7, h9, h10, h12, i1, i2, i3]
  exact ⟨a1, a2, a3, a4, a5, a6, a7, a8⟩
theorem Ext.cm {t : TS} {e : ES} (H : Ext t e) (B : TB t) {s q : Nat} (hs : s < tN t 0 0) (hq : q < 4) : xN e 2 (4 * s + q) ≤ 4 := by
  have b := B.S
  have b1 := B.P (s := s - 1) (by omega)
  rw [H.2.2.2.1 s q hs hq]
  split
  · omega
  · have := cmN_le B (s := s) (q := q) (tN t 1 (s - 1)); omega
def Px (m : Nat) : Nat → Prop := fun z => z < m ∨ m + 24 ≤ z
/-- what a call of the class answers and leaves -/
def XP (x m : Nat) (h : AH) (r : Int32 × TS) : Int32 → AH → Prop := fun v h' => v = r.1 ∧ (∃ e', RX x m r.2 e' h' ∧ Ext r.2 e') ∧ Fq (Px m) h h'
theorem xp {x m : Nat} {h h' : AH} {r : Int32 × TS} {v : Int32} {t' : TS} {e' : ES} (q : r = (v, t')) (E : RX x m t' e' h') (H : Ext t' e') (f : Fq (Px m) h h') : XP x m h r v h' := by
  subst q; exact ⟨rfl, ⟨e', E, H⟩, f⟩
section CA57
variable {G : GP} {x m : Nat} {t : TS} {e : ES} {h : AH}
theorem RX.lt (E : RX x m t e h) : x + 20 * tN t 0 0 ≤ m := E.L.b.2.2.2
theorem c_X5_capacity (E : RX x m t e h) (B : TB t) (H : Ext t e) (z : Int32) : MA G mX5_capacity 0 0 0 [.ref x, .int z] h (Oi (XP x m h (spCap t z))) := by
  have b := E.L.b
  refine MA.intro (lv := [some (.ref x), some (.int z), none]) (by decide) (Nat.le_of_ble_eq_true rfl) rfl (fun F C => ?_)
  refine r_iload_n (pc := 0) C dX5_capacity_0 rfl rfl ?_
  refine r_iconst (pc := 1) (v := (nI 1)) C dX5_capacity_1 (by decide) ?_
  refine r_icmp_lt (pc := 2) (tgt := 11) C dX5_capacity_2 (by decide) (fun c2 => ?_) (fun c2 => ?_)
  · refine r_bipush (pc := 11) (v := (-102)) C dX5_capacity_11 (by decide) ?_
    exact r_iret (pc := 13) C rfl (Nat.le_of_ble_eq_true rfl) (Nat.le_of_ble_eq_true rfl) ⟨_, rfl, (xp (cif_f (fun q => by first | exact absurd c2 (Int32.not_lt.mpr q.1) | exact c8 q.2)) E H Fq.rf)⟩ dX5_capacity_13
  · refine r_iload_n (pc := 5) C dX5_capacity_5 rfl rfl ?_
    refine r_bipush (pc := 6) (v := (nI 20)) C dX5_capacity_6 (by decide) ?_
    refine r_icmp_le (pc := 8) (tgt := 14) C dX5_capacity_8 (by decide) (fun c8 => ?_) (fun c8 => ?_)
    · have c7 : nI 1 ≤ z ∧ z ≤ nI 20 := ⟨Int32.not_lt.mp c2, c8⟩
      obtain ⟨j, h1, h2, rfl⟩ := inR_of (by decide) c7
      refine r_aload_n (pc := 14) C dX5_capacity_14 rfl rfl ?_
      refine r_getIe (pc := 15) C fl_X5_46 E.L.o rfl E.cap dX5_capacity_15 ?_
      refine r_istore_n (pc := 18) (lv' := [_, _, _]) C dX5_capacity_18 rfl (by decide) rfl rfl ?_
      refine r_aload_n (pc := 19) C dX5_capacity_19 rfl rfl ?_
      refine r_iload_n (pc := 20) C dX5_capacity_20 rfl rfl ?_
      refine r_putI (pc := 21) C fl_X5_46 E.L.o rfl rfl rfl rfl dX5_capacity_21 ?_
      have E := E.p_cap j
      refine r_iload_n (pc := 24) C dX5_capacity_24 rfl rfl ?_
      exact r_iret (pc := 25) C rfl (Nat.le_of_ble_eq_true rfl) (Nat.le_of_ble_eq_true rfl) ⟨_, rfl, (xp ((cif_t c7).trans (by rw [cl (by omega)])) E (H.cg rfl rfl rfl rfl rfl rfl rfl rfl rfl rfl rfl rfl rfl rfl rfl rfl) (Fq.rf.pI (Or.inl (by omega))))⟩ dX5_capacity_25
    · refine r_bipush (pc := 11) (v := (-102)) C dX5_capacity_11 (by decide) ?_
      exact r_iret (pc := 13) C rfl (Nat.le_of_ble_eq_true rfl) (Nat.le_of_ble_eq_true rfl) ⟨_, rfl, (xp (cif_f (fun q => by first | exact absurd c2 (Int32.not_lt.mpr q.1) | exact c8 q.2)) E H Fq.rf)⟩ dX5_capacity_13
theorem c_X5_limit (E : RX x m t e h) (B : TB t) (H : Ext t e) (z : Int32) : MA G mX5_limit 0 0 0 [.ref x, .int z] h (Oi (XP x m h (spLim t z))) := by
  have b := E.L.b
  refine MA.intro (lv := [some (.ref x), some (.int z), none]) (by decide) (Nat.le_of_ble_eq_true rfl) rfl (fun F C => ?_)
  refine r_iload_n (pc := 0) C dX5_limit_0 rfl rfl ?_
  refine r_if_lt (pc := 1) (tgt := 11) C dX5_limit_1 (by decide) (fun c1 => ?_) (fun c1 => ?_)
  · refine r_bipush (pc := 11) (v := (-102)) C dX5_limit_11 (by decide) ?_
    exact r_iret (pc := 13) C rfl (Nat.le_of_ble_eq_true rfl) (Nat.le_of_ble_eq_true rfl) ⟨_, rfl, (xp (cif_f (fun q => by first | exact absurd c1 (Int32.not_lt.mpr q.1) | exact c8 q.2)) E H Fq.rf)⟩ dX5_limit_13
  · refine r_iload_n (pc := 4) C dX5_limit_4 rfl rfl ?_
    refine r_sipush (pc := 5) (v := (nI 200)) C dX5_limit_5 (by decide) ?_
    refine r_icmp_le (pc := 8) (tgt := 14) C dX5_limit_8 (by decide) (fun c8 => ?_) (fun c8 => ?_)
    · have c7 : nI 0 ≤ z ∧ z ≤ nI 200 := ⟨Int32.not_lt.mp c1, c8⟩
      obtain ⟨j, h1, h2, rfl⟩ := inR_of (by decide) c7
      refine r_aload_n (pc := 14) C dX5_limit_14 rfl rfl ?_
      refine r_getIe (pc := 15) C fl_X5_52 E.L.o rfl E.lim dX5_limit_15 ?_
      refine r_istore_n (pc := 18) (lv' := [_, _, _]) C dX5_limit_18 rfl (by decide) rfl rfl ?_
      refine r_aload_n (pc := 19) C dX5_limit_19 rfl rfl ?_
      refine r_iload_n (pc := 20) C dX5_limit_20 rfl rfl ?_
      refine r_putI (pc := 21) C fl_X5_52 E.L.o rfl rfl rfl rfl dX5_limit_21 ?_
      have E := E.p_lim j
      refine r_iload_n (pc := 24) C dX5_limit_24 rfl rfl ?_
      exact r_iret (pc := 25) C rfl (Nat.le_of_ble_eq_true rfl) (Nat.le_of_ble_eq_true rfl) ⟨_, rfl, (xp ((cif_t c7).trans (by rw [cl (by omega)])) E (H.cg rfl rfl rfl rfl rfl rfl rfl rfl rfl rfl rfl rfl rfl rfl rfl rfl) (Fq.rf.pI (Or.inl (by omega))))⟩ dX5_limit_25
    · refine r_bipush (pc := 11) (v := (-102)) C dX5_limit_11 (by decide) ?_
      exact r_iret (pc := 13) C rfl (Nat.le_of_ble_eq_true rfl) (Nat.le_of_ble_eq_true rfl) ⟨_, rfl, (xp (cif_f (fun q => by first | exact absurd c1 (Int32.not_lt.mpr q.1) | exact c8 q.2)) E H Fq.rf)⟩ dX5_limit_13
theorem c_X5_bound (E : RX x m t e h) (B : TB t) (H : Ext t e) (z : Int32) : MA G mX5_bound 0 0 0 [.ref x, .int z] h (Oi (XP x m h (spBnd t z))) := by
  have b := E.L.b
  have b1 := B.marks
  have b2 := B.uw
  refine MA.intro (lv := [some (.ref x), some (.int z), none]) (by decide) (Nat.le_of_ble_eq_true rfl) rfl (fun F C => ?_)
  refine r_iload_n (pc := 0) C dX5_bound_0 rfl rfl ?_
  refine r_iconst (pc := 1) (v := (-1)) C dX5_bound_1 (by decide) ?_
  refine r_icmp_lt (pc := 2) (tgt := 12) C dX5_bound_2 (by decide) (fun c2 => ?_) (fun c2 => ?_)
  · refine r_bipush (pc := 12) (v := (-102)) C dX5_bound_12 (by decide) ?_
    exact r_iret (pc := 14) C rfl (Nat.le_of_ble_eq_true rfl) (Nat.le_of_ble_eq_true rfl) ⟨_, rfl, (xp (cif_f (fun q => by first | exact absurd c2 (Int32.not_lt.mpr q.1) | exact c9 q.2)) E H Fq.rf)⟩ dX5_bound_14
  · refine r_iload_n (pc := 5) C dX5_bound_5 rfl rfl ?_
    refine r_sipush (pc := 6) (v := (nI 1000)) C dX5_bound_6 (by decide) ?_
    refine r_icmp_le (pc := 9) (tgt := 15) C dX5_bound_9 (by decide) (fun c9 => ?_) (fun c9 => ?_)
    · have c7 : -1 ≤ z ∧ z ≤ nI 1000 := ⟨Int32.not_lt.mp c2, c9⟩
      refine r_aload_n (pc := 15) C dX5_bound_15 rfl rfl ?_
      refine r_getIe (pc := 16) C fl_X5_40 E.L.o rfl E.uw dX5_bound_16 ?_
      refine r_iconst (pc := 19) (v := (-1)) C dX5_bound_19 (by decide) ?_
      refine r_icmp_eq (pc := 20) (tgt := 26) C dX5_bound_20 (by decide) (fun c20 => ?_) (fun c20 => ?_)
      · refine r_aload_n (pc := 26) C dX5_bound_26 rfl rfl ?_
        refine r_getIe (pc := 27) C fl_X5_49 E.L.o rfl E.bnd dX5_bound_27 ?_
        refine r_istore_n (pc := 30) (lv' := [_, _, _]) C dX5_bound_30 rfl (by decide) rfl rfl ?_
        refine r_aload_n (pc := 31) C dX5_bound_31 rfl rfl ?_
        refine r_iload_n (pc := 32) C dX5_bound_32 rfl rfl ?_
        refine r_putI (pc := 33) C fl_X5_49 E.L.o rfl rfl rfl rfl dX5_bound_33 ?_
        have E := E.p_bnd z
        refine r_iload_n (pc := 36) C dX5_bound_36 rfl rfl ?_
        exact r_iret (pc := 37) C rfl (Nat.le_of_ble_eq_true rfl) (Nat.le_of_ble_eq_true rfl) ⟨_, rfl, (xp ((cif_t c7).trans (cif_t ((uwm1 (by omega)).mp c20))) E (H.cg rfl rfl rfl rfl rfl rfl rfl rfl rfl rfl rfl rfl rfl rfl rfl rfl) (Fq.rf.pI (Or.inl (by omega))))⟩ dX5_bound_37
      · refine r_bipush (pc := 23) (v := (-103)) C dX5_bound_23 (by decide) ?_
        exact r_iret (pc := 25) C rfl (Nat.le_of_ble_eq_true rfl) (Nat.le_of_ble_eq_true rfl) ⟨_, rfl, (xp ((cif_t c7).trans (cif_f (fun q => c20 ((uwm1 (by omega)).mpr q)))) E H Fq.rf)⟩ dX5_bound_25
    · refine r_bipush (pc := 12) (v := (-102)) C dX5_bound_12 (by decide) ?_
      exact r_iret (pc := 14) C rfl (Nat.le_of_ble_eq_true rfl) (Nat.le_of_ble_eq_true rfl) ⟨_, rfl, (xp (cif_f (fun q => by first | exact absurd c2 (Int32.not_lt.mpr q.1) | exact c9 q.2)) E H Fq.rf)⟩ dX5_bound_14
theorem c_X5_wide (E : RX x m t e h) (B : TB t) (H : Ext t e) (h5 : tN t 0 5 = 0 → ∀ c, tN t 5 c = 0) (z w : Int32) : MA G mX5_wide 1 0 0 [.ref x, .int z, .int w] h (Oi (XP x m h (spWide t z w))) := by
  have b := E.L.b
  have b1 := B.marks
  have b2 := B.uw
  refine MA.intro (lv := [some (.ref x), some (.int z), some (.int w), none]) (by decide) (Nat.le_of_ble_eq_true rfl) rfl (fun F C => ?_)
  refine r_aload_n (pc := 0) C dX5_wide_0 rfl rfl ?_
  refine r_iload_n (pc := 1) C dX5_wide_1 rfl rfl ?_
  refine r_calli (cr_V (pc := 2) C (c_X5_isStage E B _) dX5_wide_2 cm_X5_isStage ml_X5_89 im_X5_isStage se_X5_isStage E.L.o rfl ⟨⟨Nat.le_of_ble_eq_true rfl, Nat.le_of_ble_eq_true rfl⟩, Nat.le_of_ble_eq_true rfl, Nat.le_of_ble_eq_true rfl⟩ rfl rfl (Nat.le_of_ble_eq_true rfl)) (fun v2 h2 hq2 => ?_)
  obtain ⟨rfl, rfl⟩ := hq2
  refine b_if_ne (pc := 5) (tgt := 11) C dX5_wide_5 (by decide) (fun c5 => ?_) (fun c5 => ?_)
  · refine r_iload_n (pc := 11) C dX5_wide_11 rfl rfl ?_
    refine r_calli (cr_S (pc := 12) C (c_X5_isWidth _ _) dX5_wide_12 cm_X5_isWidth ml_X5_93 st_X5_isWidth ⟨⟨Nat.le_of_ble_eq_true rfl, Nat.le_of_ble_eq_true rfl⟩, Nat.le_of_ble_eq_true rfl, Nat.le_of_ble_eq_true rfl⟩ rfl rfl (Nat.le_of_ble_eq_true rfl)) (fun v12 h12 hq12 => ?_)
    obtain ⟨rfl, rfl⟩ := hq12
    refine b_if_ne (pc := 15) (tgt := 21) C dX5_wide_15 (by decide) (fun c15 => ?_) (fun c15 => ?_)
    · refine r_aload_n (pc := 21) C dX5_wide_21 rfl rfl ?_
      refine r_getIe (pc := 22) C fl_X5_43 E.L.o rfl E.turns dX5_wide_22 ?_
      refine r_if_gt (pc := 25) (tgt := 35) C dX5_wide_25 (by decide) (fun c25 => ?_) (fun c25 => ?_)
      · refine r_bipush (pc := 35) (v := (-103)) C dX5_wide_35 (by decide) ?_
        exact r_iret (pc := 37) C rfl (Nat.le_of_ble_eq_true rfl) (Nat.le_of_ble_eq_true rfl) ⟨_, rfl, (xp ((cif_t c5).trans ((cif_t c15).trans (cif_t (by first | exact Or.inl c25 | exact Or.inr (by omega))))) E H Fq.rf)⟩ dX5_wide_37
      · refine r_aload_n (pc := 28) C dX5_wide_28 rfl rfl ?_
        refine r_getIe (pc := 29) C fl_X5_36 E.L.o rfl E.marks dX5_wide_29 ?_
        refine n_if_le (pc := 32) (tgt := 38) C (by omega) dX5_wide_32 (by decide) (fun c32 => ?_) (fun c32 => ?_)
        · have cc : ¬ (0 < tI t 0 1 ∨ 0 < tN t 0 4) := fun q => q.elim c25 (fun z => by omega)
          obtain ⟨s, hs, rfl⟩ := id c5
          obtain ⟨p, h1, h2, rfl⟩ := inR_of (by decide) c15
          refine r_aload_n (pc := 38) C dX5_wide_38 rfl rfl ?_
          refine r_getR (pc := 39) C fl_X5_9 E.L.o rfl E.L.r1 dX5_wide_39 ?_
          refine r_iload_n (pc := 42) C dX5_wide_42 rfl rfl ?_
          refine n_iald (pc := 43) C E.L.s1 (by omega) (E.k_P _ (by omega)) dX5_wide_43 ?_
          refine r_istore_n (pc := 44) (lv' := [_, _, _, _]) C dX5_wide_44 rfl (by decide) rfl rfl ?_
          refine r_aload_n (pc := 45) C dX5_wide_45 rfl rfl ?_
          refine r_getR (pc := 46) C fl_X5_9 E.L.o rfl E.L.r1 dX5_wide_46 ?_
          refine r_iload_n (pc := 49) C dX5_wide_49 rfl rfl ?_
          refine r_iload_n (pc := 50) C dX5_wide_50 rfl rfl ?_
          refine n_iast (pc := 51) C E.L.s1 (by omega) dX5_wide_51 ?_
          have E := E.p_P s p
          have Hn : Ext (uN t 1 s p) e := by
            obtain ⟨a1, a2, a3, a4, a5, a6, a7, a8⟩ := H
            have z5 := h5 (by omega)
            have zc : ∀ (t' : TS), tN t' 5 = tN t 5 → ∀ s q n, cmN t' s q n = 0 := by
              intro t' ht s q n
              induction n with
              | zero => rfl
              | succ n ih => unfold cmN; rw [ih, ht, z5]
            refine ⟨fun k hk => ?_, a2, a3, fun s' q' hs' hq' => ?_, fun j hj => ?_, a6, a7, a8⟩
            · have := a1 k hk
              unfold unrOK at this ⊢
              simp only [cnt_cg (t := t) (t' := uN t 1 _ _) rfl]
              exact this
            · rw [a4 s' q' hs' hq', zc t rfl, zc (uN t 1 s p) rfl]
            · rw [lsN_cg (t := t) (t' := uN t 1 s p) rfl]; exact a5 j hj
          refine r_iload_n (pc := 52) C dX5_wide_52 rfl rfl ?_
          exact r_iret (pc := 53) C rfl (Nat.le_of_ble_eq_true rfl) (Nat.le_of_ble_eq_true rfl) ⟨_, rfl, (xp ((cif_t c5).trans ((cif_t c15).trans ((cif_f cc).trans (by rw [cl (by omega), cl (by omega)])))) E Hn (Fq.rf.pI (Or.inl (by omega))))⟩ dX5_wide_53
        · refine r_bipush (pc := 35) (v := (-103)) C dX5_wide_35 (by decide) ?_
          exact r_iret (pc := 37) C rfl (Nat.le_of_ble_eq_true rfl) (Nat.le_of_ble_eq_true rfl) ⟨_, rfl, (xp ((cif_t c5).trans ((cif_t c15).trans (cif_t (by first | exact Or.inl c25 | exact Or.inr (by omega))))) E H Fq.rf)⟩ dX5_wide_37
    · refine r_bipush (pc := 18) (v := (-102)) C dX5_wide_18 (by decide) ?_
      exact r_iret (pc := 20) C rfl (Nat.le_of_ble_eq_true rfl) (Nat.le_of_ble_eq_true rfl) ⟨_, rfl, (xp ((cif_t c5).trans (cif_f c15)) E H Fq.rf)⟩ dX5_wide_20
  · refine r_bipush (pc := 8) (v := (-101)) C dX5_wide_8 (by decide) ?_
    exact r_iret (pc := 10) C rfl (Nat.le_of_ble_eq_true rfl) (Nat.le_of_ble_eq_true rfl) ⟨_, rfl, (xp (cif_f c5) E H Fq.rf)⟩ dX5_wide_10
theorem kcl {z : Int32} : (nI 0 ≤ z ∧ z ≤ nI 15) ↔ inN z 16 := inN_iff (n := 16) (by decide) (by decide)
theorem c_X5_many (E : RX x m t e h) (B : TB t) (z w : Int32) : MA G mX5_many 3 0 0 [.ref x, .int z, .int w] h (Oi (fun v h' => v = spMany t z w ∧ h' = h)) := by
  have b := B.S
  refine MA.intro (lv := [some (.ref x), some (.int z), some (.int w)]) (by decide) (Nat.le_of_ble_eq_true rfl) rfl (fun F C => ?_)
  by_cases hz : inN z (tN t 0 0)
  · by_cases hw : inN w 16
    · have e0 : spMany t z w = nI (tN t 3 (16 * z.toNatClampNeg + w.toNatClampNeg)) := (cif_t hz).trans (cif_t (kcl.mpr hw))
      obtain ⟨s, hs, rfl⟩ := id hz
      obtain ⟨k, hk, rfl⟩ := id hw
      rw [cl (by omega), cl (by omega)] at e0
      refine r_aload_n (pc := 0) C dX5_many_0 rfl rfl ?_
      refine r_iload_n (pc := 1) C dX5_many_1 rfl rfl ?_
      refine r_calli (cr_V (pc := 2) C (c_X5_isStage E B _) dX5_many_2 cm_X5_isStage ml_X5_89 im_X5_isStage se_X5_isStage E.L.o rfl ⟨⟨Nat.le_of_ble_eq_true rfl, Nat.le_of_ble_eq_true rfl⟩, Nat.le_of_ble_eq_true rfl, Nat.le_of_ble_eq_true rfl⟩ rfl rfl (Nat.le_of_ble_eq_true rfl)) (fun v2 h2 hq2 => ?_)
      obtain ⟨rfl, rfl⟩ := hq2
      refine b_if_ne (pc := 5) (tgt := 11) C dX5_many_5 (by decide) (fun c5 => ?_) (fun c5 => absurd c5 (fun q => q hz))
      refine r_iload_n (pc := 11) C dX5_many_11 rfl rfl ?_
      refine r_calli (cr_S (pc := 12) C (c_X5_isKey _ _) dX5_many_12 cm_X5_isKey ml_X5_96 st_X5_isKey ⟨⟨Nat.le_of_ble_eq_true rfl, Nat.le_of_ble_eq_true rfl⟩, Nat.le_of_ble_eq_true rfl, Nat.le_of_ble_eq_true rfl⟩ rfl rfl (Nat.le_of_ble_eq_true rfl)) (fun v12 h12 hq12 => ?_)
      obtain ⟨rfl, rfl⟩ := hq12
      refine b_if_eq (pc := 15) (tgt := 30) C dX5_many_15 (by decide) (fun c15 => absurd c15 (fun q => q hw)) (fun c15 => ?_)
      refine r_aload_n (pc := 18) C dX5_many_18 rfl rfl ?_
      refine r_getR (pc := 19) C fl_X5_23 E.L.o rfl E.L.r3 dX5_many_19 ?_
      refine r_iload_n (pc := 22) C dX5_many_22 rfl rfl ?_
      refine r_iload_n (pc := 23) C dX5_many_23 rfl rfl ?_
      refine r_calli (cr_V (pc := 24) C (c_X3_rowsOf E.L.T (s := s) (k := k) (by omega) hk (E.k_many _ (by omega))) dX5_many_24 cm_X3_rowsOf ml_X5_167 im_X3_rowsOf se_X3_rowsOf E.L.T.1 rfl ⟨⟨Nat.le_of_ble_eq_true rfl, Nat.le_of_ble_eq_true rfl⟩, Nat.le_of_ble_eq_true rfl, Nat.le_of_ble_eq_true rfl⟩ rfl rfl (Nat.le_of_ble_eq_true rfl)) (fun v24 h24 hq24 => ?_)
      obtain ⟨rfl, rfl⟩ := hq24
      refine r_goto (pc := 27) (tgt := 32) C dX5_many_27 (by decide) ?_
      exact r_iret (pc := 32) C rfl (Nat.le_of_ble_eq_true rfl) (Nat.le_of_ble_eq_true rfl) ⟨_, rfl, ⟨e0.symm, rfl⟩⟩ dX5_many_32
    · have e0 : spMany t z w = -102 := (cif_t hz).trans (cif_f (fun q => hw (kcl.mp q)))
      refine r_aload_n (pc := 0) C dX5_many_0 rfl rfl ?_
      refine r_iload_n (pc := 1) C dX5_many_1 rfl rfl ?_
      refine r_calli (cr_V (pc := 2) C (c_X5_isStage E B _) dX5_many_2 cm_X5_isStage ml_X5_89 im_X5_isStage se_X5_isStage E.L.o rfl ⟨⟨Nat.le_of_ble_eq_true rfl, Nat.le_of_ble_eq_true rfl⟩, Nat.le_of_ble_eq_true rfl, Nat.le_of_ble_eq_true rfl⟩ rfl rfl (Nat.le_of_ble_eq_true rfl)) (fun v2 h2 hq2 => ?_)
      obtain ⟨rfl, rfl⟩ := hq2
      refine b_if_ne (pc := 5) (tgt := 11) C dX5_many_5 (by decide) (fun c5 => ?_) (fun c5 => absurd c5 (fun q => q hz))
      refine r_iload_n (pc := 11) C dX5_many_11 rfl rfl ?_
      refine r_calli (cr_S (pc := 12) C (c_X5_isKey _ _) dX5_many_12 cm_X5_isKey ml_X5_96 st_X5_isKey ⟨⟨Nat.le_of_ble_eq_true rfl, Nat.le_of_ble_eq_true rfl⟩, Nat.le_of_ble_eq_true rfl, Nat.le_of_ble_eq_true rfl⟩ rfl rfl (Nat.le_of_ble_eq_true rfl)) (fun v12 h12 hq12 => ?_)
      obtain ⟨rfl, rfl⟩ := hq12
      refine b_if_eq (pc := 15) (tgt := 30) C dX5_many_15 (by decide) (fun c15 => ?_) (fun c15 => absurd c15 hw)
      refine r_bipush (pc := 30) (v := (-102)) C dX5_many_30 (by decide) ?_
      exact r_iret (pc := 32) C rfl (Nat.le_of_ble_eq_true rfl) (Nat.le_of_ble_eq_true rfl) ⟨_, rfl, ⟨e0.symm, rfl⟩⟩ dX5_many_32
  · have e0 : spMany t z w = -101 := cif_f hz
    refine r_aload_n (pc := 0) C dX5_many_0 rfl rfl ?_
    refine r_iload_n (pc := 1) C dX5_many_1 rfl rfl ?_
    refine r_calli (cr_V (pc := 2) C (c_X5_isStage E B _) dX5_many_2 cm_X5_isStage ml_X5_89 im_X5_isStage se_X5_isStage E.L.o rfl ⟨⟨Nat.le_of_ble_eq_true rfl, Nat.le_of_ble_eq_true rfl⟩, Nat.le_of_ble_eq_true rfl, Nat.le_of_ble_eq_true rfl⟩ rfl rfl (Nat.le_of_ble_eq_true rfl)) (fun v2 h2 hq2 => ?_)
    obtain ⟨rfl, rfl⟩ := hq2
    refine b_if_ne (pc := 5) (tgt := 11) C dX5_many_5 (by decide) (fun c5 => absurd c5 hz) (fun c5 => ?_)
    refine r_bipush (pc := 8) (v := (-101)) C dX5_many_8 (by decide) ?_
    exact r_iret (pc := 10) C rfl (Nat.le_of_ble_eq_true rfl) (Nat.le_of_ble_eq_true rfl) ⟨_, rfl, ⟨e0.symm, rfl⟩⟩ dX5_many_10
theorem c_X5_sum (E : RX x m t e h) (B : TB t) (z w : Int32) : MA G mX5_sum 3 0 0 [.ref x, .int z, .int w] h (Ol (fun v h' => v = spSum t z w ∧ h' = h)) := by
  have b := B.S
  refine MA.intro (lv := [some (.ref x), some (.int z), some (.int w)]) (by decide) (Nat.le_of_ble_eq_true rfl) rfl (fun F C => ?_)
  by_cases hz : inN z (tN t 0 0)
  · by_cases hw : inN w 16
    · have e0 : spSum t z w = tL t 1 (16 * z.toNatClampNeg + w.toNatClampNeg) := (cif_t hz).trans (cif_t (kcl.mpr hw))
      obtain ⟨s, hs, rfl⟩ := id hz
      obtain ⟨k, hk, rfl⟩ := id hw
      rw [cl (by omega), cl (by omega)] at e0
      refine r_aload_n (pc := 0) C dX5_sum_0 rfl rfl ?_
      refine r_iload_n (pc := 1) C dX5_sum_1 rfl rfl ?_
      refine r_calli (cr_V (pc := 2) C (c_X5_isStage E B _) dX5_sum_2 cm_X5_isStage ml_X5_89 im_X5_isStage se_X5_isStage E.L.o rfl ⟨⟨Nat.le_of_ble_eq_true rfl, Nat.le_of_ble_eq_true rfl⟩, Nat.le_of_ble_eq_true rfl, Nat.le_of_ble_eq_true rfl⟩ rfl rfl (Nat.le_of_ble_eq_true rfl)) (fun v2 h2 hq2 => ?_)
      obtain ⟨rfl, rfl⟩ := hq2
      refine b_if_eq (pc := 5) (tgt := 27) C dX5_sum_5 (by decide) (fun c5 => absurd c5 (fun q => q hz)) (fun c5 => ?_)
      refine r_iload_n (pc := 8) C dX5_sum_8 rfl rfl ?_
      refine r_calli (cr_S (pc := 9) C (c_X5_isKey _ _) dX5_sum_9 cm_X5_isKey ml_X5_96 st_X5_isKey ⟨⟨Nat.le_of_ble_eq_true rfl, Nat.le_of_ble_eq_true rfl⟩, Nat.le_of_ble_eq_true rfl, Nat.le_of_ble_eq_true rfl⟩ rfl rfl (Nat.le_of_ble_eq_true rfl)) (fun v9 h9 hq9 => ?_)
      obtain ⟨rfl, rfl⟩ := hq9
      refine b_if_eq (pc := 12) (tgt := 27) C dX5_sum_12 (by decide) (fun c12 => absurd c12 (fun q => q hw)) (fun c12 => ?_)
      refine r_aload_n (pc := 15) C dX5_sum_15 rfl rfl ?_
      refine r_getR (pc := 16) C fl_X5_23 E.L.o rfl E.L.r3 dX5_sum_16 ?_
      refine r_iload_n (pc := 19) C dX5_sum_19 rfl rfl ?_
      refine r_iload_n (pc := 20) C dX5_sum_20 rfl rfl ?_
      refine r_calll (cr_V (pc := 21) C (c_X3_totalOf E.L.T (s := s) (k := k) (by omega) hk (E.k_sum _ (by omega))) dX5_sum_21 cm_X3_totalOf ml_X5_170 im_X3_totalOf se_X3_totalOf E.L.T.1 rfl ⟨⟨Nat.le_of_ble_eq_true rfl, Nat.le_of_ble_eq_true rfl⟩, Nat.le_of_ble_eq_true rfl, Nat.le_of_ble_eq_true rfl⟩ rfl rfl (Nat.le_of_ble_eq_true rfl)) (fun v21 h21 hq21 => ?_)
      obtain ⟨rfl, rfl⟩ := hq21
      refine r_goto (pc := 24) (tgt := 28) C dX5_sum_24 (by decide) ?_
      exact r_lret (pc := 28) C rfl (Nat.le_of_ble_eq_true rfl) (Nat.le_of_ble_eq_true rfl) ⟨_, rfl, ⟨e0.symm, rfl⟩⟩ dX5_sum_28
    · have e0 : spSum t z w = 0 := (cif_t hz).trans (cif_f (fun q => hw (kcl.mp q)))
      refine r_aload_n (pc := 0) C dX5_sum_0 rfl rfl ?_
      refine r_iload_n (pc := 1) C dX5_sum_1 rfl rfl ?_
      refine r_calli (cr_V (pc := 2) C (c_X5_isStage E B _) dX5_sum_2 cm_X5_isStage ml_X5_89 im_X5_isStage se_X5_isStage E.L.o rfl ⟨⟨Nat.le_of_ble_eq_true rfl, Nat.le_of_ble_eq_true rfl⟩, Nat.le_of_ble_eq_true rfl, Nat.le_of_ble_eq_true rfl⟩ rfl rfl (Nat.le_of_ble_eq_true rfl)) (fun v2 h2 hq2 => ?_)
      obtain ⟨rfl, rfl⟩ := hq2
      refine b_if_eq (pc := 5) (tgt := 27) C dX5_sum_5 (by decide) (fun c5 => absurd c5 (fun q => q hz)) (fun c5 => ?_)
      refine r_iload_n (pc := 8) C dX5_sum_8 rfl rfl ?_
      refine r_calli (cr_S (pc := 9) C (c_X5_isKey _ _) dX5_sum_9 cm_X5_isKey ml_X5_96 st_X5_isKey ⟨⟨Nat.le_of_ble_eq_true rfl, Nat.le_of_ble_eq_true rfl⟩, Nat.le_of_ble_eq_true rfl, Nat.le_of_ble_eq_true rfl⟩ rfl rfl (Nat.le_of_ble_eq_true rfl)) (fun v9 h9 hq9 => ?_)
      obtain ⟨rfl, rfl⟩ := hq9
      refine b_if_eq (pc := 12) (tgt := 27) C dX5_sum_12 (by decide) (fun c12 => ?_) (fun c12 => absurd c12 hw)
      refine r_lconst (pc := 27) (v := 0) C dX5_sum_27 (by decide) ?_
      exact r_lret (pc := 28) C rfl (Nat.le_of_ble_eq_true rfl) (Nat.le_of_ble_eq_true rfl) ⟨_, rfl, ⟨e0.symm, rfl⟩⟩ dX5_sum_28
  · have e0 : spSum t z w = 0 := cif_f hz
    refine r_aload_n (pc := 0) C dX5_sum_0 rfl rfl ?_
    refine r_iload_n (pc := 1) C dX5_sum_1 rfl rfl ?_
    refine r_calli (cr_V (pc := 2) C (c_X5_isStage E B _) dX5_sum_2 cm_X5_isStage ml_X5_89 im_X5_isStage se_X5_isStage E.L.o rfl ⟨⟨Nat.le_of_ble_eq_true rfl, Nat.le_of_ble_eq_true rfl⟩, Nat.le_of_ble_eq_true rfl, Nat.le_of_ble_eq_true rfl⟩ rfl rfl (Nat.le_of_ble_eq_true rfl)) (fun v2 h2 hq2 => ?_)
    obtain ⟨rfl, rfl⟩ := hq2
    refine b_if_eq (pc := 5) (tgt := 27) C dX5_sum_5 (by decide) (fun c5 => ?_) (fun c5 => absurd c5 hz)
    refine r_lconst (pc := 27) (v := 0) C dX5_sum_27 (by decide) ?_
    exact r_lret (pc := 28) C rfl (Nat.le_of_ble_eq_true rfl) (Nat.le_of_ble_eq_true rfl) ⟨_, rfl, ⟨e0.symm, rfl⟩⟩ dX5_sum_28
theorem c_X5_task (E : RX x m t e h) (B : TB t) (H : Ext t e) (z w u : Int32) : MA G mX5_task 2 0 0 [.ref x, .int z, .int w, .int u] h (Oi (fun v h' => v = spTask t z w u ∧ h' = h)) := by
  have b := B.S
  refine MA.intro (lv := [some (.ref x), some (.int z), some (.int w), some (.int u), none]) (by decide) (Nat.le_of_ble_eq_true rfl) rfl (fun F C => ?_)
  by_cases hz : inT t z w
  · obtain ⟨s, hs, rfl, q, hq, rfl⟩ := id hz
    have b1 := B.P (s := s) (by omega)
    have b2 := B.bool (4 * s + q)
    have b3 := H.cm B hs (q := q) (by omega)
    have hi : 4 * s + q < 4 * tN t 0 0 := by omega
    have K := E.k_tk (4 * s + q) hi
    have H7 := (H.2.2.2.2.2.2.1 s q hs (by omega)).1
    have H4 := H.2.2.2.1 s q hs (by omega)
    have e0 : spTask t (nI s) (nI q) u = (match swN 3 u with
      | 0 => nI (tN t 6 (4 * s + q))
      | 1 => nI (tN t 7 (4 * s + q))
      | 2 => nI (if s = 0 then 0 else cmN t s q (tN t 1 (s - 1)))
      | 3 => if s = 0 then -1 else nI (tN t 8 (4 * s + q))
      | _ => -102) := (cif_t hz).trans (by rw [cl (by omega), cl (by omega)]; rfl)
    refine r_aload_n (pc := 0) C dX5_task_0 rfl rfl ?_
    refine r_iload_n (pc := 1) C dX5_task_1 rfl rfl ?_
    refine r_iload_n (pc := 2) C dX5_task_2 rfl rfl ?_
    refine r_callq (cr_V (pc := 3) C (c_X5_taskAt E B _ _) dX5_task_3 cm_X5_taskAt ml_X5_103 im_X5_taskAt se_X5_taskAt E.L.o rfl ⟨⟨Nat.le_of_ble_eq_true rfl, Nat.le_of_ble_eq_true rfl⟩, Nat.le_of_ble_eq_true rfl, Nat.le_of_ble_eq_true rfl⟩ rfl rfl (Nat.le_of_ble_eq_true rfl)) (fun v3 h3 hq3 => ?_)
    obtain ⟨rfl, rfl⟩ := hq3
    rw [tkA_n B hs hq]
    refine r_astore (pc := 6) (lv' := [_, _, _, _, _]) C dX5_task_6 (by decide) rfl rfl ?_
    refine r_aload (pc := 8) C dX5_task_8 rfl ?_
    refine r_ifnonnull (pc := 10) (tgt := 16) C dX5_task_10 (by decide) ?_
    refine r_iload_n (pc := 16) C dX5_task_16 rfl rfl ?_
    rcases sw3 u with rfl | rfl | rfl | rfl | hsw17
    · refine r_tableIn (pc := 17) (tgt := 48) (off := 31) C dX5_task_17 (by decide) (by decide) (by decide) (by decide) ?_
      refine r_aload (pc := 48) C dX5_task_48 rfl ?_
      refine r_getIe (pc := 50) C fl_X5_174 (E.L.tk hi).2 rfl K.1 dX5_task_50 ?_
      refine n_if_eq (pc := 53) (tgt := 60) C (by omega) dX5_task_53 (by decide) (fun c53 => ?_) (fun c53 => ?_)
      · refine r_iconst (pc := 60) (v := (nI 0)) C dX5_task_60 (by decide) ?_
        exact r_iret (pc := 61) C rfl (Nat.le_of_ble_eq_true rfl) (Nat.le_of_ble_eq_true rfl) ⟨_, rfl, ⟨e0.symm ▸ (show _ = nI (tN t 6 (4 * s + q)) from (by first | rw [c53] | rw [show tN t 6 (4 * s + q) = 1 by omega])), rfl⟩⟩ dX5_task_61
      · refine r_iconst (pc := 56) (v := (nI 1)) C dX5_task_56 (by decide) ?_
        refine r_goto (pc := 57) (tgt := 61) C dX5_task_57 (by decide) ?_
        exact r_iret (pc := 61) C rfl (Nat.le_of_ble_eq_true rfl) (Nat.le_of_ble_eq_true rfl) ⟨_, rfl, ⟨e0.symm ▸ (show _ = nI (tN t 6 (4 * s + q)) from (by first | rw [c53] | rw [show tN t 6 (4 * s + q) = 1 by omega])), rfl⟩⟩ dX5_task_61
    · refine r_tableIn (pc := 17) (tgt := 62) (off := 45) C dX5_task_17 (by decide) (by decide) (by decide) (by decide) ?_
      refine r_aload (pc := 62) C dX5_task_62 rfl ?_
      refine r_calli (cr_V (pc := 64) C (c_X4_isWaiting (E.L.tk hi).2 K.1 K.2.1 (by omega) (by omega)) dX5_task_64 cm_X4_isWaiting ml_X5_178 im_X4_isWaiting se_X4_isWaiting (E.L.tk hi).2 rfl ⟨⟨Nat.le_of_ble_eq_true rfl, Nat.le_of_ble_eq_true rfl⟩, Nat.le_of_ble_eq_true rfl, Nat.le_of_ble_eq_true rfl⟩ rfl rfl (Nat.le_of_ble_eq_true rfl)) (fun v64 h64 hq64 => ?_)
      obtain ⟨rfl, rfl⟩ := hq64
      refine b_if_eq (pc := 67) (tgt := 74) C dX5_task_67 (by decide) (fun c67 => ?_) (fun c67 => ?_)
      · refine r_iconst (pc := 74) (v := (nI 0)) C dX5_task_74 (by decide) ?_
        exact r_iret (pc := 75) C rfl (Nat.le_of_ble_eq_true rfl) (Nat.le_of_ble_eq_true rfl) ⟨_, rfl, ⟨e0.symm ▸ (show _ = nI (tN t 7 (4 * s + q)) from (by first | rw [show tN t 7 (4 * s + q) = 1 by have := H7.mpr c67; omega] | rw [show tN t 7 (4 * s + q) = 0 from Decidable.byContradiction (fun z => c67 (H7.mp z))])), rfl⟩⟩ dX5_task_75
      · refine r_iconst (pc := 70) (v := (nI 1)) C dX5_task_70 (by decide) ?_
        refine r_goto (pc := 71) (tgt := 75) C dX5_task_71 (by decide) ?_
        exact r_iret (pc := 75) C rfl (Nat.le_of_ble_eq_true rfl) (Nat.le_of_ble_eq_true rfl) ⟨_, rfl, ⟨e0.symm ▸ (show _ = nI (tN t 7 (4 * s + q)) from (by first | rw [show tN t 7 (4 * s + q) = 1 by have := H7.mpr c67; omega] | rw [show tN t 7 (4 * s + q) = 0 from Decidable.byContradiction (fun z => c67 (H7.mp z))])), rfl⟩⟩ dX5_task_75
    · refine r_tableIn (pc := 17) (tgt := 76) (off := 59) C dX5_task_17 (by decide) (by decide) (by decide) (by decide) ?_
      refine r_aload (pc := 76) C dX5_task_76 rfl ?_
      refine r_getIe (pc := 78) C fl_X5_182 (E.L.tk hi).2 rfl K.2.1 dX5_task_78 ?_
      exact r_iret (pc := 81) C rfl (Nat.le_of_ble_eq_true rfl) (Nat.le_of_ble_eq_true rfl) ⟨_, rfl, ⟨e0.symm ▸ (show _ = nI (if s = 0 then 0 else cmN t s q (tN t 1 (s - 1))) from (by rw [H4])), rfl⟩⟩ dX5_task_81
    · refine r_tableIn (pc := 17) (tgt := 82) (off := 65) C dX5_task_17 (by decide) (by decide) (by decide) (by decide) ?_
      refine r_iload_n (pc := 82) C dX5_task_82 rfl rfl ?_
      refine n_if_ne (pc := 83) (tgt := 90) C (by omega) dX5_task_83 (by decide) (fun c83 => ?_) (fun c83 => ?_)
      · refine r_aload (pc := 90) C dX5_task_90 rfl ?_
        refine r_getIe (pc := 92) C fl_X5_150 (E.L.tk hi).2 rfl K.2.2.2 dX5_task_92 ?_
        exact r_iret (pc := 95) C rfl (Nat.le_of_ble_eq_true rfl) (Nat.le_of_ble_eq_true rfl) ⟨_, rfl, ⟨e0.symm ▸ (show _ = (if s = 0 then (-1 : Int32) else nI (tN t 8 (4 * s + q))) from (by first | rw [if_pos c83] | rw [if_neg c83])), rfl⟩⟩ dX5_task_95
      · refine r_iconst (pc := 86) (v := (-1)) C dX5_task_86 (by decide) ?_
        refine r_goto (pc := 87) (tgt := 95) C dX5_task_87 (by decide) ?_
        exact r_iret (pc := 95) C rfl (Nat.le_of_ble_eq_true rfl) (Nat.le_of_ble_eq_true rfl) ⟨_, rfl, ⟨e0.symm ▸ (show _ = (if s = 0 then (-1 : Int32) else nI (tN t 8 (4 * s + q))) from (by first | rw [if_pos c83] | rw [if_neg c83])), rfl⟩⟩ dX5_task_95
    · refine r_tableOut (pc := 17) (tgt := 96) C dX5_task_17 hsw17 (by decide) ?_
      refine r_bipush (pc := 96) (v := (-102)) C dX5_task_96 (by decide) ?_
      exact r_iret (pc := 98) C rfl (Nat.le_of_ble_eq_true rfl) (Nat.le_of_ble_eq_true rfl) ⟨_, rfl, ⟨by rw [e0, swN_out hsw17]; rfl, rfl⟩⟩ dX5_task_98
  · have e0 : spTask t z w u = -101 := cif_f hz
    refine r_aload_n (pc := 0) C dX5_task_0 rfl rfl ?_
    refine r_iload_n (pc := 1) C dX5_task_1 rfl rfl ?_
    refine r_iload_n (pc := 2) C dX5_task_2 rfl rfl ?_
    refine r_callq (cr_V (pc := 3) C (c_X5_taskAt E B _ _) dX5_task_3 cm_X5_taskAt ml_X5_103 im_X5_taskAt se_X5_taskAt E.L.o rfl ⟨⟨Nat.le_of_ble_eq_true rfl, Nat.le_of_ble_eq_true rfl⟩, Nat.le_of_ble_eq_true rfl, Nat.le_of_ble_eq_true rfl⟩ rfl rfl (Nat.le_of_ble_eq_true rfl)) (fun v3 h3 hq3 => ?_)
    obtain ⟨rfl, rfl⟩ := hq3
    rw [show tkA t x z w = none from cif_f hz]
    refine r_astoreN (pc := 6) (lv' := [_, _, _, _, _]) C dX5_task_6 (by decide) rfl rfl ?_
    refine r_aloadN (pc := 8) C dX5_task_8 rfl ?_
    refine r_ifnonnullN (pc := 10) C dX5_task_10 ?_
    refine r_bipush (pc := 13) (v := (-101)) C dX5_task_13 (by decide) ?_
    exact r_iret (pc := 15) C rfl (Nat.le_of_ble_eq_true rfl) (Nat.le_of_ble_eq_true rfl) ⟨_, rfl, ⟨e0.symm, rfl⟩⟩ dX5_task_15
end CA57
