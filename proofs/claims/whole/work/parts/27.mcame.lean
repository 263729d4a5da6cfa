/-! ===== the reference: barriers that came, marks ===== -/
section MC27
variable {G : GP} {F : FX} {m : Nat} {Q : State → Prop}
theorem allCame_l (C : CX G F mX6_allCame (Rm 1 0 0)) {t : TS} {h : AH} (E : RM m t h) (B : TB t) {s q : Nat} (hs : 1 ≤ s) (hS : s < tN t 0 0) (hq : q < 4) (k : ∀ a f, a ≤ 1 → (a = 1 ↔ allC t s q) → WA G F mX6_allCame h 0 0 Q 51 [some (.ref m), some (.int (nI s)), some (.int (nI q)), some (.int (nI a)), some (.int (nI f))] []) :
    ∀ (n f a : Nat), f + n = tN t 1 (s - 1) → a ≤ 1 → (a = 1 ↔ ∀ f', f' < f → tN t 5 (16 * (s - 1) + 4 * f' + q) = 1) → WA G F mX6_allCame h 0 0 Q 5 [some (.ref m), some (.int (nI s)), some (.int (nI q)), some (.int (nI a)), some (.int (nI f))] [] := by
  have b0 := B.S
  have b1 := B.P (s := s - 1) (by omega)
  intro n
  induction n with
  | zero =>
    intro f a hf ha hi
    refine r_iload (pc := 5) C dX6_allCame_5 rfl ?_
    refine r_aload_n (pc := 7) C dX6_allCame_7 rfl rfl ?_
    refine r_getR (pc := 8) C fl_X6_7 E.L.o rfl E.L.r1 dX6_allCame_8 ?_
    refine r_iload_n (pc := 11) C dX6_allCame_11 rfl rfl ?_
    refine r_iconst (pc := 12) (v := (nI 1)) C dX6_allCame_12 (by decide) ?_
    refine n_isub (pc := 13) C (by omega) dX6_allCame_13 ?_
    refine n_iald (pc := 14) C E.L.s1 (by omega) (E.k_P _ (by omega)) dX6_allCame_14 ?_
    refine n_icmp_ge (pc := 15) (tgt := 51) C (by omega) (by omega) dX6_allCame_15 (by decide) (fun c15 => ?_) (fun c15 => absurd c15 (by omega))
    exact k a f ha (by rw [hi]; unfold allC; rw [show f = tN t 1 (s - 1) by omega])
  | succ n ih =>
    intro f a hf ha hi
    have b2 := (B.bool (16 * (s - 1) + 4 * f + q)).1
    have st0 : ¬ tN t 5 (16 * (s - 1) + 4 * f + q) = 1 ∨ a = 0 → (0 = 1 ↔ ∀ f', f' < f + 1 → tN t 5 (16 * (s - 1) + 4 * f' + q) = 1) := by
      intro z
      refine ⟨fun q => by omega, fun w => ?_⟩
      rcases z with z | z
      · exact absurd (w f (by omega)) z
      · have := hi.mpr (fun f' hf' => w f' (by omega)); omega
    have st1 : tN t 5 (16 * (s - 1) + 4 * f + q) = 1 → a = 1 → (1 = 1 ↔ ∀ f', f' < f + 1 → tN t 5 (16 * (s - 1) + 4 * f' + q) = 1) := by
      intro z1 z2
      refine ⟨fun _ f' hf' => ?_, fun _ => rfl⟩
      by_cases e : f' = f
      · subst e; exact z1
      · exact hi.mp z2 f' (by omega)
    refine r_iload (pc := 5) C dX6_allCame_5 rfl ?_
    refine r_aload_n (pc := 7) C dX6_allCame_7 rfl rfl ?_
    refine r_getR (pc := 8) C fl_X6_7 E.L.o rfl E.L.r1 dX6_allCame_8 ?_
    refine r_iload_n (pc := 11) C dX6_allCame_11 rfl rfl ?_
    refine r_iconst (pc := 12) (v := (nI 1)) C dX6_allCame_12 (by decide) ?_
    refine n_isub (pc := 13) C (by omega) dX6_allCame_13 ?_
    refine n_iald (pc := 14) C E.L.s1 (by omega) (E.k_P _ (by omega)) dX6_allCame_14 ?_
    refine n_icmp_ge (pc := 15) (tgt := 51) C (by omega) (by omega) dX6_allCame_15 (by decide) (fun c15 => absurd c15 (by omega)) (fun c15 => ?_)
    refine r_iload_n (pc := 18) C dX6_allCame_18 rfl rfl ?_
    refine n_if_eq (pc := 19) (tgt := 43) C (by omega) dX6_allCame_19 (by decide) (fun c19 => ?_) (fun c19 => ?_)
    · refine r_iconst (pc := 43) (v := (nI 0)) C dX6_allCame_43 (by decide) ?_
      refine r_istore_n (pc := 44) (lv' := [_, _, _, _, _]) C dX6_allCame_44 rfl (by decide) rfl rfl ?_
      refine n_iinc (pc := 45) (lv' := [_, _, _, _, _]) C dX6_allCame_45 rfl (by decide) rfl rfl ?_
      refine r_goto (pc := 48) (tgt := 5) C dX6_allCame_48 (by decide) ?_
      exact ih (f + 1) _ (by omega) (by omega) (by first | exact st1 (by omega) (by omega) | exact st0 (Or.inr (by omega)) | exact st0 (Or.inl (by omega)))
    · refine r_aload_n (pc := 22) C dX6_allCame_22 rfl rfl ?_
      refine r_getR (pc := 23) C fl_X6_42 E.L.o rfl E.L.r13 dX6_allCame_23 ?_
      refine r_iload_n (pc := 26) C dX6_allCame_26 rfl rfl ?_
      refine r_iconst (pc := 27) (v := (nI 1)) C dX6_allCame_27 (by decide) ?_
      refine n_isub (pc := 28) C (by omega) dX6_allCame_28 ?_
      refine r_iload (pc := 29) C dX6_allCame_29 rfl ?_
      refine r_iload_n (pc := 31) C dX6_allCame_31 rfl rfl ?_
      refine r_calli (cr_S (pc := 32) C (c_X6_at _ (s - 1) f q) dX6_allCame_32 cm_X6_at ml_X6_118 st_X6_at ⟨⟨Nat.le_of_ble_eq_true rfl, Nat.le_of_ble_eq_true rfl⟩, Nat.le_of_ble_eq_true rfl, Nat.le_of_ble_eq_true rfl⟩ rfl rfl (Nat.le_of_ble_eq_true rfl)) (fun v32 h32 hq32 => ?_)
      obtain ⟨rfl, rfl⟩ := hq32
      refine n_zald (pc := 35) C E.L.s13 (by omega) (E.k_came _ (by omega)) dX6_allCame_35 ?_
      refine n_if_eq (pc := 36) (tgt := 43) C (by omega) dX6_allCame_36 (by decide) (fun c36 => ?_) (fun c36 => ?_)
      · refine r_iconst (pc := 43) (v := (nI 0)) C dX6_allCame_43 (by decide) ?_
        refine r_istore_n (pc := 44) (lv' := [_, _, _, _, _]) C dX6_allCame_44 rfl (by decide) rfl rfl ?_
        refine n_iinc (pc := 45) (lv' := [_, _, _, _, _]) C dX6_allCame_45 rfl (by decide) rfl rfl ?_
        refine r_goto (pc := 48) (tgt := 5) C dX6_allCame_48 (by decide) ?_
        exact ih (f + 1) _ (by omega) (by omega) (by first | exact st1 (by omega) (by omega) | exact st0 (Or.inr (by omega)) | exact st0 (Or.inl (by omega)))
      · refine r_iconst (pc := 39) (v := (nI 1)) C dX6_allCame_39 (by decide) ?_
        refine r_goto (pc := 40) (tgt := 44) C dX6_allCame_40 (by decide) ?_
        refine r_istore_n (pc := 44) (lv' := [_, _, _, _, _]) C dX6_allCame_44 rfl (by decide) rfl rfl ?_
        refine n_iinc (pc := 45) (lv' := [_, _, _, _, _]) C dX6_allCame_45 rfl (by decide) rfl rfl ?_
        refine r_goto (pc := 48) (tgt := 5) C dX6_allCame_48 (by decide) ?_
        exact ih (f + 1) _ (by omega) (by omega) (by first | exact st1 (by omega) (by omega) | exact st0 (Or.inr (by omega)) | exact st0 (Or.inl (by omega)))
end MC27
theorem c_X6_allCame {G : GP} {m : Nat} {t : TS} {h : AH} (E : RM m t h) (B : TB t) {s q : Nat} (hs : 1 ≤ s) (hS : s < tN t 0 0) (hq : q < 4) : MA G mX6_allCame 1 0 0 [.ref m, .int (nI s), .int (nI q)] h (Oi (fun v h' => v = bI (allC t s q) ∧ h' = h)) := by
  refine MA.intro (lv := [some (.ref m), some (.int (nI s)), some (.int (nI q)), none, none]) (by decide) (Nat.le_of_ble_eq_true rfl) rfl (fun F C => ?_)
  refine r_iconst (pc := 0) (v := (nI 1)) C dX6_allCame_0 (by decide) ?_
  refine r_istore_n (pc := 1) (lv' := [_, _, _, _, _]) C dX6_allCame_1 rfl (by decide) rfl rfl ?_
  refine r_iconst (pc := 2) (v := (nI 0)) C dX6_allCame_2 (by decide) ?_
  refine r_istore (pc := 3) (lv' := [_, _, _, _, _]) C dX6_allCame_3 (by decide) rfl rfl ?_
  refine allCame_l C E B hs hS hq (fun a f ha hi => ?_) _ 0 1 (Nat.zero_add _) (by decide) ⟨fun _ f' hf' => absurd hf' (by omega), fun _ => rfl⟩
  rcases (show a = 0 ∨ a = 1 by omega) with rfl | rfl
  · skip
    refine r_iload_n (pc := 51) C dX6_allCame_51 rfl rfl ?_
    exact r_zret (pc := 52) C rfl (by first | exact bI_01 | exact Or.inl rfl | exact Or.inr rfl) (Nat.le_of_ble_eq_true rfl) (Nat.le_of_ble_eq_true rfl) ⟨_, rfl, ⟨ff0 (fun z => by have := hi.mpr z; omega), rfl⟩⟩ dX6_allCame_52
  · skip
    refine r_iload_n (pc := 51) C dX6_allCame_51 rfl rfl ?_
    exact r_zret (pc := 52) C rfl (by first | exact bI_01 | exact Or.inl rfl | exact Or.inr rfl) (Nat.le_of_ble_eq_true rfl) (Nat.le_of_ble_eq_true rfl) ⟨_, rfl, ⟨tt1 (hi.mp rfl), rfl⟩⟩ dX6_allCame_52
def allQ (t : TS) (s q : Nat) : Prop := ∀ q', q' < q → tN t 6 (4 * s + q') = 1 ∧ (s = 0 ∨ allC t s q')
def allS (t : TS) (s : Nat) : Prop := ∀ s', s' < s → allQ t s' (tN t 1 s')
section MC28
variable {G : GP} {F : FX} {m : Nat} {Q : State → Prop}
theorem settle_l2 (C : CX G F mX6_settle (Rm 2 0 0)) {t : TS} {h : AH} (E : RM m t h) (B : TB t) {s : Nat} (hS : s < tN t 0 0) (k : ∀ a q, a ≤ 1 → (a = 1 ↔ tN t 0 5 ≠ 0 ∧ allS t (s + 1)) → WA G F mX6_settle h 0 0 Q 82 [some (.ref m), some (.int (nI a)), some (.int (nI s)), some (.int (nI q))] []) :
    ∀ (n q a : Nat), q + n = tN t 1 s → a ≤ 1 → (a = 1 ↔ tN t 0 5 ≠ 0 ∧ allS t s ∧ allQ t s q) → WA G F mX6_settle h 0 0 Q 30 [some (.ref m), some (.int (nI a)), some (.int (nI s)), some (.int (nI q))] [] := by
  have b0 := B.S
  have b1 := B.P (s := s) (by omega)
  intro n
  induction n with
  | zero =>
    intro q a hq ha hi
    refine r_iload_n (pc := 30) C dX6_settle_30 rfl rfl ?_
    refine r_aload_n (pc := 31) C dX6_settle_31 rfl rfl ?_
    refine r_getR (pc := 32) C fl_X6_7 E.L.o rfl E.L.r1 dX6_settle_32 ?_
    refine r_iload_n (pc := 35) C dX6_settle_35 rfl rfl ?_
    refine n_iald (pc := 36) C E.L.s1 (by omega) (E.k_P _ (by omega)) dX6_settle_36 ?_
    refine n_icmp_ge (pc := 37) (tgt := 82) C (by omega) (by omega) dX6_settle_37 (by decide) (fun c37 => ?_) (fun c37 => absurd c37 (by omega))
    refine k a q ha ?_
    rw [hi]
    obtain rfl : q = tN t 1 s := by omega
    refine ⟨fun z => ⟨z.1, fun s' hs' => ?_⟩, fun z => ⟨z.1, fun s' hs' => z.2 s' (by omega), z.2 s (by omega)⟩⟩
    by_cases e : s' = s
    · subst e; exact z.2.2
    · exact z.2.1 s' (by omega)
  | succ n ih =>
    intro q a hq ha hi
    have b2 := (B.bool (4 * s + q)).2.1
    have st0 : ¬ (tN t 6 (4 * s + q) = 1 ∧ (s = 0 ∨ allC t s q)) ∨ a = 0 → (0 = 1 ↔ tN t 0 5 ≠ 0 ∧ allS t s ∧ allQ t s (q + 1)) := by
      intro z
      refine ⟨fun q => by omega, fun w => ?_⟩
      rcases z with z | z
      · exact absurd (w.2.2 q (by omega)) z
      · have := hi.mpr ⟨w.1, w.2.1, fun q' hq' => w.2.2 q' (by omega)⟩; omega
    have st1 : (tN t 6 (4 * s + q) = 1 ∧ (s = 0 ∨ allC t s q)) → a = 1 → (1 = 1 ↔ tN t 0 5 ≠ 0 ∧ allS t s ∧ allQ t s (q + 1)) := by
      intro z1 z2
      refine ⟨fun _ => ⟨(hi.mp z2).1, (hi.mp z2).2.1, fun q' hq' => ?_⟩, fun _ => rfl⟩
      by_cases e : q' = q
      · subst e; exact z1
      · exact (hi.mp z2).2.2 q' (by omega)
    refine r_iload_n (pc := 30) C dX6_settle_30 rfl rfl ?_
    refine r_aload_n (pc := 31) C dX6_settle_31 rfl rfl ?_
    refine r_getR (pc := 32) C fl_X6_7 E.L.o rfl E.L.r1 dX6_settle_32 ?_
    refine r_iload_n (pc := 35) C dX6_settle_35 rfl rfl ?_
    refine n_iald (pc := 36) C E.L.s1 (by omega) (E.k_P _ (by omega)) dX6_settle_36 ?_
    refine n_icmp_ge (pc := 37) (tgt := 82) C (by omega) (by omega) dX6_settle_37 (by decide) (fun c37 => absurd c37 (by omega)) (fun c37 => ?_)
    refine r_iload_n (pc := 40) C dX6_settle_40 rfl rfl ?_
    refine n_if_eq (pc := 41) (tgt := 74) C (by omega) dX6_settle_41 (by decide) (fun c41 => ?_) (fun c41 => ?_)
    · refine r_iconst (pc := 74) (v := (nI 0)) C dX6_settle_74 (by decide) ?_
      refine r_istore_n (pc := 75) (lv' := [_, _, _, _]) C dX6_settle_75 rfl (by decide) rfl rfl ?_
      refine n_iinc (pc := 76) (lv' := [_, _, _, _]) C dX6_settle_76 rfl (by decide) rfl rfl ?_
      refine r_goto (pc := 79) (tgt := 30) C dX6_settle_79 (by decide) ?_
      exact ih (q + 1) _ (by omega) (by omega) (by first | exact st1 ⟨by omega, Or.inr c67⟩ (by omega) | exact st1 ⟨by omega, Or.inl c58⟩ (by omega) | exact st0 (Or.inl (fun z => z.2.elim c58 c67)) | exact st0 (Or.inr (by omega)) | exact st0 (Or.inl (fun z => by omega)))
    · refine r_aload_n (pc := 44) C dX6_settle_44 rfl rfl ?_
      refine r_getR (pc := 45) C fl_X6_46 E.L.o rfl E.L.r14 dX6_settle_45 ?_
      refine r_iconst (pc := 48) (v := (nI 4)) C dX6_settle_48 (by decide) ?_
      refine r_iload_n (pc := 49) C dX6_settle_49 rfl rfl ?_
      refine n_imul (pc := 50) C dX6_settle_50 ?_
      refine r_iload_n (pc := 51) C dX6_settle_51 rfl rfl ?_
      refine n_iadd (pc := 52) C dX6_settle_52 ?_
      refine n_zald (pc := 53) C E.L.s14 (by omega) (E.k_took _ (by omega)) dX6_settle_53 ?_
      refine n_if_eq (pc := 54) (tgt := 74) C (by omega) dX6_settle_54 (by decide) (fun c54 => ?_) (fun c54 => ?_)
      · refine r_iconst (pc := 74) (v := (nI 0)) C dX6_settle_74 (by decide) ?_
        refine r_istore_n (pc := 75) (lv' := [_, _, _, _]) C dX6_settle_75 rfl (by decide) rfl rfl ?_
        refine n_iinc (pc := 76) (lv' := [_, _, _, _]) C dX6_settle_76 rfl (by decide) rfl rfl ?_
        refine r_goto (pc := 79) (tgt := 30) C dX6_settle_79 (by decide) ?_
        exact ih (q + 1) _ (by omega) (by omega) (by first | exact st1 ⟨by omega, Or.inr c67⟩ (by omega) | exact st1 ⟨by omega, Or.inl c58⟩ (by omega) | exact st0 (Or.inl (fun z => z.2.elim c58 c67)) | exact st0 (Or.inr (by omega)) | exact st0 (Or.inl (fun z => by omega)))
      · refine r_iload_n (pc := 57) C dX6_settle_57 rfl rfl ?_
        refine n_if_eq (pc := 58) (tgt := 70) C (by omega) dX6_settle_58 (by decide) (fun c58 => ?_) (fun c58 => ?_)
        · refine r_iconst (pc := 70) (v := (nI 1)) C dX6_settle_70 (by decide) ?_
          refine r_goto (pc := 71) (tgt := 75) C dX6_settle_71 (by decide) ?_
          refine r_istore_n (pc := 75) (lv' := [_, _, _, _]) C dX6_settle_75 rfl (by decide) rfl rfl ?_
          refine n_iinc (pc := 76) (lv' := [_, _, _, _]) C dX6_settle_76 rfl (by decide) rfl rfl ?_
          refine r_goto (pc := 79) (tgt := 30) C dX6_settle_79 (by decide) ?_
          exact ih (q + 1) _ (by omega) (by omega) (by first | exact st1 ⟨by omega, Or.inr c67⟩ (by omega) | exact st1 ⟨by omega, Or.inl c58⟩ (by omega) | exact st0 (Or.inl (fun z => z.2.elim c58 c67)) | exact st0 (Or.inr (by omega)) | exact st0 (Or.inl (fun z => by omega)))
        · refine r_aload_n (pc := 61) C dX6_settle_61 rfl rfl ?_
          refine r_iload_n (pc := 62) C dX6_settle_62 rfl rfl ?_
          refine r_iload_n (pc := 63) C dX6_settle_63 rfl rfl ?_
          refine r_calli (cr_V (pc := 64) C (c_X6_allCame E B (s := s) (q := q) (by omega) hS (by omega)) dX6_settle_64 cm_X6_allCame ml_X6_126 im_X6_allCame se_X6_allCame E.L.o rfl ⟨⟨Nat.le_of_ble_eq_true rfl, Nat.le_of_ble_eq_true rfl⟩, Nat.le_of_ble_eq_true rfl, Nat.le_of_ble_eq_true rfl⟩ rfl rfl (Nat.le_of_ble_eq_true rfl)) (fun v64 h64 hq64 => ?_)
          obtain ⟨rfl, rfl⟩ := hq64
          refine b_if_eq (pc := 67) (tgt := 74) C dX6_settle_67 (by decide) (fun c67 => ?_) (fun c67 => ?_)
          · refine r_iconst (pc := 74) (v := (nI 0)) C dX6_settle_74 (by decide) ?_
            refine r_istore_n (pc := 75) (lv' := [_, _, _, _]) C dX6_settle_75 rfl (by decide) rfl rfl ?_
            refine n_iinc (pc := 76) (lv' := [_, _, _, _]) C dX6_settle_76 rfl (by decide) rfl rfl ?_
            refine r_goto (pc := 79) (tgt := 30) C dX6_settle_79 (by decide) ?_
            exact ih (q + 1) _ (by omega) (by omega) (by first | exact st1 ⟨by omega, Or.inr c67⟩ (by omega) | exact st1 ⟨by omega, Or.inl c58⟩ (by omega) | exact st0 (Or.inl (fun z => z.2.elim c58 c67)) | exact st0 (Or.inr (by omega)) | exact st0 (Or.inl (fun z => by omega)))
          · refine r_iconst (pc := 70) (v := (nI 1)) C dX6_settle_70 (by decide) ?_
            refine r_goto (pc := 71) (tgt := 75) C dX6_settle_71 (by decide) ?_
            refine r_istore_n (pc := 75) (lv' := [_, _, _, _]) C dX6_settle_75 rfl (by decide) rfl rfl ?_
            refine n_iinc (pc := 76) (lv' := [_, _, _, _]) C dX6_settle_76 rfl (by decide) rfl rfl ?_
            refine r_goto (pc := 79) (tgt := 30) C dX6_settle_79 (by decide) ?_
            exact ih (q + 1) _ (by omega) (by omega) (by first | exact st1 ⟨by omega, Or.inr c67⟩ (by omega) | exact st1 ⟨by omega, Or.inl c58⟩ (by omega) | exact st0 (Or.inl (fun z => z.2.elim c58 c67)) | exact st0 (Or.inr (by omega)) | exact st0 (Or.inl (fun z => by omega)))
theorem settle_l1 (C : CX G F mX6_settle (Rm 2 0 0)) {t : TS} {h : AH} (E : RM m t h) (B : TB t) (k : ∀ a x2 x3, a ≤ 1 → (a = 1 ↔ tN t 0 5 ≠ 0 ∧ allW t) → WA G F mX6_settle h 0 0 Q 88 [some (.ref m), some (.int (nI a)), x2, x3] []) :
    ∀ (n s a : Nat) (x3 : Option Value), s + n = tN t 0 0 → a ≤ 1 → (a = 1 ↔ tN t 0 5 ≠ 0 ∧ allS t s) → WA G F mX6_settle h 0 0 Q 16 [some (.ref m), some (.int (nI a)), some (.int (nI s)), x3] [] := by
  have b0 := B.S
  intro n
  induction n with
  | zero =>
    intro s a x3 hs ha hi
    refine r_iload_n (pc := 16) C dX6_settle_16 rfl rfl ?_
    refine r_aload_n (pc := 17) C dX6_settle_17 rfl rfl ?_
    refine r_getIe (pc := 18) C fl_X6_91 E.L.o rfl E.S dX6_settle_18 ?_
    refine n_icmp_ge (pc := 21) (tgt := 88) C (by omega) (by omega) dX6_settle_21 (by decide) (fun c21 => ?_) (fun c21 => absurd c21 (by omega))
    refine k a _ _ ha ?_
    rw [hi, show s = tN t 0 0 by omega]
    exact ⟨fun z => ⟨z.1, fun s' h1 q' h2 => z.2 s' h1 q' h2⟩, fun z => ⟨z.1, fun s' h1 q' h2 => z.2 s' h1 q' h2⟩⟩
  | succ n ih =>
    intro s a x3 hs ha hi
    refine r_iload_n (pc := 16) C dX6_settle_16 rfl rfl ?_
    refine r_aload_n (pc := 17) C dX6_settle_17 rfl rfl ?_
    refine r_getIe (pc := 18) C fl_X6_91 E.L.o rfl E.S dX6_settle_18 ?_
    refine n_icmp_ge (pc := 21) (tgt := 88) C (by omega) (by omega) dX6_settle_21 (by decide) (fun c21 => absurd c21 (by omega)) (fun c21 => ?_)
    refine r_iload_n (pc := 24) C dX6_settle_24 rfl rfl ?_
    refine n_if_eq (pc := 25) (tgt := 88) C (by omega) dX6_settle_25 (by decide) (fun c25 => ?_) (fun c25 => ?_)
    · refine k a _ _ ha ?_
      refine ⟨fun z => by omega, fun z => ?_⟩
      have := hi.mpr ⟨z.1, fun s' h1 q' h2 => z.2 s' (by omega) q' h2⟩
      omega
    · refine r_iconst (pc := 28) (v := (nI 0)) C dX6_settle_28 (by decide) ?_
      refine r_istore_n (pc := 29) (lv' := [_, _, _, _]) C dX6_settle_29 rfl (by decide) rfl rfl ?_
      refine settle_l2 C E B (by omega) (fun a' q' ha' hi' => ?_) _ 0 a (Nat.zero_add _) ha (by rw [hi]; exact ⟨fun z => ⟨z.1, z.2, fun q' hq' => absurd hq' (by omega)⟩, fun z => ⟨z.1, z.2.1⟩⟩)
      refine n_iinc (pc := 82) (lv' := [_, _, _, _]) C dX6_settle_82 rfl (by decide) rfl rfl ?_
      refine r_goto (pc := 85) (tgt := 16) C dX6_settle_85 (by decide) ?_
      exact ih (s + 1) a' _ (by omega) ha' hi'
end MC28
theorem c_X6_settle {G : GP} {m : Nat} {t : TS} {h : AH} (E : RM m t h) (B : TB t) : MA G mX6_settle 2 0 0 [.ref m] h (Ov (fun h' => RM m (spSettle t) h' ∧ Fr m (m + 24) h h')) := by
  have b1 := B.uw
  have b2 := B.marks
  refine MA.intro (lv := [some (.ref m), none, none, none]) (by decide) (Nat.le_of_ble_eq_true rfl) rfl (fun F C => ?_)
  have tail : ∀ a x2 x3, a ≤ 1 → (a = 1 ↔ tN t 0 5 ≠ 0 ∧ allW t) → WA G F mX6_settle h 0 0 (MQA G F 0 0 (Ov (fun h' => RM m (spSettle t) h' ∧ Fr m (m + 24) h h'))) 88 [some (.ref m), some (.int (nI a)), x2, x3] [] := by
    intro a x2 x3 ha hi
    refine r_iload_n (pc := 88) C dX6_settle_88 rfl rfl ?_
    refine n_if_eq (pc := 89) (tgt := 97) C (by omega) dX6_settle_89 (by decide) (fun c89 => ?_) (fun c89 => ?_)
    · have e : spSettle t = t := cif_f (fun z => by have := hi.mpr z; omega)
      rw [e]
      exact r_vret (pc := 97) C rfl (Nat.le_of_ble_eq_true rfl) (Nat.le_of_ble_eq_true rfl) ⟨rfl, (by first | exact hq94 | exact ⟨E, Fr.rf⟩)⟩ dX6_settle_97
    · have e : spSettle t = spEnd t 1 := cif_t (hi.mp (by omega))
      have hu := (hi.mp (by omega)).1
      rw [e]
      refine r_aload_n (pc := 92) C dX6_settle_92 rfl rfl ?_
      refine r_iconst (pc := 93) (v := (nI 1)) C dX6_settle_93 (by decide) ?_
      refine r_callv (cr_V (pc := 94) C (c_X6_end E B (j := tN t 0 5 - 1) (by omega) 1) dX6_settle_94 cm_X6_end ml_X6_114 im_X6_end se_X6_end E.L.o rfl ⟨⟨Nat.le_of_ble_eq_true rfl, Nat.le_of_ble_eq_true rfl⟩, Nat.le_of_ble_eq_true rfl, Nat.le_of_ble_eq_true rfl⟩ rfl rfl (Nat.le_of_ble_eq_true rfl)) (fun h94 hq94 => ?_)
      have E2 := hq94
      exact r_vret (pc := 97) C rfl (Nat.le_of_ble_eq_true rfl) (Nat.le_of_ble_eq_true rfl) ⟨rfl, (by first | exact hq94 | exact ⟨E, Fr.rf⟩)⟩ dX6_settle_97
  have hd : ∀ a, a ≤ 1 → (a = 1 ↔ tN t 0 5 ≠ 0) → WA G F mX6_settle h 0 0 (MQA G F 0 0 (Ov (fun h' => RM m (spSettle t) h' ∧ Fr m (m + 24) h h'))) 13 [some (.ref m), none, none, none] [.int (nI a)] := by
    intro a ha hi
    refine r_istore_n (pc := 13) (lv' := [_, _, _, _]) C dX6_settle_13 rfl (by decide) rfl rfl ?_
    refine r_iconst (pc := 14) (v := (nI 0)) C dX6_settle_14 (by decide) ?_
    refine r_istore_n (pc := 15) (lv' := [_, _, _, _]) C dX6_settle_15 rfl (by decide) rfl rfl ?_
    exact settle_l1 C E B tail _ 0 a _ (Nat.zero_add _) ha (by rw [hi]; exact ⟨fun z => ⟨z, fun s' h1 => absurd h1 (by omega)⟩, fun z => z.1⟩)
  refine r_aload_n (pc := 0) C dX6_settle_0 rfl rfl ?_
  refine r_getIe (pc := 1) C fl_X6_58 E.L.o rfl E.uw dX6_settle_1 ?_
  refine r_iconst (pc := 4) (v := (-1)) C dX6_settle_4 (by decide) ?_
  refine r_icmp_eq (pc := 5) (tgt := 12) C dX6_settle_5 (by decide) (fun c5 => ?_) (fun c5 => ?_)
  · refine r_iconst (pc := 12) (v := (nI 0)) C dX6_settle_12 (by decide) ?_
    first | exact hd 0 (by decide) ⟨fun z => by omega, fun z => absurd ((uwm1 (by omega)).mp c5) z⟩ | exact hd 1 (by decide) ⟨fun _ z => c5 ((uwm1 (by omega)).mpr z), fun _ => rfl⟩
  · refine r_iconst (pc := 8) (v := (nI 1)) C dX6_settle_8 (by decide) ?_
    refine r_goto (pc := 9) (tgt := 13) C dX6_settle_9 (by decide) ?_
    first | exact hd 0 (by decide) ⟨fun z => by omega, fun z => absurd ((uwm1 (by omega)).mp c5) z⟩ | exact hd 1 (by decide) ⟨fun _ z => c5 ((uwm1 (by omega)).mpr z), fun _ => rfl⟩
