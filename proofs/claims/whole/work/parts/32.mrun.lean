/-! ===== the reference: run ===== -/
def SP (t t' : TS) : Prop := tN t' 1 = tN t 1 ∧ tN t' 0 0 = tN t 0 0
theorem Same.sp {t t' : TS} (h : Same t t') : SP t t' := ⟨h.1, h.2.2.2.2.2.1⟩
theorem SP.tr {a b c : TS} (h : SP a b) (g : SP b c) : SP a c := ⟨g.1.trans h.1, g.2.trans h.2⟩
theorem SP.came {t : TS} {s q c : Nat} : SP t (spCame t s q c) := by
  refine SP.tr (b := spCame1 (uN (uN t 5 c 1) 4 c 0) s q c) ?_ Same.settle.sp
  refine SP.tr (b := uN (uN t 5 c 1) 4 c 0) ⟨rfl, rfl⟩ ?_
  generalize uN (uN t 5 c 1) 4 c 0 = t
  unfold spCame1
  by_cases h1 : tN t 6 (4 * s + q) = 0
  · rw [cif_t h1]
    by_cases h2 : tN t 12 (48 * (tN t 0 5 - 1) + c) ≠ 0 ∨ tI t 0 0 = 0
    · rw [cif_t h2]; exact Same.part.sp
    · rw [cif_f h2]
      by_cases h3 : allC t s q
      · rw [cif_t h3]; exact Same.part.sp
      · rw [cif_f h3]
        by_cases h4 : tN t 7 (4 * s + q) = 0
        · rw [cif_t h4]; exact ⟨rfl, rfl⟩
        · rw [cif_f h4]; exact ⟨rfl, rfl⟩
  · rw [cif_f h1]; exact ⟨rfl, rfl⟩
theorem SP.takeFrom {t t' : TS} {s q f : Nat} (h : spTakeFrom t s q f = some t') : SP t t' := by
  unfold spTakeFrom at h
  by_cases h1 : tC t (16 * (s - 1) + 4 * f + q) = [] ∨ shut t s q (16 * (s - 1) + 4 * f + q)
  · rw [cif_t h1] at h; cases h
  · rw [cif_f h1] at h
    by_cases h2 : s + 1 < tN t 0 0 ∧ tN t 0 1 ≤ (tC t (outC t s q ((tC t (16 * (s - 1) + 4 * f + q)).headD 0))).length
    · rw [cif_t h2] at h; cases h
    · rw [cif_f h2] at h
      injection h with h
      subst h
      by_cases h3 : s + 1 < tN t 0 0
      · rw [cif_t h3]; exact SP.tr (b := spKept _ s q _ _) (SP.tr (b := uN (spTake (spOff t _) s _) 8 _ _) ⟨rfl, rfl⟩ Same.kept.sp) ⟨rfl, rfl⟩
      · rw [cif_f h3]; exact SP.tr (b := uN (spTake (spOff t _) s _) 8 _ _) ⟨rfl, rfl⟩ Same.kept.sp
theorem SP.rows {t : TS} {s q a : Nat} : ∀ n i, SP t (spRows t s q a n i).2 ∧ (spRows t s q a n i).1 ≤ 3
  | 0, i => ⟨⟨rfl, rfl⟩, Nat.zero_le 3⟩
  | n + 1, i => by
    unfold spRows
    cases h : spTakeFrom t s q ((a + i) % tN t 1 (s - 1)) with
    | none => exact SP.rows n (i + 1)
    | some t' => exact ⟨SP.takeFrom h, (by decide : 1 ≤ 3)⟩
theorem SP.source {t : TS} {q : Nat} : SP t (spSource t q).2 ∧ (spSource t q).1 ≤ 3 := by
  unfold spSource
  split
  · exact ⟨⟨rfl, rfl⟩, Nat.zero_le 3⟩
  · split
    · exact ⟨⟨rfl, rfl⟩, Nat.zero_le 3⟩
    · exact ⟨⟨rfl, rfl⟩, (by decide : 1 ≤ 3)⟩
theorem SP.turn {t : TS} {s q : Nat} : SP t (spTurn t s q).2 ∧ (spTurn t s q).1 ≤ 3 := by
  unfold spTurn
  split
  · exact ⟨SP.tr (b := uI t 0 1 (tI t 0 1 + 1)) ⟨rfl, rfl⟩ SP.source.1, SP.source.2⟩
  · have h0 : SP t (uI t 0 1 (tI t 0 1 + 1)) := ⟨rfl, rfl⟩
    generalize uI t 0 1 (tI t 0 1 + 1) = u at h0
    unfold spTurn1
    cases fstB u s q (tN u 1 (s - 1)) 0 with
    | some f => exact ⟨h0.tr SP.came, (by decide : 2 ≤ 3)⟩
    | none =>
      show SP t (cif _ _ _ : Nat × TS).2 ∧ (cif _ _ _ : Nat × TS).1 ≤ 3
      by_cases hc : tN u 7 (4 * s + q) ≠ 0 ∧ tI u 0 0 ≠ -1 ∧ ¬ tI u 0 1 - tI u 1 (4 * s + q) < tI u 0 0
      · rw [cif_t hc]; exact ⟨(h0.tr Same.part.sp).tr Same.settle.sp, Nat.le_refl 3⟩
      · rw [cif_f hc]; exact ⟨h0.tr (SP.rows _ _).1, (SP.rows _ _).2⟩
noncomputable def spRq (s : Nat) : Nat → Nat → Nat → TS → Nat × TS
  | 0, _, d, t => (d, t)
  | n + 1, q, d, t => spRq s n (q + 1) (d + (if (spTurn t s q).1 = 0 then 0 else 1)) (spTurn t s q).2
noncomputable def spRs : Nat → Nat → Nat → TS → Nat × TS
  | 0, _, d, t => (d, t)
  | n + 1, s, d, t => spRs n (s + 1) (spRq s (tN t 1 s) 0 d t).1 (spRq s (tN t 1 s) 0 d t).2
noncomputable def spRr : Nat → Nat → TS → Nat × TS
  | 0, d, t => (d, t)
  | n + 1, d, t => spRr n (spRs (tN t 0 0) 0 d t).1 (spRs (tN t 0 0) 0 d t).2
noncomputable def spRun (t : TS) (x : Int32) : Int32 × TS := cif (nI 1 ≤ x ∧ x ≤ nI 50) (nI (spRr x.toNatClampNeg 0 t).1, (spRr x.toNatClampNeg 0 t).2) (-102, t)
/-- J holds all the way through a run -/
def JC (J : TS → Prop) : Prop := (∀ t, J t → TG t) ∧ ∀ t s q, J t → s < tN t 0 0 → q < tN t 1 s → J (spTurn t s q).2
theorem SP.rq {s : Nat} : ∀ n q d t, SP t (spRq s n q d t).2
  | 0, q, d, t => ⟨rfl, rfl⟩
  | n + 1, q, d, t => SP.turn.1.tr (SP.rq n (q + 1) _ _)
theorem SP.rs : ∀ n s d t, SP t (spRs n s d t).2
  | 0, s, d, t => ⟨rfl, rfl⟩
  | n + 1, s, d, t => (SP.rq _ _ _ _).tr (SP.rs n (s + 1) _ _)
theorem SP.rr : ∀ n d t, SP t (spRr n d t).2
  | 0, d, t => ⟨rfl, rfl⟩
  | n + 1, d, t => (SP.rs _ _ _ _).tr (SP.rr n _ _)
theorem JC.rq {J : TS → Prop} (hJ : JC J) {s : Nat} : ∀ n q d t, J t → s < tN t 0 0 → q + n = tN t 1 s → J (spRq s n q d t).2
  | 0, q, d, t, h, _, _ => h
  | n + 1, q, d, t, h, hs, hq => JC.rq hJ n (q + 1) _ _ (hJ.2 t s q h hs (by omega)) (by rw [SP.turn.1.2]; exact hs) (by rw [SP.turn.1.1]; omega)
theorem JC.rs {J : TS → Prop} (hJ : JC J) : ∀ n s d t, J t → s + n = tN t 0 0 → J (spRs n s d t).2
  | 0, s, d, t, h, _ => h
  | n + 1, s, d, t, h, hs => JC.rs hJ n (s + 1) _ _ (hJ.rq _ 0 _ _ h (by omega) (Nat.zero_add _)) (by rw [(SP.rq _ _ _ _).2]; omega)
theorem JC.rr {J : TS → Prop} (hJ : JC J) : ∀ n d t, J t → J (spRr n d t).2
  | 0, d, t, h => h
  | n + 1, d, t, h => JC.rr hJ n _ _ (hJ.rs _ 0 _ _ h (Nat.zero_add _))
section MR32
variable {G : GP} {F : FX} {m : Nat} {Q : State → Prop}
theorem run_l3 (C : CX G F mX6_run (Rm 5 0 0)) {J : TS → Prop} (hJ : JC J) {h0 : AH} {r s : Nat} {x : Int32} {e : Nat × TS} (k : ∀ h x5, RM m e.2 h → Fr m (m + 24) h0 h → WA G F mX6_run h 0 0 Q 74 [some (.ref m), some (.int x), some (.int (nI e.1)), some (.int (nI r)), some (.int (nI s)), some (.int x5)] []) :
    ∀ (n q d : Nat) (t : TS) (h : AH), q + n = tN t 1 s → s < tN t 0 0 → spRq s n q d t = e → J t → RM m t h → Fr m (m + 24) h0 h → WA G F mX6_run h 0 0 Q 37 [some (.ref m), some (.int x), some (.int (nI d)), some (.int (nI r)), some (.int (nI s)), some (.int (nI q))] [] := by
  intro n
  induction n with
  | zero =>
    intro q d t h hq hs he hj E f
    have B := (hJ.1 t hj).1
    have b0 := B.S
    have b1 := B.P (s := s) (by omega)
    rw [show spRq s 0 q d t = (d, t) from rfl] at he
    subst he
    refine r_iload (pc := 37) C dX6_run_37 rfl ?_
    refine r_aload_n (pc := 39) C dX6_run_39 rfl rfl ?_
    refine r_getR (pc := 40) C fl_X6_7 E.L.o rfl E.L.r1 dX6_run_40 ?_
    refine r_iload (pc := 43) C dX6_run_43 rfl ?_
    refine n_iald (pc := 45) C E.L.s1 (by omega) (E.k_P _ (by omega)) dX6_run_45 ?_
    refine n_icmp_ge (pc := 46) (tgt := 74) C (by omega) (by omega) dX6_run_46 (by decide) (fun c46 => ?_) (fun c46 => absurd c46 (by omega))
    exact k h _ E f
  | succ n ih =>
    intro q d t h hq hs he hj E f
    have BG := hJ.1 t hj
    have B := BG.1
    have b0 := B.S
    have b1 := B.P (s := s) (by omega)
    have b2 := (SP.turn (t := t) (s := s) (q := q)).2
    unfold spRq at he
    have hin : inT t (nI s) (nI q) := ⟨s, hs, rfl, q, by omega, rfl⟩
    refine r_iload (pc := 37) C dX6_run_37 rfl ?_
    refine r_aload_n (pc := 39) C dX6_run_39 rfl rfl ?_
    refine r_getR (pc := 40) C fl_X6_7 E.L.o rfl E.L.r1 dX6_run_40 ?_
    refine r_iload (pc := 43) C dX6_run_43 rfl ?_
    refine n_iald (pc := 45) C E.L.s1 (by omega) (E.k_P _ (by omega)) dX6_run_45 ?_
    refine n_icmp_ge (pc := 46) (tgt := 74) C (by omega) (by omega) dX6_run_46 (by decide) (fun c46 => absurd c46 (by omega)) (fun c46 => ?_)
    refine r_iload_n (pc := 49) C dX6_run_49 rfl rfl ?_
    refine r_aload_n (pc := 50) C dX6_run_50 rfl rfl ?_
    refine r_iload (pc := 51) C dX6_run_51 rfl ?_
    refine r_iload (pc := 53) C dX6_run_53 rfl ?_
    refine r_calli (cr_V (pc := 55) C (c_X6_turn E BG (nI s) (nI q)) dX6_run_55 cm_X6_turn ml_X6_163 im_X6_turn se_X6_turn E.L.o rfl ⟨⟨Nat.le_of_ble_eq_true rfl, Nat.le_of_ble_eq_true rfl⟩, Nat.le_of_ble_eq_true rfl, Nat.le_of_ble_eq_true rfl⟩ rfl rfl (Nat.le_of_ble_eq_true rfl)) (fun v55 h55 hq55 => ?_)
    obtain ⟨e1, E2, f2⟩ := hq55
    rw [show spTurnP t (nI s) (nI q) = (nI (spTurn t s q).1, (spTurn t s q).2) from (cif_t hin).trans (by rw [cl (by omega), cl (by omega)])] at e1 E2
    have e1 : v55 = nI (spTurn t s q).1 := e1
    subst e1
    refine n_if_eq (pc := 58) (tgt := 65) C (by omega) dX6_run_58 (by decide) (fun c58 => ?_) (fun c58 => ?_)
    · refine r_iconst (pc := 65) (v := (nI 0)) C dX6_run_65 (by decide) ?_
      refine n_iadd (pc := 66) C dX6_run_66 ?_
      refine r_istore_n (pc := 67) (lv' := [_, _, _, _, _, _]) C dX6_run_67 rfl (by decide) rfl rfl ?_
      refine n_iinc (pc := 68) (lv' := [_, _, _, _, _, _]) C dX6_run_68 rfl (by decide) rfl rfl ?_
      refine r_goto (pc := 71) (tgt := 37) C dX6_run_71 (by decide) ?_
      refine ih (q + 1) _ _ _ (by rw [SP.turn.1.1]; omega) (by rw [SP.turn.1.2]; exact hs) ?_ (hJ.2 t s q hj hs (by omega)) E2 (f.tr f2)
      rw [← he]
      first | rw [if_pos c58] | rw [if_neg c58]
    · refine r_iconst (pc := 61) (v := (nI 1)) C dX6_run_61 (by decide) ?_
      refine r_goto (pc := 62) (tgt := 66) C dX6_run_62 (by decide) ?_
      refine n_iadd (pc := 66) C dX6_run_66 ?_
      refine r_istore_n (pc := 67) (lv' := [_, _, _, _, _, _]) C dX6_run_67 rfl (by decide) rfl rfl ?_
      refine n_iinc (pc := 68) (lv' := [_, _, _, _, _, _]) C dX6_run_68 rfl (by decide) rfl rfl ?_
      refine r_goto (pc := 71) (tgt := 37) C dX6_run_71 (by decide) ?_
      refine ih (q + 1) _ _ _ (by rw [SP.turn.1.1]; omega) (by rw [SP.turn.1.2]; exact hs) ?_ (hJ.2 t s q hj hs (by omega)) E2 (f.tr f2)
      rw [← he]
      first | rw [if_pos c58] | rw [if_neg c58]
theorem run_l2 (C : CX G F mX6_run (Rm 5 0 0)) {J : TS → Prop} (hJ : JC J) {h0 : AH} {r : Nat} {x : Int32} {e : Nat × TS} (k : ∀ h x4 x5, RM m e.2 h → Fr m (m + 24) h0 h → WA G F mX6_run h 0 0 Q 80 [some (.ref m), some (.int x), some (.int (nI e.1)), some (.int (nI r)), some (.int x4), x5] []) :
    ∀ (n s d : Nat) (t : TS) (h : AH) (x5 : Option Value), s + n = tN t 0 0 → spRs n s d t = e → J t → RM m t h → Fr m (m + 24) h0 h → WA G F mX6_run h 0 0 Q 25 [some (.ref m), some (.int x), some (.int (nI d)), some (.int (nI r)), some (.int (nI s)), x5] [] := by
  intro n
  induction n with
  | zero =>
    intro s d t h x5 hs he hj E f
    have B := (hJ.1 t hj).1
    have b0 := B.S
    rw [show spRs 0 s d t = (d, t) from rfl] at he
    subst he
    refine r_iload (pc := 25) C dX6_run_25 rfl ?_
    refine r_aload_n (pc := 27) C dX6_run_27 rfl rfl ?_
    refine r_getIe (pc := 28) C fl_X6_91 E.L.o rfl E.S dX6_run_28 ?_
    refine n_icmp_ge (pc := 31) (tgt := 80) C (by omega) (by omega) dX6_run_31 (by decide) (fun c31 => ?_) (fun c31 => absurd c31 (by omega))
    exact k h _ _ E f
  | succ n ih =>
    intro s d t h x5 hs he hj E f
    have B := (hJ.1 t hj).1
    have b0 := B.S
    have b1 := B.P (s := s) (by omega)
    unfold spRs at he
    refine r_iload (pc := 25) C dX6_run_25 rfl ?_
    refine r_aload_n (pc := 27) C dX6_run_27 rfl rfl ?_
    refine r_getIe (pc := 28) C fl_X6_91 E.L.o rfl E.S dX6_run_28 ?_
    refine n_icmp_ge (pc := 31) (tgt := 80) C (by omega) (by omega) dX6_run_31 (by decide) (fun c31 => absurd c31 (by omega)) (fun c31 => ?_)
    refine r_iconst (pc := 34) (v := (nI 0)) C dX6_run_34 (by decide) ?_
    refine r_istore (pc := 35) (lv' := [_, _, _, _, _, _]) C dX6_run_35 (by decide) rfl rfl ?_
    refine run_l3 C hJ (fun h1 x5 E1 f1 => ?_) (tN t 1 s) 0 d t h (Nat.zero_add _) (by omega) rfl hj E f
    refine n_iinc (pc := 74) (lv' := [_, _, _, _, _, _]) C dX6_run_74 rfl (by decide) rfl rfl ?_
    refine r_goto (pc := 77) (tgt := 25) C dX6_run_77 (by decide) ?_
    exact ih (s + 1) _ _ h1 _ (by rw [(SP.rq _ _ _ _).2]; omega) he (hJ.rq _ 0 _ _ hj (by omega) (Nat.zero_add _)) E1 f1
theorem run_l1 (C : CX G F mX6_run (Rm 5 0 0)) {J : TS → Prop} (hJ : JC J) {h0 : AH} {p : Nat} (hp : p ≤ 50) {e : Nat × TS} (k : ∀ h x3 x4 x5, RM m e.2 h → Fr m (m + 24) h0 h → WA G F mX6_run h 0 0 Q 86 [some (.ref m), some (.int (nI p)), some (.int (nI e.1)), some (.int x3), x4, x5] []) :
    ∀ (n r d : Nat) (t : TS) (h : AH) (x4 x5 : Option Value), r + n = p → spRr n d t = e → J t → RM m t h → Fr m (m + 24) h0 h → WA G F mX6_run h 0 0 Q 17 [some (.ref m), some (.int (nI p)), some (.int (nI d)), some (.int (nI r)), x4, x5] [] := by
  intro n
  induction n with
  | zero =>
    intro r d t h x4 x5 hr he hj E f
    rw [show spRr 0 d t = (d, t) from rfl] at he
    subst he
    refine r_iload_n (pc := 17) C dX6_run_17 rfl rfl ?_
    refine r_iload_n (pc := 18) C dX6_run_18 rfl rfl ?_
    refine n_icmp_ge (pc := 19) (tgt := 86) C (by omega) (by omega) dX6_run_19 (by decide) (fun c19 => ?_) (fun c19 => absurd c19 (by omega))
    exact k h _ _ _ E f
  | succ n ih =>
    intro r d t h x4 x5 hr he hj E f
    have B := (hJ.1 t hj).1
    have b0 := B.S
    unfold spRr at he
    refine r_iload_n (pc := 17) C dX6_run_17 rfl rfl ?_
    refine r_iload_n (pc := 18) C dX6_run_18 rfl rfl ?_
    refine n_icmp_ge (pc := 19) (tgt := 86) C (by omega) (by omega) dX6_run_19 (by decide) (fun c19 => absurd c19 (by omega)) (fun c19 => ?_)
    refine r_iconst (pc := 22) (v := (nI 0)) C dX6_run_22 (by decide) ?_
    refine r_istore (pc := 23) (lv' := [_, _, _, _, _, _]) C dX6_run_23 (by decide) rfl rfl ?_
    refine run_l2 C hJ (fun h1 x4 x5 E1 f1 => ?_) (tN t 0 0) 0 d t h _ (Nat.zero_add _) rfl hj E f
    refine n_iinc (pc := 80) (lv' := [_, _, _, _, _, _]) C dX6_run_80 rfl (by decide) rfl rfl ?_
    refine r_goto (pc := 83) (tgt := 17) C dX6_run_83 (by decide) ?_
    exact ih (r + 1) _ _ h1 _ _ (by omega) he (hJ.rs _ 0 _ _ hj (Nat.zero_add _)) E1 f1
end MR32
theorem c_X6_run {G : GP} {m : Nat} {t : TS} {h : AH} (E : RM m t h) {J : TS → Prop} (hJ : JC J) (hj : J t) (x : Int32) : MA G mX6_run 5 0 0 [.ref m, .int x] h (Oi (MP m h (spRun t x))) := by
  refine MA.intro (lv := [some (.ref m), some (.int x), none, none, none, none]) (by decide) (Nat.le_of_ble_eq_true rfl) rfl (fun F C => ?_)
  have t17 : ∀ p, p ≤ 50 → nI 1 ≤ nI p ∧ nI p ≤ nI 50 → WA G F mX6_run h 0 0 (MQA G F 0 0 (Oi (MP m h (spRun t (nI p))))) 17 [some (.ref m), some (.int (nI p)), some (.int (nI 0)), some (.int (nI 0)), none, none] [] := by
    intro p hp c7
    refine run_l1 C hJ hp (fun h1 x3 x4 x5 E1 f1 => ?_) p 0 0 t h _ _ (Nat.zero_add _) rfl hj E Fr.rf
    refine r_iload_n (pc := 86) C dX6_run_86 rfl rfl ?_
    exact r_iret (pc := 87) C rfl (Nat.le_of_ble_eq_true rfl) (Nat.le_of_ble_eq_true rfl) ⟨_, rfl, (mp ((cif_t c7).trans (by rw [cl (by omega)])) E1 f1)⟩ dX6_run_87
  refine r_iload_n (pc := 0) C dX6_run_0 rfl rfl ?_
  refine r_iconst (pc := 1) (v := (nI 1)) C dX6_run_1 (by decide) ?_
  refine r_bipush (pc := 2) (v := (nI 50)) C dX6_run_2 (by decide) ?_
  refine r_calli (cr_S (pc := 4) C (c_X6_in _ _ _ _) dX6_run_4 cm_X6_in ml_X6_94 st_X6_in ⟨⟨Nat.le_of_ble_eq_true rfl, Nat.le_of_ble_eq_true rfl⟩, Nat.le_of_ble_eq_true rfl, Nat.le_of_ble_eq_true rfl⟩ rfl rfl (Nat.le_of_ble_eq_true rfl)) (fun v4 h4 hq4 => ?_)
  obtain ⟨rfl, rfl⟩ := hq4
  refine b_if_ne (pc := 7) (tgt := 13) C dX6_run_7 (by decide) (fun c7 => ?_) (fun c7 => ?_)
  · obtain ⟨p, h1, h2, rfl⟩ := inR_of (by decide) c7
    refine r_iconst (pc := 13) (v := (nI 0)) C dX6_run_13 (by decide) ?_
    refine r_istore_n (pc := 14) (lv' := [_, _, _, _, _, _]) C dX6_run_14 rfl (by decide) rfl rfl ?_
    refine r_iconst (pc := 15) (v := (nI 0)) C dX6_run_15 (by decide) ?_
    refine r_istore_n (pc := 16) (lv' := [_, _, _, _, _, _]) C dX6_run_16 rfl (by decide) rfl rfl ?_
    exact t17 p h2 c7
  · refine r_bipush (pc := 10) (v := (-102)) C dX6_run_10 (by decide) ?_
    exact r_iret (pc := 12) C rfl (Nat.le_of_ble_eq_true rfl) (Nat.le_of_ble_eq_true rfl) ⟨_, rfl, (mp (cif_f c7) E Fr.rf)⟩ dX6_run_12
