/-! ===== the reference: turn, run ===== -/
/-- good for a turn -/
def TG (t : TS) : Prop := TB t ∧ (∀ s f q, 1 ≤ s → s < tN t 0 0 → f < tN t 1 (s - 1) → q < tN t 1 s → ∀ r, r ∈ tC t (16 * (s - 1) + 4 * f + q) → tN t 3 (16 * s + tN t 2 r) < 200) ∧ (∀ c, tN t 4 c ≠ 0 → tN t 0 5 ≠ 0) ∧ ∀ q, tN t 7 q ≠ 0 → tN t 0 5 ≠ 0
def TP (m : Nat) (h : AH) (r : Nat × TS) : Int32 → AH → Prop := fun v h' => v = nI r.1 ∧ RM m r.2 h' ∧ Fr m (m + 24) h h'
theorem tp {m : Nat} {h h' : AH} {r : Nat × TS} {n : Nat} {t' : TS} (e : r = (n, t')) (E : RM m t' h') (f : Fr m (m + 24) h h') : TP m h r (nI n) h' := by
  subst e; exact ⟨rfl, E, f⟩
theorem bar_0 {b : Nat} (hb : b < 2147483648) : nI b - 1 = 0 ↔ b = 1 := by
  cases b with
  | zero => exact ⟨fun z => absurd z (by decide), fun z => by omega⟩
  | succ c =>
    rw [nI_pred, nI_0i (by omega)]
    omega
theorem WA.monoQ {G : GP} {F : FX} {M : MD} {h : AH} {cells slots mc ms pc : Nat} {lv : List (Option Value)} {st : List Value} {Qa Qb : Option Value → AH → Prop} (hq : ∀ r h', Qa r h' → Qb r h') (w : WA G F M h cells slots (MQA G F mc ms Qa) pc lv st) : WA G F M h cells slots (MQA G F mc ms Qb) pc lv st := by
  intro H locs ls hp hl hlv T hT X
  obtain ⟨t, a, o, b1, b2, ⟨r, h', c1, c2, c3⟩, b4⟩ := w H locs ls hp hl hlv T hT X
  exact ⟨t, a, o, b1, b2, ⟨r, h', c1, c2, hq r h' c3⟩, b4⟩
section MT31
variable {G : GP} {F : FX} {m : Nat} {Q : State → Prop}
theorem turn_l1 (C : CX G F mX6_turn (Rm 4 0 0)) {t : TS} {h : AH} (E : RM m t h) (B : TB t) {s q : Nat} (hs : 1 ≤ s) (hS : s < tN t 0 0) (hq : q < tN t 1 s) {o : Option Nat}
    (k1 : ∀ f, o = some f → f < tN t 1 (s - 1) → tN t 4 (16 * (s - 1) + 4 * f + q) = 1 → ∀ x5, WA G F mX6_turn h 0 0 Q 66 [some (.ref m), some (.int (nI s)), some (.int (nI q)), some (.int (nI f)), some (.int (nI (16 * (s - 1) + 4 * f + q))), x5] [])
    (k2 : o = none → ∀ x3 x4 x5, WA G F mX6_turn h 0 0 Q 82 [some (.ref m), some (.int (nI s)), some (.int (nI q)), some (.int x3), x4, x5] []) :
    ∀ (n f : Nat) (x4 x5 : Option Value), f + n = tN t 1 (s - 1) → fstB t s q n f = o → WA G F mX6_turn h 0 0 Q 34 [some (.ref m), some (.int (nI s)), some (.int (nI q)), some (.int (nI f)), x4, x5] [] := by
  have b0 := B.S
  have b1 := B.P (s := s) (by omega)
  have b2 := B.P (s := s - 1) (by omega)
  intro n
  induction n with
  | zero =>
    intro f x4 x5 hf ho
    refine r_iload_n (pc := 34) C dX6_turn_34 rfl rfl ?_
    refine r_aload_n (pc := 35) C dX6_turn_35 rfl rfl ?_
    refine r_getR (pc := 36) C fl_X6_7 E.L.o rfl E.L.r1 dX6_turn_36 ?_
    refine r_iload_n (pc := 39) C dX6_turn_39 rfl rfl ?_
    refine r_iconst (pc := 40) (v := (nI 1)) C dX6_turn_40 (by decide) ?_
    refine n_isub (pc := 41) C (by omega) dX6_turn_41 ?_
    refine n_iald (pc := 42) C E.L.s1 (by omega) (E.k_P _ (by omega)) dX6_turn_42 ?_
    refine n_icmp_ge (pc := 43) (tgt := 82) C (by omega) (by omega) dX6_turn_43 (by decide) (fun c43 => ?_) (fun c43 => absurd c43 (by omega))
    exact k2 ho.symm _ _ _
  | succ n ih =>
    intro f x4 x5 hf ho
    have b3 := B.bar (16 * (s - 1) + 4 * f + q)
    have b4 := B.len (16 * (s - 1) + 4 * f + q)
    unfold fstB at ho
    refine r_iload_n (pc := 34) C dX6_turn_34 rfl rfl ?_
    refine r_aload_n (pc := 35) C dX6_turn_35 rfl rfl ?_
    refine r_getR (pc := 36) C fl_X6_7 E.L.o rfl E.L.r1 dX6_turn_36 ?_
    refine r_iload_n (pc := 39) C dX6_turn_39 rfl rfl ?_
    refine r_iconst (pc := 40) (v := (nI 1)) C dX6_turn_40 (by decide) ?_
    refine n_isub (pc := 41) C (by omega) dX6_turn_41 ?_
    refine n_iald (pc := 42) C E.L.s1 (by omega) (E.k_P _ (by omega)) dX6_turn_42 ?_
    refine n_icmp_ge (pc := 43) (tgt := 82) C (by omega) (by omega) dX6_turn_43 (by decide) (fun c43 => absurd c43 (by omega)) (fun c43 => ?_)
    refine r_iload_n (pc := 46) C dX6_turn_46 rfl rfl ?_
    refine r_iconst (pc := 47) (v := (nI 1)) C dX6_turn_47 (by decide) ?_
    refine n_isub (pc := 48) C (by omega) dX6_turn_48 ?_
    refine r_iload_n (pc := 49) C dX6_turn_49 rfl rfl ?_
    refine r_iload_n (pc := 50) C dX6_turn_50 rfl rfl ?_
    refine r_calli (cr_S (pc := 51) C (c_X6_at _ (s - 1) f q) dX6_turn_51 cm_X6_at ml_X6_118 st_X6_at ⟨⟨Nat.le_of_ble_eq_true rfl, Nat.le_of_ble_eq_true rfl⟩, Nat.le_of_ble_eq_true rfl, Nat.le_of_ble_eq_true rfl⟩ rfl rfl (Nat.le_of_ble_eq_true rfl)) (fun v51 h51 hq51 => ?_)
    obtain ⟨rfl, rfl⟩ := hq51
    refine r_istore (pc := 54) (lv' := [_, _, _, _, _, _]) C dX6_turn_54 (by decide) rfl rfl ?_
    refine r_aload_n (pc := 56) C dX6_turn_56 rfl rfl ?_
    refine r_getR (pc := 57) C fl_X6_39 E.L.o rfl E.L.r12 dX6_turn_57 ?_
    refine r_iload (pc := 60) C dX6_turn_60 rfl ?_
    refine n_iald (pc := 62) C E.L.s12 (by omega) (E.k_bar _ (by omega)) dX6_turn_62 ?_
    refine r_if_ne (pc := 63) (tgt := 76) C dX6_turn_63 (by decide) (fun c63 => ?_) (fun c63 => ?_)
    · have hb : ¬ tN t 4 (16 * (s - 1) + 4 * f + q) = 1 := fun z => c63 ((bar_0 (by omega)).mpr z)
      rw [if_neg hb] at ho
      refine n_iinc (pc := 76) (lv' := [_, _, _, _, _, _]) C dX6_turn_76 rfl (by decide) rfl rfl ?_
      refine r_goto (pc := 79) (tgt := 34) C dX6_turn_79 (by decide) ?_
      exact ih (f + 1) _ _ (by omega) ho
    · have hb := (bar_0 (by omega)).mp c63
      rw [if_pos hb] at ho
      exact k1 f ho.symm (by omega) hb _
theorem turn_l2 (C : CX G F mX6_turn (Rm 4 0 0)) {t : TS} {h0 : AH} (B : TG t) {s q a : Nat} (hs : 1 ≤ s) (hS : s < tN t 0 0) (hq : q < tN t 1 s) (ha : a ≤ 3) {r : Nat × TS} {x3 : Int32} :
    ∀ (n i : Nat) (h : AH), i + n = tN t 1 (s - 1) → spRows t s q a n i = r → RM m t h → Fr m (m + 24) h0 h → WA G F mX6_turn h 0 0 (MQA G F 0 0 (Oi (TP m h0 r))) 147 [some (.ref m), some (.int (nI s)), some (.int (nI q)), some (.int x3), some (.int (nI a)), some (.int (nI i))] [] := by
  have b0 := B.1.S
  have b1 := B.1.P (s := s) (by omega)
  have b2 := B.1.P (s := s - 1) (by omega)
  intro n
  induction n with
  | zero =>
    intro i h hi hr E f
    refine r_iload (pc := 147) C dX6_turn_147 rfl ?_
    refine r_aload_n (pc := 149) C dX6_turn_149 rfl rfl ?_
    refine r_getR (pc := 150) C fl_X6_7 E.L.o rfl E.L.r1 dX6_turn_150 ?_
    refine r_iload_n (pc := 153) C dX6_turn_153 rfl rfl ?_
    refine r_iconst (pc := 154) (v := (nI 1)) C dX6_turn_154 (by decide) ?_
    refine n_isub (pc := 155) C (by omega) dX6_turn_155 ?_
    refine n_iald (pc := 156) C E.L.s1 (by omega) (E.k_P _ (by omega)) dX6_turn_156 ?_
    refine n_icmp_ge (pc := 157) (tgt := 191) C (by omega) (by omega) dX6_turn_157 (by decide) (fun c157 => ?_) (fun c157 => absurd c157 (by omega))
    refine r_iconst (pc := 191) (v := (nI 0)) C dX6_turn_191 (by decide) ?_
    exact r_iret (pc := 192) C rfl (Nat.le_of_ble_eq_true rfl) (Nat.le_of_ble_eq_true rfl) ⟨_, rfl, (tp hr.symm E f)⟩ dX6_turn_192
  | succ n ih =>
    intro i h hi hr E f
    have hmod : (a + i) % tN t 1 (s - 1) < tN t 1 (s - 1) := Nat.mod_lt _ (by omega)
    unfold spRows at hr
    refine r_iload (pc := 147) C dX6_turn_147 rfl ?_
    refine r_aload_n (pc := 149) C dX6_turn_149 rfl rfl ?_
    refine r_getR (pc := 150) C fl_X6_7 E.L.o rfl E.L.r1 dX6_turn_150 ?_
    refine r_iload_n (pc := 153) C dX6_turn_153 rfl rfl ?_
    refine r_iconst (pc := 154) (v := (nI 1)) C dX6_turn_154 (by decide) ?_
    refine n_isub (pc := 155) C (by omega) dX6_turn_155 ?_
    refine n_iald (pc := 156) C E.L.s1 (by omega) (E.k_P _ (by omega)) dX6_turn_156 ?_
    refine n_icmp_ge (pc := 157) (tgt := 191) C (by omega) (by omega) dX6_turn_157 (by decide) (fun c157 => absurd c157 (by omega)) (fun c157 => ?_)
    refine r_aload_n (pc := 160) C dX6_turn_160 rfl rfl ?_
    refine r_iload_n (pc := 161) C dX6_turn_161 rfl rfl ?_
    refine r_iload_n (pc := 162) C dX6_turn_162 rfl rfl ?_
    refine r_iload (pc := 163) C dX6_turn_163 rfl ?_
    refine r_iload (pc := 165) C dX6_turn_165 rfl ?_
    refine n_iadd (pc := 167) C dX6_turn_167 ?_
    refine r_aload_n (pc := 168) C dX6_turn_168 rfl rfl ?_
    refine r_getR (pc := 169) C fl_X6_7 E.L.o rfl E.L.r1 dX6_turn_169 ?_
    refine r_iload_n (pc := 172) C dX6_turn_172 rfl rfl ?_
    refine r_iconst (pc := 173) (v := (nI 1)) C dX6_turn_173 (by decide) ?_
    refine n_isub (pc := 174) C (by omega) dX6_turn_174 ?_
    refine n_iald (pc := 175) C E.L.s1 (by omega) (E.k_P _ (by omega)) dX6_turn_175 ?_
    refine n_irem (pc := 176) C (by omega) (by omega) (by omega) dX6_turn_176 ?_
    refine r_calli (cr_V (pc := 177) C (c_X6_takeFrom E B.1 hs hS hq hmod (B.2.1 s _ q hs hS hmod hq)) dX6_turn_177 cm_X6_takeFrom ml_X6_160 im_X6_takeFrom se_X6_takeFrom E.L.o rfl ⟨⟨Nat.le_of_ble_eq_true rfl, Nat.le_of_ble_eq_true rfl⟩, Nat.le_of_ble_eq_true rfl, Nat.le_of_ble_eq_true rfl⟩ rfl rfl (Nat.le_of_ble_eq_true rfl)) (fun v177 h177 hq177 => ?_)
    obtain ⟨rfl, E2, f2⟩ := hq177
    generalize spTakeFrom t s q ((a + i) % tN t 1 (s - 1)) = o at hr E2
    refine b_if_eq (pc := 180) (tgt := 185) C dX6_turn_180 (by decide) (fun c180 => ?_) (fun c180 => ?_)
    · obtain rfl : o = none := Classical.not_not.mp c180
      refine n_iinc (pc := 185) (lv' := [_, _, _, _, _, _]) C dX6_turn_185 rfl (by decide) rfl rfl ?_
      refine r_goto (pc := 188) (tgt := 147) C dX6_turn_188 (by decide) ?_
      exact ih (i + 1) _ (by omega) hr E2 (f.tr f2)
    · obtain ⟨t', rfl⟩ : ∃ t', o = some t' := Option.ne_none_iff_exists'.mp c180
      refine r_iconst (pc := 183) (v := (nI 1)) C dX6_turn_183 (by decide) ?_
      exact r_iret (pc := 184) C rfl (Nat.le_of_ble_eq_true rfl) (Nat.le_of_ble_eq_true rfl) ⟨_, rfl, (tp hr.symm E2 (f.tr f2))⟩ dX6_turn_184
end MT31
noncomputable def spTurnP (t : TS) (x y : Int32) : Int32 × TS := cif (inT t x y) (nI (spTurn t x.toNatClampNeg y.toNatClampNeg).1, (spTurn t x.toNatClampNeg y.toNatClampNeg).2) (-101, t)
theorem tpm {m : Nat} {h h' : AH} {t : TS} {r : Nat × TS} {v : Int32} {s q : Nat} (c6 : inT t (nI s) (nI q)) (hs : s < 2147483648) (hq : q < 2147483648) (e : spTurn t s q = r) (p : TP m h r v h') : MP m h (spTurnP t (nI s) (nI q)) v h' := by
  obtain ⟨rfl, E, f⟩ := p
  refine mp ((cif_t c6).trans ?_) E f
  rw [cl hs, cl hq, e]
theorem TG.turns {t : TS} (B : TG t) (v : Int32) : TG (uI t 0 1 v) := B
theorem c_X6_turn {G : GP} {m : Nat} {t : TS} {h : AH} (E : RM m t h) (B : TG t) (x y : Int32) : MA G mX6_turn 4 0 0 [.ref m, .int x, .int y] h (Oi (MP m h (spTurnP t x y))) := by
  have b0 := B.1.S
  refine MA.intro (lv := [some (.ref m), some (.int x), some (.int y), none, none, none]) (by decide) (Nat.le_of_ble_eq_true rfl) rfl (fun F C => ?_)
  have t66 : ∀ s q, s < tN t 0 0 → q < tN t 1 s → s ≠ 0 → inT t (nI s) (nI q) → ∀ f, fstB (uI t 0 1 (tI t 0 1 + 1)) s q (tN t 1 (s - 1)) 0 = some f → f < tN t 1 (s - 1) → tN t 4 (16 * (s - 1) + 4 * f + q) = 1 → ∀ h0 h1, RM m (uI t 0 1 (tI t 0 1 + 1)) h1 → Fr m (m + 24) h0 h1 → ∀ x5, WA G F mX6_turn h1 0 0 (MQA G F 0 0 (Oi (MP m h0 (spTurnP t (nI s) (nI q))))) 66 [some (.ref m), some (.int (nI s)), some (.int (nI q)), some (.int (nI f)), some (.int (nI (16 * (s - 1) + 4 * f + q))), x5] [] := by
    intro s q hs hq hs0 c6 f ho hf hb h0 h1 E ff x5
    have BT := B.turns (tI t 0 1 + 1)
    have b1 := B.1.P (s := s) (by omega)
    have b2 := B.1.P (s := s - 1) (by omega)
    have hu : tN t 0 5 ≠ 0 := B.2.2.1 _ (by rw [hb]; decide)
    have e0 : spTurn t s q = (2, spCame (uI t 0 1 (tI t 0 1 + 1)) s q (16 * (s - 1) + 4 * f + q)) := by
      unfold spTurn; rw [if_neg hs0]; unfold spTurn1
      rw [show tN (uI t 0 1 (tI t 0 1 + 1)) 1 (s - 1) = tN t 1 (s - 1) from rfl, ho]
    refine r_aload_n (pc := 66) C dX6_turn_66 rfl rfl ?_
    refine r_iload_n (pc := 67) C dX6_turn_67 rfl rfl ?_
    refine r_iload_n (pc := 68) C dX6_turn_68 rfl rfl ?_
    refine r_iload (pc := 69) C dX6_turn_69 rfl ?_
    refine r_callv (cr_V (pc := 71) C (c_X6_came E BT.1 (j := tN t 0 5 - 1) (show tN t 0 5 = tN t 0 5 - 1 + 1 by omega) (s := s) (q := q) (c := 16 * (s - 1) + 4 * f + q) (by omega) hs hq (by omega)) dX6_turn_71 cm_X6_came ml_X6_156 im_X6_came se_X6_came E.L.o rfl ⟨⟨Nat.le_of_ble_eq_true rfl, Nat.le_of_ble_eq_true rfl⟩, Nat.le_of_ble_eq_true rfl, Nat.le_of_ble_eq_true rfl⟩ rfl rfl (Nat.le_of_ble_eq_true rfl)) (fun h71 hq71 => ?_)
    obtain ⟨E2, f2⟩ := hq71
    refine r_iconst (pc := 74) (v := (nI 2)) C dX6_turn_74 (by decide) ?_
    exact r_iret (pc := 75) C rfl (Nat.le_of_ble_eq_true rfl) (Nat.le_of_ble_eq_true rfl) ⟨_, rfl, (tpm c6 (by omega) (by omega) e0 (tp rfl E2 (ff.tr f2)))⟩ dX6_turn_75
  have t82 : ∀ s q, s < tN t 0 0 → q < tN t 1 s → s ≠ 0 → inT t (nI s) (nI q) → fstB (uI t 0 1 (tI t 0 1 + 1)) s q (tN t 1 (s - 1)) 0 = none → ∀ h0 h1, RM m (uI t 0 1 (tI t 0 1 + 1)) h1 → Fr m (m + 24) h0 h1 → ∀ x3 x4 x5, WA G F mX6_turn h1 0 0 (MQA G F 0 0 (Oi (MP m h0 (spTurnP t (nI s) (nI q))))) 82 [some (.ref m), some (.int (nI s)), some (.int (nI q)), some (.int x3), x4, x5] [] := by
    intro s q hs hq hs0 c6 ho h0 h1 E ff x3 x4 x5
    have BT := B.turns (tI t 0 1 + 1)
    have b1 := B.1.P (s := s) (by omega)
    have b2 := B.1.P (s := s - 1) (by omega)
    have b3 := B.1.uw
    have b4 := B.1.marks
    have b5 := (B.1.bool (4 * s + q)).2.2.1
    have b6 := B.1.next (4 * s + q)
    have e0 : spTurn t s q = cif (tN t 7 (4 * s + q) ≠ 0 ∧ tI t 0 0 ≠ -1 ∧ ¬ tI t 0 1 + 1 - tI t 1 (4 * s + q) < tI t 0 0) (3, spSettle (spPart (uI t 0 1 (tI t 0 1 + 1)) s q 1)) (spRows (uI t 0 1 (tI t 0 1 + 1)) s q (tN t 8 (4 * s + q)) (tN t 1 (s - 1)) 0) := by
      unfold spTurn; rw [if_neg hs0]; unfold spTurn1
      rw [show tN (uI t 0 1 (tI t 0 1 + 1)) 1 (s - 1) = tN t 1 (s - 1) from rfl, ho]
      rfl
    have t136 : ¬ (tN t 7 (4 * s + q) ≠ 0 ∧ tI t 0 0 ≠ -1 ∧ ¬ tI t 0 1 + 1 - tI t 1 (4 * s + q) < tI t 0 0) → WA G F mX6_turn h1 0 0 (MQA G F 0 0 (Oi (MP m h0 (spTurnP t (nI s) (nI q))))) 136 [some (.ref m), some (.int (nI s)), some (.int (nI q)), some (.int (nI (4 * s + q))), x4, x5] [] := by
      intro hc
      rw [cif_f hc] at e0
      refine r_aload_n (pc := 136) C dX6_turn_136 rfl rfl ?_
      refine r_getR (pc := 137) C fl_X6_55 E.L.o rfl E.L.r17 dX6_turn_137 ?_
      refine r_iload_n (pc := 140) C dX6_turn_140 rfl rfl ?_
      refine n_iald (pc := 141) C E.L.s17 (by omega) (E.k_next _ (by omega)) dX6_turn_141 ?_
      refine r_istore (pc := 142) (lv' := [_, _, _, _, _, _]) C dX6_turn_142 (by decide) rfl rfl ?_
      refine r_iconst (pc := 144) (v := (nI 0)) C dX6_turn_144 (by decide) ?_
      refine r_istore (pc := 145) (lv' := [_, _, _, _, _, _]) C dX6_turn_145 (by decide) rfl rfl ?_
      have w := turn_l2 (h0 := h0) (x3 := nI (4 * s + q)) C BT (s := s) (q := q) (a := tN t 8 (4 * s + q)) (by omega) hs hq b6 (tN t 1 (s - 1)) 0 h1 (Nat.zero_add _) rfl E ff
      exact WA.monoQ (fun r h' hq => hq.elim fun v hv => ⟨v, hv.1, tpm c6 (by omega) (by omega) e0 hv.2⟩) w
    refine r_iconst (pc := 82) (v := (nI 4)) C dX6_turn_82 (by decide) ?_
    refine r_iload_n (pc := 83) C dX6_turn_83 rfl rfl ?_
    refine n_imul (pc := 84) C dX6_turn_84 ?_
    refine r_iload_n (pc := 85) C dX6_turn_85 rfl rfl ?_
    refine n_iadd (pc := 86) C dX6_turn_86 ?_
    refine r_istore_n (pc := 87) (lv' := [_, _, _, _, _, _]) C dX6_turn_87 rfl (by decide) rfl rfl ?_
    refine r_aload_n (pc := 88) C dX6_turn_88 rfl rfl ?_
    refine r_getR (pc := 89) C fl_X6_49 E.L.o rfl E.L.r15 dX6_turn_89 ?_
    refine r_iload_n (pc := 92) C dX6_turn_92 rfl rfl ?_
    refine n_zald (pc := 93) C E.L.s15 (by omega) (show _ = nI (tN t 7 (4 * s + q)) from E.k_waits _ (by omega)) dX6_turn_93 ?_
    refine n_if_eq (pc := 94) (tgt := 136) C (by omega) dX6_turn_94 (by decide) (fun c94 => ?_) (fun c94 => ?_)
    · exact t136 (fun z => z.1 c94)
    · refine r_aload_n (pc := 97) C dX6_turn_97 rfl rfl ?_
      refine r_getIe (pc := 98) C fl_X6_108 E.L.o rfl (show _ = tI t 0 0 from E.bnd) dX6_turn_98 ?_
      refine r_iconst (pc := 101) (v := (-1)) C dX6_turn_101 (by decide) ?_
      refine r_icmp_eq (pc := 102) (tgt := 136) C dX6_turn_102 (by decide) (fun c102 => ?_) (fun c102 => ?_)
      · exact t136 (fun z => z.2.1 c102)
      · refine r_aload_n (pc := 105) C dX6_turn_105 rfl rfl ?_
        refine r_getIe (pc := 106) C fl_X6_102 E.L.o rfl (show _ = tI t 0 1 + 1 from E.turns) dX6_turn_106 ?_
        refine r_aload_n (pc := 109) C dX6_turn_109 rfl rfl ?_
        refine r_getR (pc := 110) C fl_X6_52 E.L.o rfl E.L.r16 dX6_turn_110 ?_
        refine r_iload_n (pc := 113) C dX6_turn_113 rfl rfl ?_
        refine n_iald (pc := 114) C E.L.s16 (by omega) (show _ = tI t 1 (4 * s + q) from E.k_since _ (by omega)) dX6_turn_114 ?_
        refine r_isub (pc := 115) C dX6_turn_115 ?_
        refine r_aload_n (pc := 116) C dX6_turn_116 rfl rfl ?_
        refine r_getIe (pc := 117) C fl_X6_108 E.L.o rfl (show _ = tI t 0 0 from E.bnd) dX6_turn_117 ?_
        refine r_icmp_lt (pc := 120) (tgt := 136) C dX6_turn_120 (by decide) (fun c120 => ?_) (fun c120 => ?_)
        · exact t136 (fun z => z.2.2 c120)
        · have hu : tN t 0 5 ≠ 0 := B.2.2.2 _ c94
          refine r_aload_n (pc := 123) C dX6_turn_123 rfl rfl ?_
          refine r_iload_n (pc := 124) C dX6_turn_124 rfl rfl ?_
          refine r_iload_n (pc := 125) C dX6_turn_125 rfl rfl ?_
          refine r_iconst (pc := 126) (v := (nI 1)) C dX6_turn_126 (by decide) ?_
          refine r_callv (cr_V (pc := 127) C (c_X6_takePart E BT.1 (j := tN t 0 5 - 1) (show tN t 0 5 = tN t 0 5 - 1 + 1 by omega) hs hq (by decide)) dX6_turn_127 cm_X6_takePart ml_X6_130 im_X6_takePart se_X6_takePart E.L.o rfl ⟨⟨Nat.le_of_ble_eq_true rfl, Nat.le_of_ble_eq_true rfl⟩, Nat.le_of_ble_eq_true rfl, Nat.le_of_ble_eq_true rfl⟩ rfl rfl (Nat.le_of_ble_eq_true rfl)) (fun h127 hq127 => ?_)
          obtain ⟨E2, f2⟩ := hq127
          have E := E2
          refine r_aload_n (pc := 130) C dX6_turn_130 rfl rfl ?_
          refine r_callv (cr_V (pc := 131) C (c_X6_settle E2 (BT.1.part (by omega) (by omega))) dX6_turn_131 cm_X6_settle ml_X6_134 im_X6_settle se_X6_settle E.L.o rfl ⟨⟨Nat.le_of_ble_eq_true rfl, Nat.le_of_ble_eq_true rfl⟩, Nat.le_of_ble_eq_true rfl, Nat.le_of_ble_eq_true rfl⟩ rfl rfl (Nat.le_of_ble_eq_true rfl)) (fun h131 hq131 => ?_)
          obtain ⟨E3, f3⟩ := hq131
          refine r_iconst (pc := 134) (v := (nI 3)) C dX6_turn_134 (by decide) ?_
          exact r_iret (pc := 135) C rfl (Nat.le_of_ble_eq_true rfl) (Nat.le_of_ble_eq_true rfl) ⟨_, rfl, (tpm c6 (by omega) (by omega) (e0.trans (cif_t ⟨c94, c102, c120⟩)) (tp rfl E3 ((ff.tr f2).tr f3)))⟩ dX6_turn_135
  refine r_aload_n (pc := 0) C dX6_turn_0 rfl rfl ?_
  refine r_iload_n (pc := 1) C dX6_turn_1 rfl rfl ?_
  refine r_iload_n (pc := 2) C dX6_turn_2 rfl rfl ?_
  refine r_calli (cr_V (pc := 3) C (c_X6_isTask E B.1 _ _) dX6_turn_3 cm_X6_isTask ml_X6_149 im_X6_isTask se_X6_isTask E.L.o rfl ⟨⟨Nat.le_of_ble_eq_true rfl, Nat.le_of_ble_eq_true rfl⟩, Nat.le_of_ble_eq_true rfl, Nat.le_of_ble_eq_true rfl⟩ rfl rfl (Nat.le_of_ble_eq_true rfl)) (fun v3 h3 hq3 => ?_)
  obtain ⟨rfl, rfl⟩ := hq3
  refine b_if_ne (pc := 6) (tgt := 12) C dX6_turn_6 (by decide) (fun c6 => ?_) (fun c6 => ?_)
  · obtain ⟨s, hs, rfl, q, hq, rfl⟩ := id c6
    have b1 := B.1.P (s := s) (by omega)
    refine r_aload_n (pc := 12) C dX6_turn_12 rfl rfl ?_
    refine r_dup (pc := 13) C dX6_turn_13 rfl ?_
    refine r_getIe (pc := 14) C fl_X6_102 E.L.o rfl E.turns dX6_turn_14 ?_
    refine r_iconst (pc := 17) (v := (nI 1)) C dX6_turn_17 (by decide) ?_
    refine r_iadd (pc := 18) C dX6_turn_18 ?_
    refine r_putI (pc := 19) C fl_X6_102 E.L.o rfl rfl rfl rfl dX6_turn_19 ?_
    have E := E.p_turns (tI t 0 1 + 1)
    have BT := B.turns (tI t 0 1 + 1)
    have ff : Fr m (m + 24) h3 (pI h3 m 18 (tI t 0 1 + 1)) := Fr.rf.pI (by omega) (by omega)
    refine r_iload_n (pc := 22) C dX6_turn_22 rfl rfl ?_
    refine n_if_ne (pc := 23) (tgt := 32) C (by omega) dX6_turn_23 (by decide) (fun c23 => ?_) (fun c23 => ?_)
    · have e0 : spTurn t s q = spTurn1 (uI t 0 1 (tI t 0 1 + 1)) s q := if_neg c23
      have b2 := B.1.P (s := s - 1) (by omega)
      have b3 := BT.1.uw
      have b4 := BT.1.marks
      have b5 := (BT.1.bool (4 * s + q)).2.2.1
      refine r_iconst (pc := 32) (v := (nI 0)) C dX6_turn_32 (by decide) ?_
      refine r_istore_n (pc := 33) (lv' := [_, _, _, _, _, _]) C dX6_turn_33 rfl (by decide) rfl rfl ?_
      exact turn_l1 C E BT.1 (s := s) (q := q) (by omega) hs hq (fun f ho hf hb x5 => t66 s q hs hq c23 c6 f ho hf hb _ _ E ff x5) (fun ho x3 x4 x5 => t82 s q hs hq c23 c6 ho _ _ E ff x3 x4 x5) (tN t 1 (s - 1)) 0 _ _ (Nat.zero_add _) rfl
    · refine r_aload_n (pc := 26) C dX6_turn_26 rfl rfl ?_
      refine r_iload_n (pc := 27) C dX6_turn_27 rfl rfl ?_
      refine r_calli (cr_V (pc := 28) C (c_X6_source E BT.1 (q := q) (by rw [c23] at hq; exact hq)) dX6_turn_28 cm_X6_source ml_X6_152 im_X6_source se_X6_source E.L.o rfl ⟨⟨Nat.le_of_ble_eq_true rfl, Nat.le_of_ble_eq_true rfl⟩, Nat.le_of_ble_eq_true rfl, Nat.le_of_ble_eq_true rfl⟩ rfl rfl (Nat.le_of_ble_eq_true rfl)) (fun v28 h28 hq28 => ?_)
      obtain ⟨e1, E2, f2⟩ := hq28
      exact r_iret (pc := 31) C rfl (Nat.le_of_ble_eq_true rfl) (Nat.le_of_ble_eq_true rfl) ⟨_, rfl, (tpm c6 (by omega) (by omega) (show spTurn t s q = spSource (uI t 0 1 (tI t 0 1 + 1)) q from if_pos c23) ⟨e1, E2, ff.tr f2⟩)⟩ dX6_turn_31
  · refine r_bipush (pc := 9) (v := (-101)) C dX6_turn_9 (by decide) ?_
    exact r_iret (pc := 11) C rfl (Nat.le_of_ble_eq_true rfl) (Nat.le_of_ble_eq_true rfl) ⟨_, rfl, (mp (cif_f c6) E Fr.rf)⟩ dX6_turn_11
