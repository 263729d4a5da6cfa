/-! ===== the reference: kept rows ===== -/
def inK (t : TS) (x y z w : Int32) : Prop := ∃ j g, j < tN t 0 4 ∧ x = nI j ∧ g + 1 < tN t 0 0 ∧ y = nI g ∧ inN z (tN t 10 (4 * j + g)) ∧ inN w (tN t 10 (4 * j + g + 1))
theorem c_X6_wasChannel {G : GP} {m : Nat} {t : TS} {h : AH} (E : RM m t h) (B : TB t) (x y z w : Int32) : MA G mX6_wasChannel 2 0 0 [.ref m, .int x, .int y, .int z, .int w] h (Oi (fun v h' => v = bI (inK t x y z w) ∧ h' = h)) := by
  have b0 := B.S
  have b1 := B.marks
  refine MA.intro (lv := [some (.ref m), some (.int x), some (.int y), some (.int z), some (.int w)]) (by decide) (Nat.le_of_ble_eq_true rfl) rfl (fun F C => ?_)
  refine r_aload_n (pc := 0) C dX6_wasChannel_0 rfl rfl ?_
  refine r_iload_n (pc := 1) C dX6_wasChannel_1 rfl rfl ?_
  refine r_calli (cr_V (pc := 2) C (c_X6_isMark E B _) dX6_wasChannel_2 cm_X6_isMark ml_X6_177 im_X6_isMark se_X6_isMark E.L.o rfl ⟨⟨Nat.le_of_ble_eq_true rfl, Nat.le_of_ble_eq_true rfl⟩, Nat.le_of_ble_eq_true rfl, Nat.le_of_ble_eq_true rfl⟩ rfl rfl (Nat.le_of_ble_eq_true rfl)) (fun v2 h2 hq2 => ?_)
  obtain ⟨rfl, rfl⟩ := hq2
  refine b_if_eq (pc := 5) (tgt := 69) C dX6_wasChannel_5 (by decide) (fun c5 => ?_) (fun c5 => ?_)
  · have q : ¬ inK t x y z w := fun ⟨j, g, h1, h2, _⟩ => c5 ⟨j, h1, h2⟩
    refine r_iconst (pc := 69) (v := (nI 0)) C dX6_wasChannel_69 (by decide) ?_
    exact r_zret (pc := 70) C rfl (by first | exact bI_01 | exact Or.inl rfl | exact Or.inr rfl) (Nat.le_of_ble_eq_true rfl) (Nat.le_of_ble_eq_true rfl) ⟨_, rfl, ⟨by first | exact tt1 q | exact ff0 q, rfl⟩⟩ dX6_wasChannel_70
  · obtain ⟨j, hj, rfl⟩ := c5
    refine r_iload_n (pc := 8) C dX6_wasChannel_8 rfl rfl ?_
    refine r_iconst (pc := 9) (v := (nI 0)) C dX6_wasChannel_9 (by decide) ?_
    refine r_aload_n (pc := 10) C dX6_wasChannel_10 rfl rfl ?_
    refine r_getIe (pc := 11) C fl_X6_91 E.L.o rfl E.S dX6_wasChannel_11 ?_
    refine r_iconst (pc := 14) (v := (nI 2)) C dX6_wasChannel_14 (by decide) ?_
    refine n_isub (pc := 15) C (by omega) dX6_wasChannel_15 ?_
    refine r_calli (cr_S (pc := 16) C (c_X6_in _ _ _ _) dX6_wasChannel_16 cm_X6_in ml_X6_94 st_X6_in ⟨⟨Nat.le_of_ble_eq_true rfl, Nat.le_of_ble_eq_true rfl⟩, Nat.le_of_ble_eq_true rfl, Nat.le_of_ble_eq_true rfl⟩ rfl rfl (Nat.le_of_ble_eq_true rfl)) (fun v16 h16 hq16 => ?_)
    obtain ⟨rfl, rfl⟩ := hq16
    rw [show tN t 0 0 - 2 = tN t 0 0 - 1 - 1 from rfl, bI_congr (inN_iff (by omega) (by omega))]
    refine b_if_eq (pc := 19) (tgt := 69) C dX6_wasChannel_19 (by decide) (fun c19 => ?_) (fun c19 => ?_)
    · have q : ¬ inK t (nI j) y z w := fun ⟨j', g, h1, h2, h3, h4, _⟩ => c19 ⟨g, by omega, h4⟩
      refine r_iconst (pc := 69) (v := (nI 0)) C dX6_wasChannel_69 (by decide) ?_
      exact r_zret (pc := 70) C rfl (by first | exact bI_01 | exact Or.inl rfl | exact Or.inr rfl) (Nat.le_of_ble_eq_true rfl) (Nat.le_of_ble_eq_true rfl) ⟨_, rfl, ⟨by first | exact tt1 q | exact ff0 q, rfl⟩⟩ dX6_wasChannel_70
    · obtain ⟨g, hg, rfl⟩ := c19
      have b2 := B.thn (4 * j + g)
      have b3 := B.thn (4 * j + g + 1)
      have ej : ∀ j' g', j' < tN t 0 4 → nI j = nI j' → g' + 1 < tN t 0 0 → nI g = nI g' → j = j' ∧ g = g' := fun j' g' h1 h2 h3 h4 => ⟨nI_in2 (by omega) (by omega) h2, nI_in2 (by omega) (by omega) h4⟩
      refine r_iload_n (pc := 22) C dX6_wasChannel_22 rfl rfl ?_
      refine r_iconst (pc := 23) (v := (nI 0)) C dX6_wasChannel_23 (by decide) ?_
      refine r_aload_n (pc := 24) C dX6_wasChannel_24 rfl rfl ?_
      refine r_getR (pc := 25) C fl_X6_70 E.L.o rfl E.L.r24 dX6_wasChannel_25 ?_
      refine r_iconst (pc := 28) (v := (nI 4)) C dX6_wasChannel_28 (by decide) ?_
      refine r_iload_n (pc := 29) C dX6_wasChannel_29 rfl rfl ?_
      refine n_imul (pc := 30) C dX6_wasChannel_30 ?_
      refine r_iload_n (pc := 31) C dX6_wasChannel_31 rfl rfl ?_
      refine n_iadd (pc := 32) C dX6_wasChannel_32 ?_
      refine n_iald (pc := 33) C E.L.s24 (by omega) (E.k_then _ (by omega)) dX6_wasChannel_33 ?_
      refine r_iconst (pc := 34) (v := (nI 1)) C dX6_wasChannel_34 (by decide) ?_
      refine r_isub (pc := 35) C dX6_wasChannel_35 ?_
      refine r_calli (cr_S (pc := 36) C (c_X6_in _ _ _ _) dX6_wasChannel_36 cm_X6_in ml_X6_94 st_X6_in ⟨⟨Nat.le_of_ble_eq_true rfl, Nat.le_of_ble_eq_true rfl⟩, Nat.le_of_ble_eq_true rfl, Nat.le_of_ble_eq_true rfl⟩ rfl rfl (Nat.le_of_ble_eq_true rfl)) (fun v36 h36 hq36 => ?_)
      obtain ⟨rfl, rfl⟩ := hq36
      rw [bI_congr (inN_iff0 (by omega))]
      refine b_if_eq (pc := 39) (tgt := 69) C dX6_wasChannel_39 (by decide) (fun c39 => ?_) (fun c39 => ?_)
      · have q : ¬ inK t (nI j) (nI g) z w := fun ⟨j', g', h1, h2, h3, h4, h5, _⟩ => c39 (by obtain ⟨e1, e2⟩ := ej j' g' h1 h2 h3 h4; rw [e1, e2]; exact h5)
        refine r_iconst (pc := 69) (v := (nI 0)) C dX6_wasChannel_69 (by decide) ?_
        exact r_zret (pc := 70) C rfl (by first | exact bI_01 | exact Or.inl rfl | exact Or.inr rfl) (Nat.le_of_ble_eq_true rfl) (Nat.le_of_ble_eq_true rfl) ⟨_, rfl, ⟨by first | exact tt1 q | exact ff0 q, rfl⟩⟩ dX6_wasChannel_70
      · refine r_iload (pc := 42) C dX6_wasChannel_42 rfl ?_
        refine r_iconst (pc := 44) (v := (nI 0)) C dX6_wasChannel_44 (by decide) ?_
        refine r_aload_n (pc := 45) C dX6_wasChannel_45 rfl rfl ?_
        refine r_getR (pc := 46) C fl_X6_70 E.L.o rfl E.L.r24 dX6_wasChannel_46 ?_
        refine r_iconst (pc := 49) (v := (nI 4)) C dX6_wasChannel_49 (by decide) ?_
        refine r_iload_n (pc := 50) C dX6_wasChannel_50 rfl rfl ?_
        refine n_imul (pc := 51) C dX6_wasChannel_51 ?_
        refine r_iload_n (pc := 52) C dX6_wasChannel_52 rfl rfl ?_
        refine n_iadd (pc := 53) C dX6_wasChannel_53 ?_
        refine r_iconst (pc := 54) (v := (nI 1)) C dX6_wasChannel_54 (by decide) ?_
        refine n_iadd (pc := 55) C dX6_wasChannel_55 ?_
        refine n_iald (pc := 56) C E.L.s24 (by omega) (E.k_then _ (by omega)) dX6_wasChannel_56 ?_
        refine r_iconst (pc := 57) (v := (nI 1)) C dX6_wasChannel_57 (by decide) ?_
        refine r_isub (pc := 58) C dX6_wasChannel_58 ?_
        refine r_calli (cr_S (pc := 59) C (c_X6_in _ _ _ _) dX6_wasChannel_59 cm_X6_in ml_X6_94 st_X6_in ⟨⟨Nat.le_of_ble_eq_true rfl, Nat.le_of_ble_eq_true rfl⟩, Nat.le_of_ble_eq_true rfl, Nat.le_of_ble_eq_true rfl⟩ rfl rfl (Nat.le_of_ble_eq_true rfl)) (fun v59 h59 hq59 => ?_)
        obtain ⟨rfl, rfl⟩ := hq59
        rw [bI_congr (inN_iff0 (by omega))]
        refine b_if_eq (pc := 62) (tgt := 69) C dX6_wasChannel_62 (by decide) (fun c62 => ?_) (fun c62 => ?_)
        · have q : ¬ inK t (nI j) (nI g) z w := fun ⟨j', g', h1, h2, h3, h4, _, h5⟩ => c62 (by obtain ⟨e1, e2⟩ := ej j' g' h1 h2 h3 h4; rw [e1, e2]; exact h5)
          refine r_iconst (pc := 69) (v := (nI 0)) C dX6_wasChannel_69 (by decide) ?_
          exact r_zret (pc := 70) C rfl (by first | exact bI_01 | exact Or.inl rfl | exact Or.inr rfl) (Nat.le_of_ble_eq_true rfl) (Nat.le_of_ble_eq_true rfl) ⟨_, rfl, ⟨by first | exact tt1 q | exact ff0 q, rfl⟩⟩ dX6_wasChannel_70
        · have q : inK t (nI j) (nI g) z w := ⟨j, g, hj, rfl, by omega, rfl, c39, c62⟩
          refine r_iconst (pc := 65) (v := (nI 1)) C dX6_wasChannel_65 (by decide) ?_
          refine r_goto (pc := 66) (tgt := 70) C dX6_wasChannel_66 (by decide) ?_
          exact r_zret (pc := 70) C rfl (by first | exact bI_01 | exact Or.inl rfl | exact Or.inr rfl) (Nat.le_of_ble_eq_true rfl) (Nat.le_of_ble_eq_true rfl) ⟨_, rfl, ⟨by first | exact tt1 q | exact ff0 q, rfl⟩⟩ dX6_wasChannel_70
/-- row n of those kept for channel c -/
def kAt (c : Nat) : List (Nat × Nat) → Nat → Option Nat
  | [], _ => none
  | q :: l, n => if q.1 = c then (if n = 0 then some q.2 else kAt c l (n - 1)) else kAt c l n
def oI (o : Option Nat) : Int32 := match o with
  | some r => nI r
  | none => -1
noncomputable def kAtI (l : List (Nat × Nat)) (c : Nat) (i : Int32) : Option Nat := cif (i < 0) none (kAt c l i.toNatClampNeg)
theorem kAt_mem {c r : Nat} : ∀ (l : List (Nat × Nat)) (n : Nat), kAt c l n = some r → (c, r) ∈ l
  | [], n, h => by simp [kAt] at h
  | q :: l, n, h => by
    unfold kAt at h
    split at h
    · rename_i e
      split at h
      · injection h with h
        subst h; subst e
        exact List.mem_cons_self
      · exact List.mem_cons_of_mem _ (kAt_mem l _ h)
    · exact List.mem_cons_of_mem _ (kAt_mem l _ h)
section MK37
variable {G : GP} {F : FX} {m : Nat}
theorem dec_nI {a : Nat} (h : a ≠ 0) : nI a + Int32.ofInt (-1) = nI (a - 1) := by
  obtain ⟨b, rfl⟩ : ∃ b, a = b + 1 := ⟨a - 1, by omega⟩
  rw [Nat.add_sub_cancel]
  exact pk_m1 b
theorem keptAt_l (C : CX G F mX6_keptAt (Rm 0 0 0)) {t : TS} {h : AH} (E : RM m t h) (B : TB t) {j c i : Nat} (hj : j < 8) (hc : c < 48) (hi : i < 2147483648) {o : Option Nat} :
    ∀ (rest : List (Nat × Nat)) (k n : Nat), (tK t j).drop k = rest → k ≤ (tK t j).length → n ≤ i → kAt c rest n = o → WA G F mX6_keptAt h 0 0 (MQA G F 0 0 (Oi (fun v h' => v = oI o ∧ h' = h))) 6 [some (.ref m), some (.int (nI j)), some (.int (nI c)), some (.int (nI i)), some (.int (nI n)), some (.int (nI k))] [] := by
  have b1 := B.klen j
  intro rest
  induction rest with
  | nil =>
    intro k n hd hk hn ho
    have hk2 : (tK t j).length ≤ k := List.drop_eq_nil_iff.mp hd
    refine r_iload (pc := 6) C dX6_keptAt_6 rfl ?_
    refine r_aload_n (pc := 8) C dX6_keptAt_8 rfl rfl ?_
    refine r_getR (pc := 9) C fl_X6_79 E.L.o rfl E.L.r27 dX6_keptAt_9 ?_
    refine r_iload_n (pc := 12) C dX6_keptAt_12 rfl rfl ?_
    refine n_iald (pc := 13) C E.L.s27 (by omega) (E.k_klen _ (by omega)) dX6_keptAt_13 ?_
    refine n_icmp_ge (pc := 14) (tgt := 66) C (by omega) (by omega) dX6_keptAt_14 (by decide) (fun c14 => ?_) (fun c14 => absurd c14 (by omega))
    refine r_iconst (pc := 66) (v := (-1)) C dX6_keptAt_66 (by decide) ?_
    exact r_iret (pc := 67) C rfl (Nat.le_of_ble_eq_true rfl) (Nat.le_of_ble_eq_true rfl) ⟨_, rfl, ⟨by rw [← ho]; rfl, rfl⟩⟩ dX6_keptAt_67
  | cons q rs ih =>
    intro k n hd hk hn ho
    have hk2 : k < (tK t j).length := by
      rcases Nat.lt_or_ge k (tK t j).length with z | z
      · exact z
      · rw [List.drop_eq_nil_iff.mpr z] at hd; cases hd
    have hq? : (tK t j)[k]? = some q := by
      have e := congrArg List.head? hd
      rw [List.head?_drop] at e
      exact e
    have hgd : (tK t j).getD k (0, 0) = q := by rw [List.getD_eq_getElem?_getD, hq?]; rfl
    have hrs : (tK t j).drop (k + 1) = rs := by rw [← List.tail_drop, hd]; rfl
    have hqm := B.krow (List.mem_of_getElem? hq?)
    unfold kAt at ho
    refine r_iload (pc := 6) C dX6_keptAt_6 rfl ?_
    refine r_aload_n (pc := 8) C dX6_keptAt_8 rfl rfl ?_
    refine r_getR (pc := 9) C fl_X6_79 E.L.o rfl E.L.r27 dX6_keptAt_9 ?_
    refine r_iload_n (pc := 12) C dX6_keptAt_12 rfl rfl ?_
    refine n_iald (pc := 13) C E.L.s27 (by omega) (E.k_klen _ (by omega)) dX6_keptAt_13 ?_
    refine n_icmp_ge (pc := 14) (tgt := 66) C (by omega) (by omega) dX6_keptAt_14 (by decide) (fun c14 => absurd c14 (by omega)) (fun c14 => ?_)
    refine r_iload_n (pc := 17) C dX6_keptAt_17 rfl rfl ?_
    refine n_if_lt (pc := 18) (tgt := 66) C (by omega) dX6_keptAt_18 (by decide) ?_
    refine r_aload_n (pc := 21) C dX6_keptAt_21 rfl rfl ?_
    refine r_getR (pc := 22) C fl_X6_82 E.L.o rfl E.L.r28 dX6_keptAt_22 ?_
    refine r_sipush (pc := 25) (v := (nI 200)) C dX6_keptAt_25 (by decide) ?_
    refine r_iload_n (pc := 28) C dX6_keptAt_28 rfl rfl ?_
    refine n_imul (pc := 29) C dX6_keptAt_29 ?_
    refine r_iload (pc := 30) C dX6_keptAt_30 rfl ?_
    refine n_iadd (pc := 32) C dX6_keptAt_32 ?_
    refine n_iald (pc := 33) C E.L.s28 (by omega) ((E.k_kch _ (by omega) _ (by omega)).trans (by rw [hgd])) dX6_keptAt_33 ?_
    refine r_iload_n (pc := 34) C dX6_keptAt_34 rfl rfl ?_
    refine n_icmp_ne (pc := 35) (tgt := 60) C (by omega) (by omega) dX6_keptAt_35 (by decide) (fun c35 => ?_) (fun c35 => ?_)
    · rw [if_neg c35] at ho
      refine n_iinc (pc := 60) (lv' := [_, _, _, _, _, _]) C dX6_keptAt_60 rfl (by decide) rfl rfl ?_
      refine r_goto (pc := 63) (tgt := 6) C dX6_keptAt_63 (by decide) ?_
      exact ih (k + 1) n hrs (by omega) hn ho
    · rw [if_pos c35] at ho
      refine r_iload (pc := 38) C dX6_keptAt_38 rfl ?_
      refine n_if_ne (pc := 40) (tgt := 57) C (by omega) dX6_keptAt_40 (by decide) (fun c40 => ?_) (fun c40 => ?_)
      · rw [if_neg c40] at ho
        refine r_iinc (pc := 57) (v := nI (n - 1)) (lv' := [_, _, _, _, _, _]) C dX6_keptAt_57 rfl (dec_nI c40) (by decide) rfl rfl ?_
        refine n_iinc (pc := 60) (lv' := [_, _, _, _, _, _]) C dX6_keptAt_60 rfl (by decide) rfl rfl ?_
        refine r_goto (pc := 63) (tgt := 6) C dX6_keptAt_63 (by decide) ?_
        exact ih (k + 1) (n - 1) hrs (by omega) (by omega) ho
      · rw [if_pos c40] at ho
        refine r_aload_n (pc := 43) C dX6_keptAt_43 rfl rfl ?_
        refine r_getR (pc := 44) C fl_X6_85 E.L.o rfl E.L.r29 dX6_keptAt_44 ?_
        refine r_sipush (pc := 47) (v := (nI 200)) C dX6_keptAt_47 (by decide) ?_
        refine r_iload_n (pc := 50) C dX6_keptAt_50 rfl rfl ?_
        refine n_imul (pc := 51) C dX6_keptAt_51 ?_
        refine r_iload (pc := 52) C dX6_keptAt_52 rfl ?_
        refine n_iadd (pc := 54) C dX6_keptAt_54 ?_
        refine n_iald (pc := 55) C E.L.s29 (by omega) ((E.k_krow _ (by omega) _ (by omega)).trans (by rw [hgd])) dX6_keptAt_55 ?_
        exact r_iret (pc := 56) C rfl (Nat.le_of_ble_eq_true rfl) (Nat.le_of_ble_eq_true rfl) ⟨_, rfl, ⟨by rw [← ho]; rfl, rfl⟩⟩ dX6_keptAt_56
end MK37
theorem c_X6_keptAt {G : GP} {m : Nat} {t : TS} {h : AH} (E : RM m t h) (B : TB t) {j c : Nat} (hj : j < 8) (hc : c < 48) (i : Int32) : MA G mX6_keptAt 0 0 0 [.ref m, .int (nI j), .int (nI c), .int i] h (Oi (fun v h' => v = oI (kAtI (tK t j) c i) ∧ h' = h)) := by
  have b1 := B.klen j
  refine MA.intro (lv := [some (.ref m), some (.int (nI j)), some (.int (nI c)), some (.int i), none, none]) (by decide) (Nat.le_of_ble_eq_true rfl) rfl (fun F C => ?_)
  by_cases hi : i < 0
  · rw [show kAtI (tK t j) c i = none from cif_t hi]
    refine r_iload_n (pc := 0) C dX6_keptAt_0 rfl rfl ?_
    refine r_istore (pc := 1) (lv' := [_, _, _, _, _, _]) C dX6_keptAt_1 (by decide) rfl rfl ?_
    refine r_iconst (pc := 3) (v := (nI 0)) C dX6_keptAt_3 (by decide) ?_
    refine r_istore (pc := 4) (lv' := [_, _, _, _, _, _]) C dX6_keptAt_4 (by decide) rfl rfl ?_
    refine r_iload (pc := 6) C dX6_keptAt_6 rfl ?_
    refine r_aload_n (pc := 8) C dX6_keptAt_8 rfl rfl ?_
    refine r_getR (pc := 9) C fl_X6_79 E.L.o rfl E.L.r27 dX6_keptAt_9 ?_
    refine r_iload_n (pc := 12) C dX6_keptAt_12 rfl rfl ?_
    refine n_iald (pc := 13) C E.L.s27 (by omega) (E.k_klen _ (by omega)) dX6_keptAt_13 ?_
    refine n_icmp_ge (pc := 14) (tgt := 66) C (by omega) (by omega) dX6_keptAt_14 (by decide) (fun c14 => ?_) (fun c14 => ?_)
    · refine r_iconst (pc := 66) (v := (-1)) C dX6_keptAt_66 (by decide) ?_
      exact r_iret (pc := 67) C rfl (Nat.le_of_ble_eq_true rfl) (Nat.le_of_ble_eq_true rfl) ⟨_, rfl, ⟨rfl, rfl⟩⟩ dX6_keptAt_67
    · refine r_iload_n (pc := 17) C dX6_keptAt_17 rfl rfl ?_
      refine r_if_lt (pc := 18) (tgt := 66) C dX6_keptAt_18 (by decide) (fun c18 => ?_) (fun c18 => absurd c18 (fun z => z hi))
      refine r_iconst (pc := 66) (v := (-1)) C dX6_keptAt_66 (by decide) ?_
      exact r_iret (pc := 67) C rfl (Nat.le_of_ble_eq_true rfl) (Nat.le_of_ble_eq_true rfl) ⟨_, rfl, ⟨rfl, rfl⟩⟩ dX6_keptAt_67
  · obtain ⟨n, hn, rfl⟩ := nI_of hi
    rw [show kAtI (tK t j) c (nI n) = kAt c (tK t j) n from (cif_f hi).trans (by rw [cl hn])]
    refine r_iload_n (pc := 0) C dX6_keptAt_0 rfl rfl ?_
    refine r_istore (pc := 1) (lv' := [_, _, _, _, _, _]) C dX6_keptAt_1 (by decide) rfl rfl ?_
    refine r_iconst (pc := 3) (v := (nI 0)) C dX6_keptAt_3 (by decide) ?_
    refine r_istore (pc := 4) (lv' := [_, _, _, _, _, _]) C dX6_keptAt_4 (by decide) rfl rfl ?_
    exact keptAt_l C E B hj hc hn (tK t j) 0 n rfl (Nat.zero_le _) (Nat.le_refl _) rfl
noncomputable def spKept_ (t : TS) (x y z w : Int32) : Int32 := cif (inK t x y z w) (nI ((tK t x.toNatClampNeg).countP (fun q => decide (q.1 = 16 * y.toNatClampNeg + 4 * z.toNatClampNeg + w.toNatClampNeg)))) (-101)
noncomputable def spKKey (t : TS) (x y z w i : Int32) : Int32 := cif (inK t x y z w) (match kAtI (tK t x.toNatClampNeg) (16 * y.toNatClampNeg + 4 * z.toNatClampNeg + w.toNatClampNeg) i with | some r => nI (tN t 2 r) | none => -1) (-101)
noncomputable def spKVal (t : TS) (x y z w i : Int32) : Int64 := cif (inK t x y z w) (match kAtI (tK t x.toNatClampNeg) (16 * y.toNatClampNeg + 4 * z.toNatClampNeg + w.toNatClampNeg) i with | some r => tL t 0 r | none => 0) 0
/-- the numbers of a channel that there was -/
theorem inK_n {t : TS} (B : TB t) {x y z w : Int32} (hk : inK t x y z w) : ∃ j g f q, j < tN t 0 4 ∧ g + 1 < tN t 0 0 ∧ f < 4 ∧ q < 4 ∧ x = nI j ∧ y = nI g ∧ z = nI f ∧ w = nI q := by
  obtain ⟨j, g, h1, h2, h3, h4, ⟨f, h5, h6⟩, q, h7, h8⟩ := hk
  have b2 := B.thn (4 * j + g)
  have b3 := B.thn (4 * j + g + 1)
  exact ⟨j, g, f, q, h1, h3, by omega, by omega, h2, h4, h6, h8⟩
section MK38
variable {G : GP} {F : FX} {m : Nat} {Q : State → Prop}
theorem kept_l (C : CX G F mX6_kept (Rm 3 0 0)) {t : TS} {h : AH} (E : RM m t h) (B : TB t) {j g f q : Nat} (hj : j < 8) (hg : g < 3) (hf : f < 4) (hq : q < 4) (k : ∀ x6, WA G F mX6_kept h 0 0 Q 71 [some (.ref m), some (.int (nI j)), some (.int (nI g)), some (.int (nI f)), some (.int (nI q)), some (.int (nI ((tK t j).countP (fun z => decide (z.1 = 16 * g + 4 * f + q))))), some (.int x6)] []) :
    ∀ (rest : List (Nat × Nat)) (i b : Nat), (tK t j).drop i = rest → i ≤ (tK t j).length → b + rest.countP (fun z => decide (z.1 = 16 * g + 4 * f + q)) = (tK t j).countP (fun z => decide (z.1 = 16 * g + 4 * f + q)) → WA G F mX6_kept h 0 0 Q 21 [some (.ref m), some (.int (nI j)), some (.int (nI g)), some (.int (nI f)), some (.int (nI q)), some (.int (nI b)), some (.int (nI i))] [] := by
  have b1 := B.klen j
  intro rest
  induction rest with
  | nil =>
    intro i b hd hi hb
    have hk2 : (tK t j).length ≤ i := List.drop_eq_nil_iff.mp hd
    rw [List.countP_nil, Nat.add_zero] at hb
    subst hb
    refine r_iload (pc := 21) C dX6_kept_21 rfl ?_
    refine r_aload_n (pc := 23) C dX6_kept_23 rfl rfl ?_
    refine r_getR (pc := 24) C fl_X6_79 E.L.o rfl E.L.r27 dX6_kept_24 ?_
    refine r_iload_n (pc := 27) C dX6_kept_27 rfl rfl ?_
    refine n_iald (pc := 28) C E.L.s27 (by omega) (E.k_klen _ (by omega)) dX6_kept_28 ?_
    refine n_icmp_ge (pc := 29) (tgt := 71) C (by omega) (by omega) dX6_kept_29 (by decide) (fun c29 => ?_) (fun c29 => absurd c29 (by omega))
    exact k _
  | cons p rs ih =>
    intro i b hd hi hb
    have hk2 : i < (tK t j).length := by
      rcases Nat.lt_or_ge i (tK t j).length with z | z
      · exact z
      · rw [List.drop_eq_nil_iff.mpr z] at hd; cases hd
    have hq? : (tK t j)[i]? = some p := by
      have e := congrArg List.head? hd
      rw [List.head?_drop] at e
      exact e
    have hgd : (tK t j).getD i (0, 0) = p := by rw [List.getD_eq_getElem?_getD, hq?]; rfl
    have hrs : (tK t j).drop (i + 1) = rs := by rw [← List.tail_drop, hd]; rfl
    have hqm := B.krow (List.mem_of_getElem? hq?)
    rw [List.countP_cons] at hb
    refine r_iload (pc := 21) C dX6_kept_21 rfl ?_
    refine r_aload_n (pc := 23) C dX6_kept_23 rfl rfl ?_
    refine r_getR (pc := 24) C fl_X6_79 E.L.o rfl E.L.r27 dX6_kept_24 ?_
    refine r_iload_n (pc := 27) C dX6_kept_27 rfl rfl ?_
    refine n_iald (pc := 28) C E.L.s27 (by omega) (E.k_klen _ (by omega)) dX6_kept_28 ?_
    refine n_icmp_ge (pc := 29) (tgt := 71) C (by omega) (by omega) dX6_kept_29 (by decide) (fun c29 => absurd c29 (by omega)) (fun c29 => ?_)
    refine r_iload (pc := 32) C dX6_kept_32 rfl ?_
    refine r_aload_n (pc := 34) C dX6_kept_34 rfl rfl ?_
    refine r_getR (pc := 35) C fl_X6_82 E.L.o rfl E.L.r28 dX6_kept_35 ?_
    refine r_sipush (pc := 38) (v := (nI 200)) C dX6_kept_38 (by decide) ?_
    refine r_iload_n (pc := 41) C dX6_kept_41 rfl rfl ?_
    refine n_imul (pc := 42) C dX6_kept_42 ?_
    refine r_iload (pc := 43) C dX6_kept_43 rfl ?_
    refine n_iadd (pc := 45) C dX6_kept_45 ?_
    refine n_iald (pc := 46) C E.L.s28 (by omega) ((E.k_kch _ (by omega) _ (by omega)).trans (by rw [hgd])) dX6_kept_46 ?_
    refine r_iload_n (pc := 47) C dX6_kept_47 rfl rfl ?_
    refine r_iload_n (pc := 48) C dX6_kept_48 rfl rfl ?_
    refine r_iload (pc := 49) C dX6_kept_49 rfl ?_
    refine r_calli (cr_S (pc := 51) C (c_X6_at _ g f q) dX6_kept_51 cm_X6_at ml_X6_118 st_X6_at ⟨⟨Nat.le_of_ble_eq_true rfl, Nat.le_of_ble_eq_true rfl⟩, Nat.le_of_ble_eq_true rfl, Nat.le_of_ble_eq_true rfl⟩ rfl rfl (Nat.le_of_ble_eq_true rfl)) (fun v51 h51 hq51 => ?_)
    obtain ⟨rfl, rfl⟩ := hq51
    refine n_icmp_ne (pc := 54) (tgt := 61) C (by omega) (by omega) dX6_kept_54 (by decide) (fun c54 => ?_) (fun c54 => ?_)
    · refine r_iconst (pc := 61) (v := (nI 0)) C dX6_kept_61 (by decide) ?_
      refine n_iadd (pc := 62) C dX6_kept_62 ?_
      refine r_istore (pc := 63) (lv' := [_, _, _, _, _, _, _]) C dX6_kept_63 (by decide) rfl rfl ?_
      refine n_iinc (pc := 65) (lv' := [_, _, _, _, _, _, _]) C dX6_kept_65 rfl (by decide) rfl rfl ?_
      refine r_goto (pc := 68) (tgt := 21) C dX6_kept_68 (by decide) ?_
      exact ih (i + 1) _ hrs (by omega) (by simp [c54] at hb; omega)
    · refine r_iconst (pc := 57) (v := (nI 1)) C dX6_kept_57 (by decide) ?_
      refine r_goto (pc := 58) (tgt := 62) C dX6_kept_58 (by decide) ?_
      refine n_iadd (pc := 62) C dX6_kept_62 ?_
      refine r_istore (pc := 63) (lv' := [_, _, _, _, _, _, _]) C dX6_kept_63 (by decide) rfl rfl ?_
      refine n_iinc (pc := 65) (lv' := [_, _, _, _, _, _, _]) C dX6_kept_65 rfl (by decide) rfl rfl ?_
      refine r_goto (pc := 68) (tgt := 21) C dX6_kept_68 (by decide) ?_
      exact ih (i + 1) _ hrs (by omega) (by simp [c54] at hb; omega)
end MK38
theorem c_X6_kept {G : GP} {m : Nat} {t : TS} {h : AH} (E : RM m t h) (B : TB t) (x y z w : Int32) : MA G mX6_kept 3 0 0 [.ref m, .int x, .int y, .int z, .int w] h (Oi (fun v h' => v = spKept_ t x y z w ∧ h' = h)) := by
  have b0 := B.S
  have b1 := B.marks
  refine MA.intro (lv := [some (.ref m), some (.int x), some (.int y), some (.int z), some (.int w), none, none]) (by decide) (Nat.le_of_ble_eq_true rfl) rfl (fun F C => ?_)
  have tl : ∀ j g f q, j < tN t 0 4 → g + 1 < tN t 0 0 → f < 4 → q < 4 → inK t (nI j) (nI g) (nI f) (nI q) → WA G F mX6_kept h 0 0 (MQA G F 0 0 (Oi (fun v h' => v = spKept_ t (nI j) (nI g) (nI f) (nI q) ∧ h' = h))) 21 [some (.ref m), some (.int (nI j)), some (.int (nI g)), some (.int (nI f)), some (.int (nI q)), some (.int (nI 0)), some (.int (nI 0))] [] := by
    intro j g f q hj hg hf hq hin
    rw [show spKept_ t (nI j) (nI g) (nI f) (nI q) = nI ((tK t j).countP (fun z => decide (z.1 = 16 * g + 4 * f + q))) from (cif_t hin).trans (by rw [cl (by omega), cl (by omega), cl (by omega), cl (by omega)])]
    refine kept_l C E B (by omega) (by omega) hf hq (fun x6 => ?_) (tK t j) 0 0 rfl (Nat.zero_le _) (Nat.zero_add _)
    refine r_iload (pc := 71) C dX6_kept_71 rfl ?_
    exact r_iret (pc := 73) C rfl (Nat.le_of_ble_eq_true rfl) (Nat.le_of_ble_eq_true rfl) ⟨_, rfl, ⟨rfl, rfl⟩⟩ dX6_kept_73
  refine r_aload_n (pc := 0) C dX6_kept_0 rfl rfl ?_
  refine r_iload_n (pc := 1) C dX6_kept_1 rfl rfl ?_
  refine r_iload_n (pc := 2) C dX6_kept_2 rfl rfl ?_
  refine r_iload_n (pc := 3) C dX6_kept_3 rfl rfl ?_
  refine r_iload (pc := 4) C dX6_kept_4 rfl ?_
  refine r_calli (cr_V (pc := 6) C (c_X6_wasChannel E B _ _ _ _) dX6_kept_6 cm_X6_wasChannel ml_X6_180 im_X6_wasChannel se_X6_wasChannel E.L.o rfl ⟨⟨Nat.le_of_ble_eq_true rfl, Nat.le_of_ble_eq_true rfl⟩, Nat.le_of_ble_eq_true rfl, Nat.le_of_ble_eq_true rfl⟩ rfl rfl (Nat.le_of_ble_eq_true rfl)) (fun v6 h6 hq6 => ?_)
  obtain ⟨rfl, rfl⟩ := hq6
  refine b_if_ne (pc := 9) (tgt := 15) C dX6_kept_9 (by decide) (fun c9 => ?_) (fun c9 => ?_)
  · obtain ⟨j, g, f, q, h1, h2, h3, h4, rfl, rfl, rfl, rfl⟩ := inK_n B c9
    refine r_iconst (pc := 15) (v := (nI 0)) C dX6_kept_15 (by decide) ?_
    refine r_istore (pc := 16) (lv' := [_, _, _, _, _, _, _]) C dX6_kept_16 (by decide) rfl rfl ?_
    refine r_iconst (pc := 18) (v := (nI 0)) C dX6_kept_18 (by decide) ?_
    refine r_istore (pc := 19) (lv' := [_, _, _, _, _, _, _]) C dX6_kept_19 (by decide) rfl rfl ?_
    exact tl j g f q h1 h2 h3 h4 c9
  · refine r_bipush (pc := 12) (v := (-101)) C dX6_kept_12 (by decide) ?_
    exact r_iret (pc := 14) C rfl (Nat.le_of_ble_eq_true rfl) (Nat.le_of_ble_eq_true rfl) ⟨_, rfl, ⟨(cif_f c9).symm, rfl⟩⟩ dX6_kept_14
theorem oI_m1 {o : Option Nat} (h : ∀ r, o = some r → r < 2147483648) : oI o = -1 ↔ o = none := by
  cases o with
  | none => exact ⟨fun _ => rfl, fun _ => rfl⟩
  | some r => exact ⟨fun e => absurd e (nI_m1 (h r rfl)), fun e => by cases e⟩
theorem kAtI_mem {l : List (Nat × Nat)} {c r : Nat} {i : Int32} (h : kAtI l c i = some r) : (c, r) ∈ l := by
  unfold kAtI at h
  by_cases hi : i < 0
  · rw [cif_t hi] at h; cases h
  · rw [cif_f hi] at h; exact kAt_mem l _ h
theorem c_X6_keptKey {G : GP} {m : Nat} {t : TS} {h : AH} (E : RM m t h) (B : TB t) (x y z w i : Int32) : MA G mX6_keptKey 3 0 0 [.ref m, .int x, .int y, .int z, .int w, .int i] h (Oi (fun v h' => v = spKKey t x y z w i ∧ h' = h)) := by
  have b0 := B.S
  have b1 := B.marks
  have b2 := B.fed
  refine MA.intro (lv := [some (.ref m), some (.int x), some (.int y), some (.int z), some (.int w), some (.int i), none]) (by decide) (Nat.le_of_ble_eq_true rfl) rfl (fun F C => ?_)
  refine r_aload_n (pc := 0) C dX6_keptKey_0 rfl rfl ?_
  refine r_iload_n (pc := 1) C dX6_keptKey_1 rfl rfl ?_
  refine r_iload_n (pc := 2) C dX6_keptKey_2 rfl rfl ?_
  refine r_iload_n (pc := 3) C dX6_keptKey_3 rfl rfl ?_
  refine r_iload (pc := 4) C dX6_keptKey_4 rfl ?_
  refine r_calli (cr_V (pc := 6) C (c_X6_wasChannel E B _ _ _ _) dX6_keptKey_6 cm_X6_wasChannel ml_X6_180 im_X6_wasChannel se_X6_wasChannel E.L.o rfl ⟨⟨Nat.le_of_ble_eq_true rfl, Nat.le_of_ble_eq_true rfl⟩, Nat.le_of_ble_eq_true rfl, Nat.le_of_ble_eq_true rfl⟩ rfl rfl (Nat.le_of_ble_eq_true rfl)) (fun v6 h6 hq6 => ?_)
  obtain ⟨rfl, rfl⟩ := hq6
  refine b_if_ne (pc := 9) (tgt := 15) C dX6_keptKey_9 (by decide) (fun c9 => ?_) (fun c9 => ?_)
  · obtain ⟨j, g, f, q, h1, h2, h3, h4, rfl, rfl, rfl, rfl⟩ := inK_n B c9
    have e0 : spKKey t (nI j) (nI g) (nI f) (nI q) i = (match kAtI (tK t j) (16 * g + 4 * f + q) i with | some r => nI (tN t 2 r) | none => -1) := (cif_t c9).trans (by rw [cl (by omega), cl (by omega), cl (by omega), cl (by omega)])
    rw [e0]
    refine r_aload_n (pc := 15) C dX6_keptKey_15 rfl rfl ?_
    refine r_iload_n (pc := 16) C dX6_keptKey_16 rfl rfl ?_
    refine r_iload_n (pc := 17) C dX6_keptKey_17 rfl rfl ?_
    refine r_iload_n (pc := 18) C dX6_keptKey_18 rfl rfl ?_
    refine r_iload (pc := 19) C dX6_keptKey_19 rfl ?_
    refine r_calli (cr_S (pc := 21) C (c_X6_at _ g f q) dX6_keptKey_21 cm_X6_at ml_X6_118 st_X6_at ⟨⟨Nat.le_of_ble_eq_true rfl, Nat.le_of_ble_eq_true rfl⟩, Nat.le_of_ble_eq_true rfl, Nat.le_of_ble_eq_true rfl⟩ rfl rfl (Nat.le_of_ble_eq_true rfl)) (fun v21 h21 hq21 => ?_)
    obtain ⟨rfl, rfl⟩ := hq21
    refine r_iload (pc := 24) C dX6_keptKey_24 rfl ?_
    refine r_calli (cr_V (pc := 26) C (c_X6_keptAt E B (j := j) (c := 16 * g + 4 * f + q) (by omega) (by omega) i) dX6_keptKey_26 cm_X6_keptAt ml_X6_184 im_X6_keptAt se_X6_keptAt E.L.o rfl ⟨⟨Nat.le_of_ble_eq_true rfl, Nat.le_of_ble_eq_true rfl⟩, Nat.le_of_ble_eq_true rfl, Nat.le_of_ble_eq_true rfl⟩ rfl rfl (Nat.le_of_ble_eq_true rfl)) (fun v26 h26 hq26 => ?_)
    obtain ⟨rfl, rfl⟩ := hq26
    have hm : ∀ r, kAtI (tK t j) (16 * g + 4 * f + q) i = some r → r < tN t 0 3 := fun r hr => (B.krow (kAtI_mem hr)).2
    generalize kAtI (tK t j) (16 * g + 4 * f + q) i = o at hm
    refine r_istore (pc := 29) (lv' := [_, _, _, _, _, _, _]) C dX6_keptKey_29 (by decide) rfl rfl ?_
    refine r_iload (pc := 31) C dX6_keptKey_31 rfl ?_
    refine r_iconst (pc := 33) (v := (-1)) C dX6_keptKey_33 (by decide) ?_
    refine r_icmp_ne (pc := 34) (tgt := 41) C dX6_keptKey_34 (by decide) (fun c34 => ?_) (fun c34 => ?_)
    · obtain ⟨r, rfl⟩ : ∃ r, o = some r := Option.ne_none_iff_exists'.mp (fun e => c34 ((oI_m1 (fun r hr => by have := hm r hr; omega)).mpr e))
      have hr := hm r rfl
      show WA _ _ _ _ _ _ _ _ [_, _, _, _, _, _, some (.int (nI r))] _
      refine r_aload_n (pc := 41) C dX6_keptKey_41 rfl rfl ?_
      refine r_getR (pc := 42) C fl_X6_20 E.L.o rfl E.L.r6 dX6_keptKey_42 ?_
      refine r_iload (pc := 45) C dX6_keptKey_45 rfl ?_
      refine n_iald (pc := 47) C E.L.s6 (by omega) (E.k_key _ (by omega)) dX6_keptKey_47 ?_
      exact r_iret (pc := 48) C rfl (Nat.le_of_ble_eq_true rfl) (Nat.le_of_ble_eq_true rfl) ⟨_, rfl, ⟨rfl, rfl⟩⟩ dX6_keptKey_48
    · obtain rfl := (oI_m1 (fun r hr => by have := hm r hr; omega)).mp c34
      refine r_iconst (pc := 37) (v := (-1)) C dX6_keptKey_37 (by decide) ?_
      refine r_goto (pc := 38) (tgt := 48) C dX6_keptKey_38 (by decide) ?_
      exact r_iret (pc := 48) C rfl (Nat.le_of_ble_eq_true rfl) (Nat.le_of_ble_eq_true rfl) ⟨_, rfl, ⟨rfl, rfl⟩⟩ dX6_keptKey_48
  · refine r_bipush (pc := 12) (v := (-101)) C dX6_keptKey_12 (by decide) ?_
    exact r_iret (pc := 14) C rfl (Nat.le_of_ble_eq_true rfl) (Nat.le_of_ble_eq_true rfl) ⟨_, rfl, ⟨(cif_f c9).symm, rfl⟩⟩ dX6_keptKey_14
theorem c_X6_keptValue {G : GP} {m : Nat} {t : TS} {h : AH} (E : RM m t h) (B : TB t) (x y z w i : Int32) : MA G mX6_keptValue 3 0 0 [.ref m, .int x, .int y, .int z, .int w, .int i] h (Ol (fun v h' => v = spKVal t x y z w i ∧ h' = h)) := by
  have b0 := B.S
  have b1 := B.marks
  have b2 := B.fed
  refine MA.intro (lv := [some (.ref m), some (.int x), some (.int y), some (.int z), some (.int w), some (.int i), none]) (by decide) (Nat.le_of_ble_eq_true rfl) rfl (fun F C => ?_)
  refine r_aload_n (pc := 0) C dX6_keptValue_0 rfl rfl ?_
  refine r_iload_n (pc := 1) C dX6_keptValue_1 rfl rfl ?_
  refine r_iload_n (pc := 2) C dX6_keptValue_2 rfl rfl ?_
  refine r_iload_n (pc := 3) C dX6_keptValue_3 rfl rfl ?_
  refine r_iload (pc := 4) C dX6_keptValue_4 rfl ?_
  refine r_calli (cr_V (pc := 6) C (c_X6_wasChannel E B _ _ _ _) dX6_keptValue_6 cm_X6_wasChannel ml_X6_180 im_X6_wasChannel se_X6_wasChannel E.L.o rfl ⟨⟨Nat.le_of_ble_eq_true rfl, Nat.le_of_ble_eq_true rfl⟩, Nat.le_of_ble_eq_true rfl, Nat.le_of_ble_eq_true rfl⟩ rfl rfl (Nat.le_of_ble_eq_true rfl)) (fun v6 h6 hq6 => ?_)
  obtain ⟨rfl, rfl⟩ := hq6
  refine b_if_eq (pc := 9) (tgt := 29) C dX6_keptValue_9 (by decide) (fun c9 => ?_) (fun c9 => ?_)
  · have e0 : spKVal t x y z w i = 0 := cif_f c9
    refine r_iconst (pc := 29) (v := (-1)) C dX6_keptValue_29 (by decide) ?_
    refine r_istore (pc := 30) (lv' := [_, _, _, _, _, _, _]) C dX6_keptValue_30 (by decide) rfl rfl ?_
    refine r_iload (pc := 32) C dX6_keptValue_32 rfl ?_
    refine r_iconst (pc := 34) (v := -1) C dX6_keptValue_34 (by decide) ?_
    refine r_icmp_ne (pc := 35) (tgt := 42) C dX6_keptValue_35 (by decide) (fun c35 => absurd rfl c35) (fun c35 => ?_)
    refine r_lconst (pc := 38) (v := 0) C dX6_keptValue_38 (by decide) ?_
    refine r_goto (pc := 39) (tgt := 49) C dX6_keptValue_39 (by decide) ?_
    exact r_lret (pc := 49) C rfl (Nat.le_of_ble_eq_true rfl) (Nat.le_of_ble_eq_true rfl) ⟨_, rfl, ⟨e0.symm, rfl⟩⟩ dX6_keptValue_49
  · obtain ⟨j, g, f, q, h1, h2, h3, h4, rfl, rfl, rfl, rfl⟩ := inK_n B c9
    have e0 : spKVal t (nI j) (nI g) (nI f) (nI q) i = (match kAtI (tK t j) (16 * g + 4 * f + q) i with | some r => tL t 0 r | none => 0) := (cif_t c9).trans (by rw [cl (by omega), cl (by omega), cl (by omega), cl (by omega)])
    rw [e0]
    refine r_aload_n (pc := 12) C dX6_keptValue_12 rfl rfl ?_
    refine r_iload_n (pc := 13) C dX6_keptValue_13 rfl rfl ?_
    refine r_iload_n (pc := 14) C dX6_keptValue_14 rfl rfl ?_
    refine r_iload_n (pc := 15) C dX6_keptValue_15 rfl rfl ?_
    refine r_iload (pc := 16) C dX6_keptValue_16 rfl ?_
    refine r_calli (cr_S (pc := 18) C (c_X6_at _ g f q) dX6_keptValue_18 cm_X6_at ml_X6_118 st_X6_at ⟨⟨Nat.le_of_ble_eq_true rfl, Nat.le_of_ble_eq_true rfl⟩, Nat.le_of_ble_eq_true rfl, Nat.le_of_ble_eq_true rfl⟩ rfl rfl (Nat.le_of_ble_eq_true rfl)) (fun v18 h18 hq18 => ?_)
    obtain ⟨rfl, rfl⟩ := hq18
    refine r_iload (pc := 21) C dX6_keptValue_21 rfl ?_
    refine r_calli (cr_V (pc := 23) C (c_X6_keptAt E B (j := j) (c := 16 * g + 4 * f + q) (by omega) (by omega) i) dX6_keptValue_23 cm_X6_keptAt ml_X6_184 im_X6_keptAt se_X6_keptAt E.L.o rfl ⟨⟨Nat.le_of_ble_eq_true rfl, Nat.le_of_ble_eq_true rfl⟩, Nat.le_of_ble_eq_true rfl, Nat.le_of_ble_eq_true rfl⟩ rfl rfl (Nat.le_of_ble_eq_true rfl)) (fun v23 h23 hq23 => ?_)
    obtain ⟨rfl, rfl⟩ := hq23
    have hm : ∀ r, kAtI (tK t j) (16 * g + 4 * f + q) i = some r → r < tN t 0 3 := fun r hr => (B.krow (kAtI_mem hr)).2
    generalize kAtI (tK t j) (16 * g + 4 * f + q) i = o at hm
    refine r_goto (pc := 26) (tgt := 30) C dX6_keptValue_26 (by decide) ?_
    refine r_istore (pc := 30) (lv' := [_, _, _, _, _, _, _]) C dX6_keptValue_30 (by decide) rfl rfl ?_
    refine r_iload (pc := 32) C dX6_keptValue_32 rfl ?_
    refine r_iconst (pc := 34) (v := (-1)) C dX6_keptValue_34 (by decide) ?_
    refine r_icmp_ne (pc := 35) (tgt := 42) C dX6_keptValue_35 (by decide) (fun c35 => ?_) (fun c35 => ?_)
    · obtain ⟨r, rfl⟩ : ∃ r, o = some r := Option.ne_none_iff_exists'.mp (fun e => c35 ((oI_m1 (fun r hr => by have := hm r hr; omega)).mpr e))
      have hr := hm r rfl
      show WA _ _ _ _ _ _ _ _ [_, _, _, _, _, _, some (.int (nI r))] _
      refine r_aload_n (pc := 42) C dX6_keptValue_42 rfl rfl ?_
      refine r_getR (pc := 43) C fl_X6_23 E.L.o rfl E.L.r7 dX6_keptValue_43 ?_
      refine r_iload (pc := 46) C dX6_keptValue_46 rfl ?_
      refine n_lald (pc := 48) C E.L.s7 (by omega) (E.k_val _ (by omega)) dX6_keptValue_48 ?_
      exact r_lret (pc := 49) C rfl (Nat.le_of_ble_eq_true rfl) (Nat.le_of_ble_eq_true rfl) ⟨_, rfl, ⟨by first | exact e0.symm | rfl, rfl⟩⟩ dX6_keptValue_49
    · obtain rfl := (oI_m1 (fun r hr => by have := hm r hr; omega)).mp c35
      refine r_lconst (pc := 38) (v := 0) C dX6_keptValue_38 (by decide) ?_
      refine r_goto (pc := 39) (tgt := 49) C dX6_keptValue_39 (by decide) ?_
      exact r_lret (pc := 49) C rfl (Nat.le_of_ble_eq_true rfl) (Nat.le_of_ble_eq_true rfl) ⟨_, rfl, ⟨by first | exact e0.symm | rfl, rfl⟩⟩ dX6_keptValue_49
