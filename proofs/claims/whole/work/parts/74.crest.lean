/-! ===== the class: restore, its parts ===== -/
theorem oI_unr {t : TS} {k : Nat} : ∀ n r, (∀ q, nxtR t k n r = some q → q < r + n ∧ tN t 2 q = k ∧ cnt t k q = cnt t k r) ∧ (nxtR t k n r = none → cnt t k (r + n) = cnt t k r)
  | 0, r => ⟨fun q h => (by cases h), fun _ => rfl⟩
  | n + 1, r => by
    have ih := oI_unr (t := t) (k := k) n (r + 1)
    have e : cnt t k (r + 1) = cnt t k r + (if tN t 2 r = k then 1 else 0) := rfl
    unfold nxtR
    by_cases h : tN t 2 r = k
    · rw [if_pos h]
      exact ⟨fun q hq => by injection hq with hq; subst hq; exact ⟨by omega, h, rfl⟩, fun z => by cases z⟩
    · rw [if_neg h]
      rw [if_neg h] at e
      refine ⟨fun q hq => ?_, fun hq => ?_⟩
      · obtain ⟨a, b, c⟩ := ih.1 q hq
        exact ⟨by omega, b, by omega⟩
      · have := ih.2 hq
        rw [show r + (n + 1) = r + 1 + n by omega]; omega
theorem rwd_ok {t : TS} {k : Nat} : ∀ M, (∀ r, rwd t k M = some r → r < tN t 0 3 ∧ tN t 2 r = k ∧ cnt t k r = M) ∧ (rwd t k M = none → cnt t k (tN t 0 3) ≤ M)
  | 0 => by
    unfold rwd
    have h := oI_unr (t := t) (k := k) (tN t 0 3) 0
    refine ⟨fun r hr => ?_, fun hr => ?_⟩
    · obtain ⟨a, b, c⟩ := h.1 r hr; exact ⟨by omega, b, c⟩
    · have := h.2 hr; rw [Nat.zero_add] at this; rw [this]; exact Nat.le_refl _
  | M + 1 => by
    have ih := rwd_ok (t := t) (k := k) M
    unfold rwd
    cases hM : rwd t k M with
    | none => exact ⟨fun r h => (by cases h), fun _ => by have := ih.2 hM; omega⟩
    | some y =>
      obtain ⟨a, b, c⟩ := ih.1 y hM
      have h := oI_unr (t := t) (k := k) (tN t 0 3 - (y + 1)) (y + 1)
      have e : cnt t k (y + 1) = M + 1 := by show cnt t k y + (if tN t 2 y = k then 1 else 0) = _; rw [if_pos b, c]
      refine ⟨fun r hr => ?_, fun hr => ?_⟩
      · obtain ⟨a', b', c'⟩ := h.1 r hr; exact ⟨by omega, b', by omega⟩
      · have := h.2 hr; rw [show y + 1 + (tN t 0 3 - (y + 1)) = tN t 0 3 by omega] at this; omega
theorem rwd_unr {t : TS} {k : Nat} : unrOK t k (oN (rwd t k (tN t 3 k))) ∧ (tN t 0 3 ≤ 200 → oN (rwd t k (tN t 3 k)) ≤ 200) := by
  have h := rwd_ok (t := t) (k := k) (tN t 3 k)
  cases hr : rwd t k (tN t 3 k) with
  | none => exact ⟨⟨fun _ => h.2 hr, fun r e => by cases e⟩, fun _ => Nat.zero_le _⟩
  | some y =>
    obtain ⟨a, b, c⟩ := h.1 y hr
    refine ⟨⟨fun e => (by cases e), fun r e => ?_⟩, fun _ => by show y + 1 ≤ 200; omega⟩
    have : y + 1 = r + 1 := e
    have : r = y := by omega
    subst this; exact ⟨a, b, c⟩
section CR74
variable {G : GP} {x m : Nat} {t : TS} {e : ES} {h : AH}
theorem c_X5_areWidths (E : RX x m t e h) (B : TB t) (p0 p1 p2 p3 : Int32) : MA G mX5_areWidths 1 0 0 [.ref x, .int p0, .int p1, .int p2, .int p3] h (Oi (fun v h' => v = bI (goodW t p0 p1 p2 p3) ∧ h' = h)) := by
  have b := B.S
  refine MA.intro (lv := [some (.ref x), some (.int p0), some (.int p1), some (.int p2), some (.int p3)]) (by decide) (Nat.le_of_ble_eq_true rfl) rfl (fun F C => ?_)
  have t49 : ¬ goodW t p0 p1 p2 p3 → WA G F mX5_areWidths h 0 0 (MQA G F 0 0 (Oi (fun v h' => v = bI (goodW t p0 p1 p2 p3) ∧ h' = h))) 49 [some (.ref x), some (.int p0), some (.int p1), some (.int p2), some (.int p3)] [] := fun hn => by
    refine r_iconst (pc := 49) (v := (nI 0)) C dX5_areWidths_49 (by decide) ?_
    exact r_zret (pc := 50) C rfl (by first | exact bI_01 | exact Or.inl rfl | exact Or.inr rfl) (Nat.le_of_ble_eq_true rfl) (Nat.le_of_ble_eq_true rfl) ⟨_, rfl, ⟨ff0 hn, rfl⟩⟩ dX5_areWidths_50
  by_cases g0 : nI 1 ≤ p0 ∧ p0 ≤ nI 4
  · by_cases g1 : nI 1 ≤ p1 ∧ p1 ≤ nI 4
    · by_cases g2 : tN t 0 0 < 3 ∨ (nI 1 ≤ p2 ∧ p2 ≤ nI 4)
      · by_cases g3 : tN t 0 0 < 4 ∨ (nI 1 ≤ p3 ∧ p3 ≤ nI 4)
        · have gw : goodW t p0 p1 p2 p3 := ⟨g0, g1, g2, g3⟩
          refine r_iload_n (pc := 0) C dX5_areWidths_0 rfl rfl ?_
          refine r_calli (cr_S (pc := 1) C (c_X5_isWidth _ _) dX5_areWidths_1 cm_X5_isWidth ml_X5_93 st_X5_isWidth ⟨⟨Nat.le_of_ble_eq_true rfl, Nat.le_of_ble_eq_true rfl⟩, Nat.le_of_ble_eq_true rfl, Nat.le_of_ble_eq_true rfl⟩ rfl rfl (Nat.le_of_ble_eq_true rfl)) (fun v1 h1 hq1 => ?_)
          obtain ⟨rfl, rfl⟩ := hq1
          refine b_if_eq (pc := 4) (tgt := 49) C dX5_areWidths_4 (by decide) (fun c4 => absurd c4 (fun z => z g0)) (fun c4 => ?_)
          refine r_iload_n (pc := 7) C dX5_areWidths_7 rfl rfl ?_
          refine r_calli (cr_S (pc := 8) C (c_X5_isWidth _ _) dX5_areWidths_8 cm_X5_isWidth ml_X5_93 st_X5_isWidth ⟨⟨Nat.le_of_ble_eq_true rfl, Nat.le_of_ble_eq_true rfl⟩, Nat.le_of_ble_eq_true rfl, Nat.le_of_ble_eq_true rfl⟩ rfl rfl (Nat.le_of_ble_eq_true rfl)) (fun v8 h8 hq8 => ?_)
          obtain ⟨rfl, rfl⟩ := hq8
          refine b_if_eq (pc := 11) (tgt := 49) C dX5_areWidths_11 (by decide) (fun c11 => absurd c11 (fun z => z g1)) (fun c11 => ?_)
          refine r_aload_n (pc := 14) C dX5_areWidths_14 rfl rfl ?_
          refine r_getIe (pc := 15) C fl_X5_64 E.L.o rfl E.S dX5_areWidths_15 ?_
          refine r_iconst (pc := 18) (v := (nI 3)) C dX5_areWidths_18 (by decide) ?_
          refine n_icmp_lt (pc := 19) (tgt := 29) C (by omega) (by omega) dX5_areWidths_19 (by decide) (fun c19 => ?_) (fun c19 => ?_)
          · refine r_aload_n (pc := 29) C dX5_areWidths_29 rfl rfl ?_
            refine r_getIe (pc := 30) C fl_X5_64 E.L.o rfl E.S dX5_areWidths_30 ?_
            refine r_iconst (pc := 33) (v := (nI 4)) C dX5_areWidths_33 (by decide) ?_
            refine n_icmp_lt (pc := 34) (tgt := 45) C (by omega) (by omega) dX5_areWidths_34 (by decide) (fun c34 => ?_) (fun c34 => ?_)
            · refine r_iconst (pc := 45) (v := (nI 1)) C dX5_areWidths_45 (by decide) ?_
              refine r_goto (pc := 46) (tgt := 50) C dX5_areWidths_46 (by decide) ?_
              exact r_zret (pc := 50) C rfl (by first | exact bI_01 | exact Or.inl rfl | exact Or.inr rfl) (Nat.le_of_ble_eq_true rfl) (Nat.le_of_ble_eq_true rfl) ⟨_, rfl, ⟨tt1 gw, rfl⟩⟩ dX5_areWidths_50
            · refine r_iload (pc := 37) C dX5_areWidths_37 rfl ?_
              refine r_calli (cr_S (pc := 39) C (c_X5_isWidth _ _) dX5_areWidths_39 cm_X5_isWidth ml_X5_93 st_X5_isWidth ⟨⟨Nat.le_of_ble_eq_true rfl, Nat.le_of_ble_eq_true rfl⟩, Nat.le_of_ble_eq_true rfl, Nat.le_of_ble_eq_true rfl⟩ rfl rfl (Nat.le_of_ble_eq_true rfl)) (fun v39 h39 hq39 => ?_)
              obtain ⟨rfl, rfl⟩ := hq39
              refine b_if_eq (pc := 42) (tgt := 49) C dX5_areWidths_42 (by decide) (fun c42 => absurd c42 (fun z => z (g3.resolve_left (by omega)))) (fun c42 => ?_)
              refine r_iconst (pc := 45) (v := (nI 1)) C dX5_areWidths_45 (by decide) ?_
              refine r_goto (pc := 46) (tgt := 50) C dX5_areWidths_46 (by decide) ?_
              exact r_zret (pc := 50) C rfl (by first | exact bI_01 | exact Or.inl rfl | exact Or.inr rfl) (Nat.le_of_ble_eq_true rfl) (Nat.le_of_ble_eq_true rfl) ⟨_, rfl, ⟨tt1 gw, rfl⟩⟩ dX5_areWidths_50
          · refine r_iload_n (pc := 22) C dX5_areWidths_22 rfl rfl ?_
            refine r_calli (cr_S (pc := 23) C (c_X5_isWidth _ _) dX5_areWidths_23 cm_X5_isWidth ml_X5_93 st_X5_isWidth ⟨⟨Nat.le_of_ble_eq_true rfl, Nat.le_of_ble_eq_true rfl⟩, Nat.le_of_ble_eq_true rfl, Nat.le_of_ble_eq_true rfl⟩ rfl rfl (Nat.le_of_ble_eq_true rfl)) (fun v23 h23 hq23 => ?_)
            obtain ⟨rfl, rfl⟩ := hq23
            refine b_if_eq (pc := 26) (tgt := 49) C dX5_areWidths_26 (by decide) (fun c26 => absurd c26 (fun z => z (g2.resolve_left (by omega)))) (fun c26 => ?_)
            refine r_aload_n (pc := 29) C dX5_areWidths_29 rfl rfl ?_
            refine r_getIe (pc := 30) C fl_X5_64 E.L.o rfl E.S dX5_areWidths_30 ?_
            refine r_iconst (pc := 33) (v := (nI 4)) C dX5_areWidths_33 (by decide) ?_
            refine n_icmp_lt (pc := 34) (tgt := 45) C (by omega) (by omega) dX5_areWidths_34 (by decide) (fun c34 => ?_) (fun c34 => ?_)
            · refine r_iconst (pc := 45) (v := (nI 1)) C dX5_areWidths_45 (by decide) ?_
              refine r_goto (pc := 46) (tgt := 50) C dX5_areWidths_46 (by decide) ?_
              exact r_zret (pc := 50) C rfl (by first | exact bI_01 | exact Or.inl rfl | exact Or.inr rfl) (Nat.le_of_ble_eq_true rfl) (Nat.le_of_ble_eq_true rfl) ⟨_, rfl, ⟨tt1 gw, rfl⟩⟩ dX5_areWidths_50
            · refine r_iload (pc := 37) C dX5_areWidths_37 rfl ?_
              refine r_calli (cr_S (pc := 39) C (c_X5_isWidth _ _) dX5_areWidths_39 cm_X5_isWidth ml_X5_93 st_X5_isWidth ⟨⟨Nat.le_of_ble_eq_true rfl, Nat.le_of_ble_eq_true rfl⟩, Nat.le_of_ble_eq_true rfl, Nat.le_of_ble_eq_true rfl⟩ rfl rfl (Nat.le_of_ble_eq_true rfl)) (fun v39 h39 hq39 => ?_)
              obtain ⟨rfl, rfl⟩ := hq39
              refine b_if_eq (pc := 42) (tgt := 49) C dX5_areWidths_42 (by decide) (fun c42 => absurd c42 (fun z => z (g3.resolve_left (by omega)))) (fun c42 => ?_)
              refine r_iconst (pc := 45) (v := (nI 1)) C dX5_areWidths_45 (by decide) ?_
              refine r_goto (pc := 46) (tgt := 50) C dX5_areWidths_46 (by decide) ?_
              exact r_zret (pc := 50) C rfl (by first | exact bI_01 | exact Or.inl rfl | exact Or.inr rfl) (Nat.le_of_ble_eq_true rfl) (Nat.le_of_ble_eq_true rfl) ⟨_, rfl, ⟨tt1 gw, rfl⟩⟩ dX5_areWidths_50
        · have gw : ¬ goodW t p0 p1 p2 p3 := fun z => g3 z.2.2.2
          refine r_iload_n (pc := 0) C dX5_areWidths_0 rfl rfl ?_
          refine r_calli (cr_S (pc := 1) C (c_X5_isWidth _ _) dX5_areWidths_1 cm_X5_isWidth ml_X5_93 st_X5_isWidth ⟨⟨Nat.le_of_ble_eq_true rfl, Nat.le_of_ble_eq_true rfl⟩, Nat.le_of_ble_eq_true rfl, Nat.le_of_ble_eq_true rfl⟩ rfl rfl (Nat.le_of_ble_eq_true rfl)) (fun v1 h1 hq1 => ?_)
          obtain ⟨rfl, rfl⟩ := hq1
          refine b_if_eq (pc := 4) (tgt := 49) C dX5_areWidths_4 (by decide) (fun c4 => absurd c4 (fun z => z g0)) (fun c4 => ?_)
          refine r_iload_n (pc := 7) C dX5_areWidths_7 rfl rfl ?_
          refine r_calli (cr_S (pc := 8) C (c_X5_isWidth _ _) dX5_areWidths_8 cm_X5_isWidth ml_X5_93 st_X5_isWidth ⟨⟨Nat.le_of_ble_eq_true rfl, Nat.le_of_ble_eq_true rfl⟩, Nat.le_of_ble_eq_true rfl, Nat.le_of_ble_eq_true rfl⟩ rfl rfl (Nat.le_of_ble_eq_true rfl)) (fun v8 h8 hq8 => ?_)
          obtain ⟨rfl, rfl⟩ := hq8
          refine b_if_eq (pc := 11) (tgt := 49) C dX5_areWidths_11 (by decide) (fun c11 => absurd c11 (fun z => z g1)) (fun c11 => ?_)
          refine r_aload_n (pc := 14) C dX5_areWidths_14 rfl rfl ?_
          refine r_getIe (pc := 15) C fl_X5_64 E.L.o rfl E.S dX5_areWidths_15 ?_
          refine r_iconst (pc := 18) (v := (nI 3)) C dX5_areWidths_18 (by decide) ?_
          refine n_icmp_lt (pc := 19) (tgt := 29) C (by omega) (by omega) dX5_areWidths_19 (by decide) (fun c19 => ?_) (fun c19 => ?_)
          · refine r_aload_n (pc := 29) C dX5_areWidths_29 rfl rfl ?_
            refine r_getIe (pc := 30) C fl_X5_64 E.L.o rfl E.S dX5_areWidths_30 ?_
            refine r_iconst (pc := 33) (v := (nI 4)) C dX5_areWidths_33 (by decide) ?_
            refine n_icmp_lt (pc := 34) (tgt := 45) C (by omega) (by omega) dX5_areWidths_34 (by decide) (fun c34 => absurd c34 (fun z => g3 (Or.inl (by omega)))) (fun c34 => ?_)
            refine r_iload (pc := 37) C dX5_areWidths_37 rfl ?_
            refine r_calli (cr_S (pc := 39) C (c_X5_isWidth _ _) dX5_areWidths_39 cm_X5_isWidth ml_X5_93 st_X5_isWidth ⟨⟨Nat.le_of_ble_eq_true rfl, Nat.le_of_ble_eq_true rfl⟩, Nat.le_of_ble_eq_true rfl, Nat.le_of_ble_eq_true rfl⟩ rfl rfl (Nat.le_of_ble_eq_true rfl)) (fun v39 h39 hq39 => ?_)
            obtain ⟨rfl, rfl⟩ := hq39
            refine b_if_eq (pc := 42) (tgt := 49) C dX5_areWidths_42 (by decide) (fun c42 => ?_) (fun c42 => absurd c42 (fun z => g3 (Or.inr z)))
            exact t49 gw
          · refine r_iload_n (pc := 22) C dX5_areWidths_22 rfl rfl ?_
            refine r_calli (cr_S (pc := 23) C (c_X5_isWidth _ _) dX5_areWidths_23 cm_X5_isWidth ml_X5_93 st_X5_isWidth ⟨⟨Nat.le_of_ble_eq_true rfl, Nat.le_of_ble_eq_true rfl⟩, Nat.le_of_ble_eq_true rfl, Nat.le_of_ble_eq_true rfl⟩ rfl rfl (Nat.le_of_ble_eq_true rfl)) (fun v23 h23 hq23 => ?_)
            obtain ⟨rfl, rfl⟩ := hq23
            refine b_if_eq (pc := 26) (tgt := 49) C dX5_areWidths_26 (by decide) (fun c26 => absurd c26 (fun z => z (g2.resolve_left (by omega)))) (fun c26 => ?_)
            refine r_aload_n (pc := 29) C dX5_areWidths_29 rfl rfl ?_
            refine r_getIe (pc := 30) C fl_X5_64 E.L.o rfl E.S dX5_areWidths_30 ?_
            refine r_iconst (pc := 33) (v := (nI 4)) C dX5_areWidths_33 (by decide) ?_
            refine n_icmp_lt (pc := 34) (tgt := 45) C (by omega) (by omega) dX5_areWidths_34 (by decide) (fun c34 => absurd c34 (fun z => g3 (Or.inl (by omega)))) (fun c34 => ?_)
            refine r_iload (pc := 37) C dX5_areWidths_37 rfl ?_
            refine r_calli (cr_S (pc := 39) C (c_X5_isWidth _ _) dX5_areWidths_39 cm_X5_isWidth ml_X5_93 st_X5_isWidth ⟨⟨Nat.le_of_ble_eq_true rfl, Nat.le_of_ble_eq_true rfl⟩, Nat.le_of_ble_eq_true rfl, Nat.le_of_ble_eq_true rfl⟩ rfl rfl (Nat.le_of_ble_eq_true rfl)) (fun v39 h39 hq39 => ?_)
            obtain ⟨rfl, rfl⟩ := hq39
            refine b_if_eq (pc := 42) (tgt := 49) C dX5_areWidths_42 (by decide) (fun c42 => ?_) (fun c42 => absurd c42 (fun z => g3 (Or.inr z)))
            exact t49 gw
      · have gw : ¬ goodW t p0 p1 p2 p3 := fun z => g2 z.2.2.1
        refine r_iload_n (pc := 0) C dX5_areWidths_0 rfl rfl ?_
        refine r_calli (cr_S (pc := 1) C (c_X5_isWidth _ _) dX5_areWidths_1 cm_X5_isWidth ml_X5_93 st_X5_isWidth ⟨⟨Nat.le_of_ble_eq_true rfl, Nat.le_of_ble_eq_true rfl⟩, Nat.le_of_ble_eq_true rfl, Nat.le_of_ble_eq_true rfl⟩ rfl rfl (Nat.le_of_ble_eq_true rfl)) (fun v1 h1 hq1 => ?_)
        obtain ⟨rfl, rfl⟩ := hq1
        refine b_if_eq (pc := 4) (tgt := 49) C dX5_areWidths_4 (by decide) (fun c4 => absurd c4 (fun z => z g0)) (fun c4 => ?_)
        refine r_iload_n (pc := 7) C dX5_areWidths_7 rfl rfl ?_
        refine r_calli (cr_S (pc := 8) C (c_X5_isWidth _ _) dX5_areWidths_8 cm_X5_isWidth ml_X5_93 st_X5_isWidth ⟨⟨Nat.le_of_ble_eq_true rfl, Nat.le_of_ble_eq_true rfl⟩, Nat.le_of_ble_eq_true rfl, Nat.le_of_ble_eq_true rfl⟩ rfl rfl (Nat.le_of_ble_eq_true rfl)) (fun v8 h8 hq8 => ?_)
        obtain ⟨rfl, rfl⟩ := hq8
        refine b_if_eq (pc := 11) (tgt := 49) C dX5_areWidths_11 (by decide) (fun c11 => absurd c11 (fun z => z g1)) (fun c11 => ?_)
        refine r_aload_n (pc := 14) C dX5_areWidths_14 rfl rfl ?_
        refine r_getIe (pc := 15) C fl_X5_64 E.L.o rfl E.S dX5_areWidths_15 ?_
        refine r_iconst (pc := 18) (v := (nI 3)) C dX5_areWidths_18 (by decide) ?_
        refine n_icmp_lt (pc := 19) (tgt := 29) C (by omega) (by omega) dX5_areWidths_19 (by decide) (fun c19 => absurd c19 (fun z => g2 (Or.inl (by omega)))) (fun c19 => ?_)
        refine r_iload_n (pc := 22) C dX5_areWidths_22 rfl rfl ?_
        refine r_calli (cr_S (pc := 23) C (c_X5_isWidth _ _) dX5_areWidths_23 cm_X5_isWidth ml_X5_93 st_X5_isWidth ⟨⟨Nat.le_of_ble_eq_true rfl, Nat.le_of_ble_eq_true rfl⟩, Nat.le_of_ble_eq_true rfl, Nat.le_of_ble_eq_true rfl⟩ rfl rfl (Nat.le_of_ble_eq_true rfl)) (fun v23 h23 hq23 => ?_)
        obtain ⟨rfl, rfl⟩ := hq23
        refine b_if_eq (pc := 26) (tgt := 49) C dX5_areWidths_26 (by decide) (fun c26 => ?_) (fun c26 => absurd c26 (fun z => g2 (Or.inr z)))
        exact t49 gw
    · have gw : ¬ goodW t p0 p1 p2 p3 := fun z => g1 z.2.1
      refine r_iload_n (pc := 0) C dX5_areWidths_0 rfl rfl ?_
      refine r_calli (cr_S (pc := 1) C (c_X5_isWidth _ _) dX5_areWidths_1 cm_X5_isWidth ml_X5_93 st_X5_isWidth ⟨⟨Nat.le_of_ble_eq_true rfl, Nat.le_of_ble_eq_true rfl⟩, Nat.le_of_ble_eq_true rfl, Nat.le_of_ble_eq_true rfl⟩ rfl rfl (Nat.le_of_ble_eq_true rfl)) (fun v1 h1 hq1 => ?_)
      obtain ⟨rfl, rfl⟩ := hq1
      refine b_if_eq (pc := 4) (tgt := 49) C dX5_areWidths_4 (by decide) (fun c4 => absurd c4 (fun z => z g0)) (fun c4 => ?_)
      refine r_iload_n (pc := 7) C dX5_areWidths_7 rfl rfl ?_
      refine r_calli (cr_S (pc := 8) C (c_X5_isWidth _ _) dX5_areWidths_8 cm_X5_isWidth ml_X5_93 st_X5_isWidth ⟨⟨Nat.le_of_ble_eq_true rfl, Nat.le_of_ble_eq_true rfl⟩, Nat.le_of_ble_eq_true rfl, Nat.le_of_ble_eq_true rfl⟩ rfl rfl (Nat.le_of_ble_eq_true rfl)) (fun v8 h8 hq8 => ?_)
      obtain ⟨rfl, rfl⟩ := hq8
      refine b_if_eq (pc := 11) (tgt := 49) C dX5_areWidths_11 (by decide) (fun c11 => ?_) (fun c11 => absurd c11 (fun z => g1 z))
      exact t49 gw
  · have gw : ¬ goodW t p0 p1 p2 p3 := fun z => g0 z.1
    refine r_iload_n (pc := 0) C dX5_areWidths_0 rfl rfl ?_
    refine r_calli (cr_S (pc := 1) C (c_X5_isWidth _ _) dX5_areWidths_1 cm_X5_isWidth ml_X5_93 st_X5_isWidth ⟨⟨Nat.le_of_ble_eq_true rfl, Nat.le_of_ble_eq_true rfl⟩, Nat.le_of_ble_eq_true rfl, Nat.le_of_ble_eq_true rfl⟩ rfl rfl (Nat.le_of_ble_eq_true rfl)) (fun v1 h1 hq1 => ?_)
    obtain ⟨rfl, rfl⟩ := hq1
    refine b_if_eq (pc := 4) (tgt := 49) C dX5_areWidths_4 (by decide) (fun c4 => ?_) (fun c4 => absurd c4 (fun z => g0 z))
    exact t49 gw
/-- the widths anew -/
def spWs (t : TS) (w : Nat → Nat) : TS := uNs t 1 (fun i => if i < tN t 0 0 then w i else tN t 1 i)
theorem c_X5_setWidths (E : RX x m t e h) (B : TB t) (w : Nat → Nat) {p0 p1 p2 p3 : Int32} (hp : ∀ i, i < tN t 0 0 → pick p0 p1 p2 p3 i = nI (w i)) : MA G mX5_setWidths 0 0 0 [.ref x, .int p0, .int p1, .int p2, .int p3] h (Ov (fun h' => RX x m (spWs t w) e h' ∧ Fq (Px m) h h')) := by
  have b := B.S
  have bl := E.L.b
  have w0 : p0 = nI (w 0) := hp 0 (by omega)
  have w1 : p1 = nI (w 1) := hp 1 (by omega)
  refine MA.intro (lv := [some (.ref x), some (.int p0), some (.int p1), some (.int p2), some (.int p3)]) (by decide) (Nat.le_of_ble_eq_true rfl) rfl (fun F C => ?_)
  have px : Px m (x + 1) := Or.inl (by omega)
  subst w0
  subst w1
  have ff : Fq (Px m) h h := Fq.rf
  by_cases h2 : tN t 0 0 = 2
  · have e0 : spWs t w = uN (uN t 1 0 (w 0)) 1 1 (w 1) := by
      unfold spWs
      rw [show uN (uN t 1 0 (w 0)) 1 1 (w 1) = uNs t 1 (va_up (va_up (tN t 1) 0 (w 0)) 1 (w 1)) by unfold uN; rw [tN_uNs_s, uNs_same]]
      congr 1
      funext i
      unfold va_up
      rcases (show i = 0 ∨ i = 1 ∨ 2 ≤ i by omega) with z | z | z
      · subst z; simp [h2]
      · subst z; simp [h2]
      · rw [if_neg (by omega), if_neg (by omega), if_neg (by omega)]
    refine r_aload_n (pc := 0) C dX5_setWidths_0 rfl rfl ?_
    refine r_getR (pc := 1) C fl_X5_9 E.L.o rfl E.L.r1 dX5_setWidths_1 ?_
    refine r_iconst (pc := 4) (v := (nI 0)) C dX5_setWidths_4 (by decide) ?_
    refine r_iload_n (pc := 5) C dX5_setWidths_5 rfl rfl ?_
    refine n_iast (pc := 6) C E.L.s1 (by omega) dX5_setWidths_6 ?_
    have E := E.p_P 0 (w 0)
    have ff := ff.pI (a := x + 1) (k := 0) (v := nI (w 0)) px
    refine r_aload_n (pc := 7) C dX5_setWidths_7 rfl rfl ?_
    refine r_getR (pc := 8) C fl_X5_9 E.L.o rfl E.L.r1 dX5_setWidths_8 ?_
    refine r_iconst (pc := 11) (v := (nI 1)) C dX5_setWidths_11 (by decide) ?_
    refine r_iload_n (pc := 12) C dX5_setWidths_12 rfl rfl ?_
    refine n_iast (pc := 13) C E.L.s1 (by omega) dX5_setWidths_13 ?_
    have E := E.p_P 1 (w 1)
    have ff := ff.pI (a := x + 1) (k := 1) (v := nI (w 1)) px
    refine r_aload_n (pc := 14) C dX5_setWidths_14 rfl rfl ?_
    refine r_getIe (pc := 15) C fl_X5_64 E.L.o rfl (show _ = nI (tN t 0 0) from E.S) dX5_setWidths_15 ?_
    refine r_iconst (pc := 18) (v := (nI 2)) C dX5_setWidths_18 (by decide) ?_
    refine n_icmp_le (pc := 19) (tgt := 29) C (by omega) (by omega) dX5_setWidths_19 (by decide) (fun c19 => ?_) (fun c19 => absurd c19 (by omega))
    refine r_aload_n (pc := 29) C dX5_setWidths_29 rfl rfl ?_
    refine r_getIe (pc := 30) C fl_X5_64 E.L.o rfl (show _ = nI (tN t 0 0) from E.S) dX5_setWidths_30 ?_
    refine r_iconst (pc := 33) (v := (nI 3)) C dX5_setWidths_33 (by decide) ?_
    refine n_icmp_le (pc := 34) (tgt := 45) C (by omega) (by omega) dX5_setWidths_34 (by decide) (fun c34 => ?_) (fun c34 => absurd c34 (by omega))
    exact r_vret (pc := 45) C rfl (Nat.le_of_ble_eq_true rfl) (Nat.le_of_ble_eq_true rfl) ⟨rfl, ⟨by rw [e0]; exact E, ff⟩⟩ dX5_setWidths_45
  · have w2 : p2 = nI (w 2) := hp 2 (by omega)
    subst w2
    by_cases h3 : tN t 0 0 = 3
    · have e0 : spWs t w = uN (uN (uN t 1 0 (w 0)) 1 1 (w 1)) 1 2 (w 2) := by
        unfold spWs
        rw [show uN (uN (uN t 1 0 (w 0)) 1 1 (w 1)) 1 2 (w 2) = uNs t 1 (va_up (va_up (va_up (tN t 1) 0 (w 0)) 1 (w 1)) 2 (w 2)) by unfold uN; rw [tN_uNs_s, uNs_same, tN_uNs_s, uNs_same]]
        congr 1
        funext i
        unfold va_up
        rcases (show i = 0 ∨ i = 1 ∨ i = 2 ∨ 3 ≤ i by omega) with z | z | z | z
        · subst z; simp [h3]
        · subst z; simp [h3]
        · subst z; simp [h3]
        · rw [if_neg (by omega), if_neg (by omega), if_neg (by omega), if_neg (by omega)]
      refine r_aload_n (pc := 0) C dX5_setWidths_0 rfl rfl ?_
      refine r_getR (pc := 1) C fl_X5_9 E.L.o rfl E.L.r1 dX5_setWidths_1 ?_
      refine r_iconst (pc := 4) (v := (nI 0)) C dX5_setWidths_4 (by decide) ?_
      refine r_iload_n (pc := 5) C dX5_setWidths_5 rfl rfl ?_
      refine n_iast (pc := 6) C E.L.s1 (by omega) dX5_setWidths_6 ?_
      have E := E.p_P 0 (w 0)
      have ff := ff.pI (a := x + 1) (k := 0) (v := nI (w 0)) px
      refine r_aload_n (pc := 7) C dX5_setWidths_7 rfl rfl ?_
      refine r_getR (pc := 8) C fl_X5_9 E.L.o rfl E.L.r1 dX5_setWidths_8 ?_
      refine r_iconst (pc := 11) (v := (nI 1)) C dX5_setWidths_11 (by decide) ?_
      refine r_iload_n (pc := 12) C dX5_setWidths_12 rfl rfl ?_
      refine n_iast (pc := 13) C E.L.s1 (by omega) dX5_setWidths_13 ?_
      have E := E.p_P 1 (w 1)
      have ff := ff.pI (a := x + 1) (k := 1) (v := nI (w 1)) px
      refine r_aload_n (pc := 14) C dX5_setWidths_14 rfl rfl ?_
      refine r_getIe (pc := 15) C fl_X5_64 E.L.o rfl (show _ = nI (tN t 0 0) from E.S) dX5_setWidths_15 ?_
      refine r_iconst (pc := 18) (v := (nI 2)) C dX5_setWidths_18 (by decide) ?_
      refine n_icmp_le (pc := 19) (tgt := 29) C (by omega) (by omega) dX5_setWidths_19 (by decide) (fun c19 => absurd c19 (by omega)) (fun c19 => ?_)
      refine r_aload_n (pc := 22) C dX5_setWidths_22 rfl rfl ?_
      refine r_getR (pc := 23) C fl_X5_9 E.L.o rfl E.L.r1 dX5_setWidths_23 ?_
      refine r_iconst (pc := 26) (v := (nI 2)) C dX5_setWidths_26 (by decide) ?_
      refine r_iload_n (pc := 27) C dX5_setWidths_27 rfl rfl ?_
      refine n_iast (pc := 28) C E.L.s1 (by omega) dX5_setWidths_28 ?_
      have E := E.p_P 2 (w 2)
      have ff := ff.pI (a := x + 1) (k := 2) (v := nI (w 2)) px
      refine r_aload_n (pc := 29) C dX5_setWidths_29 rfl rfl ?_
      refine r_getIe (pc := 30) C fl_X5_64 E.L.o rfl (show _ = nI (tN t 0 0) from E.S) dX5_setWidths_30 ?_
      refine r_iconst (pc := 33) (v := (nI 3)) C dX5_setWidths_33 (by decide) ?_
      refine n_icmp_le (pc := 34) (tgt := 45) C (by omega) (by omega) dX5_setWidths_34 (by decide) (fun c34 => ?_) (fun c34 => absurd c34 (by omega))
      exact r_vret (pc := 45) C rfl (Nat.le_of_ble_eq_true rfl) (Nat.le_of_ble_eq_true rfl) ⟨rfl, ⟨by rw [e0]; exact E, ff⟩⟩ dX5_setWidths_45
    · have w3 : p3 = nI (w 3) := hp 3 (by omega)
      subst w3
      have h4 : tN t 0 0 = 4 := by omega
      have e0 : spWs t w = uN (uN (uN (uN t 1 0 (w 0)) 1 1 (w 1)) 1 2 (w 2)) 1 3 (w 3) := by
        unfold spWs
        rw [show uN (uN (uN (uN t 1 0 (w 0)) 1 1 (w 1)) 1 2 (w 2)) 1 3 (w 3) = uNs t 1 (va_up (va_up (va_up (va_up (tN t 1) 0 (w 0)) 1 (w 1)) 2 (w 2)) 3 (w 3)) by unfold uN; rw [tN_uNs_s, uNs_same, tN_uNs_s, uNs_same, tN_uNs_s, uNs_same]]
        congr 1
        funext i
        unfold va_up
        rcases (show i = 0 ∨ i = 1 ∨ i = 2 ∨ i = 3 ∨ 4 ≤ i by omega) with z | z | z | z | z
        · subst z; simp [h4]
        · subst z; simp [h4]
        · subst z; simp [h4]
        · subst z; simp [h4]
        · rw [if_neg (by omega), if_neg (by omega), if_neg (by omega), if_neg (by omega), if_neg (by omega)]
      refine r_aload_n (pc := 0) C dX5_setWidths_0 rfl rfl ?_
      refine r_getR (pc := 1) C fl_X5_9 E.L.o rfl E.L.r1 dX5_setWidths_1 ?_
      refine r_iconst (pc := 4) (v := (nI 0)) C dX5_setWidths_4 (by decide) ?_
      refine r_iload_n (pc := 5) C dX5_setWidths_5 rfl rfl ?_
      refine n_iast (pc := 6) C E.L.s1 (by omega) dX5_setWidths_6 ?_
      have E := E.p_P 0 (w 0)
      have ff := ff.pI (a := x + 1) (k := 0) (v := nI (w 0)) px
      refine r_aload_n (pc := 7) C dX5_setWidths_7 rfl rfl ?_
      refine r_getR (pc := 8) C fl_X5_9 E.L.o rfl E.L.r1 dX5_setWidths_8 ?_
      refine r_iconst (pc := 11) (v := (nI 1)) C dX5_setWidths_11 (by decide) ?_
      refine r_iload_n (pc := 12) C dX5_setWidths_12 rfl rfl ?_
      refine n_iast (pc := 13) C E.L.s1 (by omega) dX5_setWidths_13 ?_
      have E := E.p_P 1 (w 1)
      have ff := ff.pI (a := x + 1) (k := 1) (v := nI (w 1)) px
      refine r_aload_n (pc := 14) C dX5_setWidths_14 rfl rfl ?_
      refine r_getIe (pc := 15) C fl_X5_64 E.L.o rfl (show _ = nI (tN t 0 0) from E.S) dX5_setWidths_15 ?_
      refine r_iconst (pc := 18) (v := (nI 2)) C dX5_setWidths_18 (by decide) ?_
      refine n_icmp_le (pc := 19) (tgt := 29) C (by omega) (by omega) dX5_setWidths_19 (by decide) (fun c19 => absurd c19 (by omega)) (fun c19 => ?_)
      refine r_aload_n (pc := 22) C dX5_setWidths_22 rfl rfl ?_
      refine r_getR (pc := 23) C fl_X5_9 E.L.o rfl E.L.r1 dX5_setWidths_23 ?_
      refine r_iconst (pc := 26) (v := (nI 2)) C dX5_setWidths_26 (by decide) ?_
      refine r_iload_n (pc := 27) C dX5_setWidths_27 rfl rfl ?_
      refine n_iast (pc := 28) C E.L.s1 (by omega) dX5_setWidths_28 ?_
      have E := E.p_P 2 (w 2)
      have ff := ff.pI (a := x + 1) (k := 2) (v := nI (w 2)) px
      refine r_aload_n (pc := 29) C dX5_setWidths_29 rfl rfl ?_
      refine r_getIe (pc := 30) C fl_X5_64 E.L.o rfl (show _ = nI (tN t 0 0) from E.S) dX5_setWidths_30 ?_
      refine r_iconst (pc := 33) (v := (nI 3)) C dX5_setWidths_33 (by decide) ?_
      refine n_icmp_le (pc := 34) (tgt := 45) C (by omega) (by omega) dX5_setWidths_34 (by decide) (fun c34 => absurd c34 (by omega)) (fun c34 => ?_)
      refine r_aload_n (pc := 37) C dX5_setWidths_37 rfl rfl ?_
      refine r_getR (pc := 38) C fl_X5_9 E.L.o rfl E.L.r1 dX5_setWidths_38 ?_
      refine r_iconst (pc := 41) (v := (nI 3)) C dX5_setWidths_41 (by decide) ?_
      refine r_iload (pc := 42) C dX5_setWidths_42 rfl ?_
      refine n_iast (pc := 44) C E.L.s1 (by omega) dX5_setWidths_44 ?_
      have E := E.p_P 3 (w 3)
      have ff := ff.pI (a := x + 1) (k := 3) (v := nI (w 3)) px
      exact r_vret (pc := 45) C rfl (Nat.le_of_ble_eq_true rfl) (Nat.le_of_ble_eq_true rfl) ⟨rfl, ⟨by rw [e0]; exact E, ff⟩⟩ dX5_setWidths_45
end CR74
