/-! ===== invariants: the turns ===== -/
theorem fstU_first {t : TS} {q : Nat} : ∀ n r0 x, r0 ≤ x → x < fstU t q n r0 → ¬ (tN t 2 x % tN t 1 0 = q ∧ ¬ isRd t x)
  | 0, r0, x, h1, h2 => by unfold fstU at h2; omega
  | n + 1, r0, x, h1, h2 => by
    unfold fstU at h2
    by_cases h : tN t 2 r0 % tN t 1 0 = q ∧ ¬ isRd t r0
    · rw [cif_t h] at h2; omega
    · rw [cif_f h] at h2
      by_cases e : x = r0
      · subst e; exact h
      · exact fstU_first n (r0 + 1) x (by omega) h2
theorem fstU_ok {t : TS} {q : Nat} : ∀ n r0, fstU t q n r0 ≠ r0 + n → fstU t q n r0 < r0 + n ∧ tN t 2 (fstU t q n r0) % tN t 1 0 = q ∧ ¬ isRd t (fstU t q n r0)
  | 0, r0, h => absurd rfl h
  | n + 1, r0, h => by
    unfold fstU at h ⊢
    by_cases h1 : tN t 2 r0 % tN t 1 0 = q ∧ ¬ isRd t r0
    · rw [cif_t h1]; exact ⟨by omega, h1⟩
    · rw [cif_f h1] at h ⊢
      have := fstU_ok n (r0 + 1) (fun z => h (by rw [z]; omega))
      exact ⟨by omega, this.2⟩
theorem IV.source {t : TS} {q : Nat} (V : IV t) (hq : q < tN t 1 0) : IV (spSource t q).2 := by
  have B := V.1.1
  have I := V.1.2.1
  have b := B.S
  unfold spSource
  generalize hrd : fstU t q (tN t 0 3) 0 = r
  by_cases h1 : r = tN t 0 3
  · rw [if_pos h1]; exact V
  · rw [if_neg h1]
    by_cases h2 : tN t 0 1 ≤ (tC t (4 * q + tN t 2 r % tN t 1 1)).length
    · rw [if_pos h2]; exact V
    · rw [if_neg h2]
      have ok := fstU_ok (t := t) (q := q) (tN t 0 3) 0 (by rw [hrd]; omega)
      rw [hrd, Nat.zero_add] at ok
      obtain ⟨hr, hkq, hnr⟩ := ok
      have hk15 := B.key r
      have hcnt : cnt t (tN t 2 r) r = tN t 3 (tN t 2 r) := by
        have hge : tN t 3 (tN t 2 r) ≤ cnt t (tN t 2 r) r := Nat.le_of_not_lt hnr
        rcases Nat.lt_or_ge (tN t 3 (tN t 2 r)) (cnt t (tN t 2 r) r) with z | z
        · obtain ⟨x, hx, hxk, hxc⟩ := cnt_ex r z
          refine absurd ?_ (fstU_first (t := t) (q := q) (tN t 0 3) 0 x (Nat.zero_le _) (by rw [hrd]; exact hx))
          refine ⟨by rw [hxk]; exact hkq, fun y => ?_⟩
          unfold isRd at y
          rw [hxk] at y; omega
        · omega
      have hh : 4 * q + tN t 2 r % tN t 1 1 = home t 0 (tN t 2 r) := by unfold home; rw [hkq, Nat.mul_zero, Nat.zero_add, Nat.zero_add]
      rw [hh] at h2 ⊢
      show IV (spPut (spTake t 0 r) (home t 0 (tN t 2 r)) r)
      generalize hZ : spPut (spTake t 0 r) (home t 0 (tN t 2 r)) r = Z
      have ek : ∀ k, k ≠ 3 → tN Z k = tN t k := fun k hk => by rw [← hZ]; exact tN_uN_n hk
      have e3 : tN Z 3 = va_up (tN t 3) (16 * 0 + tN t 2 r) (tN t 3 (16 * 0 + tN t 2 r) + 1) := by rw [← hZ]; show tN (spTake t 0 r) 3 = _; unfold spTake; rw [tN_uL, tN_uN_f]
      have eL1 : tL Z 1 = va_up (tL t 1) (16 * 0 + tN t 2 r) (tL t 1 (16 * 0 + tN t 2 r) + tL t 0 r) := by rw [← hZ]; show tL (spTake t 0 r) 1 = _; unfold spTake; rw [tL_uL_f]; rfl
      have eLn : ∀ k, k ≠ 1 → tL Z k = tL t k := fun k hk => by rw [← hZ]; exact tL_uL_n hk
      have eK : tK Z = tK t := by rw [← hZ]; rfl
      have eC : ∀ d, tC Z d = if d = home t 0 (tN t 2 r) then tC t (home t 0 (tN t 2 r)) ++ [r] else tC t d := fun d => by rw [← hZ]; rfl
      obtain ⟨I', _⟩ := I.move (t' := Z) (s := 0) B (by omega) rfl hr (fun z => absurd z (by decide)) (fun _ => hcnt) (ek 0 (by decide)) (ek 1 (by decide)) (ek 2 (by decide)) e3 (eLn 0 (by decide)) eL1 (fun d => by
        have e1 : (if 1 ≤ 0 ∧ d = home t (0 - 1) (tN t 2 r) then (tC t d).tail else tC t d) = tC t d := if_neg (fun z => absurd z.1 (by decide))
        rw [e1, eC]
        by_cases h : d = home t 0 (tN t 2 r)
        · have e2 : (if 0 + 1 < tN t 0 0 ∧ d = home t 0 (tN t 2 r) then [r] else []) = [r] := if_pos ⟨by omega, h⟩
          rw [if_pos h, e2, h]
        · have e2 : (if 0 + 1 < tN t 0 0 ∧ d = home t 0 (tN t 2 r) then [r] else []) = [] := if_neg (fun z => h z.2)
          rw [if_neg h, e2, List.append_nil])
      have B' : TB Z := by
        rw [← hZ]
        refine (B.take (s := 0) (r := r) ?_).put (by show (tC t _).length < 200; have := B.cap; omega) ?_
        · rw [show 16 * 0 + tN t 2 r = tN t 2 r by omega, ← hcnt]
          have := cnt_n (t := t) (k := tN t 2 r) r
          have := B.fed
          omega
        · show r < tN (spTake t 0 r) 0 3
          unfold spTake
          rw [tN_uL, tN_uN_n (by decide)]; exact hr
      have X' : IX Z := V.1.ix.cgr B' I' (ek 0 (by decide)) (ek 2 (by decide)) (ek 9 (by decide)) (ek 10 (by decide)) (ek 11 (by decide)) (ek 12 (by decide)) eK (eLn 0 (by decide)) (eLn 2 (by decide))
      refine ⟨⟨B', I', ⟨?_, ?_, ?_, X'.2.2.1, X'.2.2.2.1⟩, fun j hu => ?_, X'.2.2.2.2⟩, V.2.cgr (by rw [ek 0 (by decide)]) (ek 1 (by decide)) (ek 5 (by decide)) (ek 6 (by decide)) (ek 7 (by decide))⟩
      · rw [ek 0 (by decide), ek 4 (by decide), ek 5 (by decide)]; exact V.1.2.2.1.1
      · rw [ek 0 (by decide), ek 6 (by decide), ek 7 (by decide)]; exact V.1.2.2.1.2.1
      · rw [ek 0 (by decide), ek 4 (by decide), ek 5 (by decide), ek 6 (by decide), ek 7 (by decide)]; exact V.1.2.2.1.2.2.1
      · rw [ek 0 (by decide)] at hu
        refine (V.1.2.2.2.1 j hu).src (k := tN t 2 r) (r := r) B (by omega) (ek 0 (by decide)) (ek 1 (by decide)) (ek 2 (by decide)) (by rw [e3, show 16 * 0 + tN t 2 r = tN t 2 r by omega]) (ek 4 (by decide)) (ek 5 (by decide)) (ek 6 (by decide)) (ek 10 (by decide)) (ek 11 (by decide)) (eLn 0 (by decide)) (eLn 2 (by decide)) (fun d => ?_) (by rw [eK])
        rw [eC]
        split
        · next h => right; rw [h]
        · left; rfl
theorem IV.from {t t' : TS} {s q f : Nat} (V : IV t) (hs1 : 1 ≤ s) (hs : s < tN t 0 0) (hq : q < tN t 1 s) (hf : f < tN t 1 (s - 1)) (hnb : tN t 4 (16 * (s - 1) + 4 * f + q) ≠ 1) (h : spTakeFrom t s q f = some t') : IV t' := by
  have B := V.1.1
  have b := B.S
  have bf := B.P (s := s - 1) (by omega)
  unfold spTakeFrom at h
  generalize hc : 16 * (s - 1) + 4 * f + q = c at h hnb
  by_cases h1 : tC t c = [] ∨ shut t s q c
  · rw [cif_t h1] at h; simp at h
  · rw [cif_f h1] at h
    by_cases h2 : s + 1 < tN t 0 0 ∧ tN t 0 1 ≤ (tC t (outC t s q ((tC t c).headD 0))).length
    · rw [cif_t h2] at h; simp at h
    · rw [cif_f h2, tf_mv, Option.some.injEq] at h
      rw [← h]
      cases hl : tC t c with
      | nil => exact absurd (Or.inl hl) h1
      | cons r l =>
        rw [hl] at h2
        show IV (spKept (spMv t s q c r _) s q c r)
        have hm := Nat.mod_lt (f + 1) (show tN t 1 (s - 1) > 0 by omega)
        exact V.take hs1 hs hq hf hc.symm hl (fun z => h1 (Or.inr z)) hnb (fun z => Nat.lt_of_not_le (fun y => h2 ⟨z, y⟩)) (by omega)
theorem IV.rows {t : TS} {s q a : Nat} (V : IV t) (hs1 : 1 ≤ s) (hs : s < tN t 0 0) (hq : q < tN t 1 s) (hnb : ∀ f, f < tN t 1 (s - 1) → tN t 4 (16 * (s - 1) + 4 * f + q) ≠ 1) : ∀ n i, IV (spRows t s q a n i).2
  | 0, i => V
  | n + 1, i => by
    have B := V.1.1
    have b := B.S
    have bf := B.P (s := s - 1) (by omega)
    have hm := Nat.mod_lt (a + i) (show tN t 1 (s - 1) > 0 by omega)
    unfold spRows
    cases h : spTakeFrom t s q ((a + i) % tN t 1 (s - 1)) with
    | none => exact IV.rows V hs1 hs hq hnb n (i + 1)
    | some t' => exact V.from hs1 hs hq hm (hnb _ hm) h
theorem fstB_no {t : TS} {s q : Nat} : ∀ n f, fstB t s q n f = none → ∀ x, f ≤ x → x < f + n → tN t 4 (16 * (s - 1) + 4 * x + q) ≠ 1
  | 0, f, _, x, h1, h2 => by omega
  | n + 1, f, h, x, h1, h2 => by
    unfold fstB at h
    split at h
    · simp at h
    · next hne =>
      by_cases e : x = f
      · subst e; exact hne
      · exact fstB_no n (f + 1) h x (by omega) (by omega)
theorem fstB_yes {t : TS} {s q y : Nat} : ∀ n f, fstB t s q n f = some y → f ≤ y ∧ y < f + n ∧ tN t 4 (16 * (s - 1) + 4 * y + q) = 1
  | 0, f, h => by simp [fstB] at h
  | n + 1, f, h => by
    unfold fstB at h
    split at h
    · next he =>
      have : f = y := by simpa using h
      subst this; exact ⟨by omega, by omega, he⟩
    · have := fstB_yes n (f + 1) h
      exact ⟨by omega, by omega, this.2.2⟩
theorem IV.turn {t : TS} {s q : Nat} (V : IV t) (hs : s < tN t 0 0) (hq : q < tN t 1 s) : IV (spTurn t s q).2 := by
  unfold spTurn
  have V1 := V.ui (j := 0) (i := 1) (v := tI t 0 1 + 1)
  have e1 : tN (uI t 0 1 (tI t 0 1 + 1)) = tN t := rfl
  by_cases h0 : s = 0
  · rw [if_pos h0]
    subst h0
    exact V1.source hq
  · rw [if_neg h0]
    rw [← e1] at hs hq
    generalize uI t 0 1 (tI t 0 1 + 1) = t1 at V1 hs hq
    unfold spTurn1
    cases h : fstB t1 s q (tN t1 1 (s - 1)) 0 with
    | some f =>
      obtain ⟨_, hf, h4⟩ := fstB_yes _ _ h
      have hu := (V1.1.2.2.1.1 _ (by rw [h4]; decide : tN t1 4 (16 * (s - 1) + 4 * f + q) ≠ 0)).2
      exact V1.came (j := tN t1 0 5 - 1) (by omega) (by omega) hs hq (by omega) rfl h4
    | none =>
      have hnb := fstB_no _ _ h
      by_cases hw : tN t1 7 (4 * s + q) ≠ 0 ∧ tI t1 0 0 ≠ -1 ∧ ¬ tI t1 0 1 - tI t1 1 (4 * s + q) < tI t1 0 0
      · show IV (Prod.snd (α := Nat) (β := TS) (cif _ _ _))
        rw [cif_t hw]
        have h7 := V1.1.2.2.1.2.1 _ hw.1
        exact (IV.part (j := tN t1 0 5 - 1) V1.1 (V1.2.wk (fun _ _ z => z.elim)) (by have := h7.2; omega) hs hq h7.1 (by decide)).settle
      · show IV (Prod.snd (α := Nat) (β := TS) (cif _ _ _))
        rw [cif_f hw]
        exact V1.rows (by omega) hs hq (fun f hf => hnb f (Nat.zero_le _) (by omega)) _ _
/-- a mark begins -/
theorem IV.mk0 {t : TS} (V : IV t) (hu : tN t 0 5 = 0) (hM : tN t 0 4 < 8) : IV (spMk0 t) := by
  have B := V.1.1
  have I := V.1.2.1
  have b := B.S
  obtain ⟨a1, a2, a3, a4, a5⟩ := V.1.2.2.1
  have e0 : ∀ i, tN (spMk0 t) 0 i = if i = 5 then tN t 0 4 + 1 else if i = 4 then tN t 0 4 + 1 else tN t 0 i := fun i => by
    unfold spMk0
    rw [tN_uNs_n (by decide), tN_uI, tN_uN_n (by decide), tN_uN, tN_uN]
    by_cases h5 : i = 5
    · simp [h5]
    · by_cases h4 : i = 4 <;> simp [h4, h5]
  have ek : ∀ k, k ≠ 0 → k ≠ 9 → k ≠ 10 → tN (spMk0 t) k = tN t k := fun k h0 h9 h10 => by
    unfold spMk0
    rw [tN_uNs_n h10, tN_uI, tN_uN_n h9, tN_uN_n h0, tN_uN_n h0]
  have e9 : ∀ i, tN (spMk0 t) 9 i = if i = tN t 0 4 then 0 else tN t 9 i := fun i => by
    unfold spMk0
    rw [tN_uNs_n (by decide), tN_uI, tN_uN, tN_uN_n (show (9 : Nat) ≠ 0 by decide), tN_uN_n (show (9 : Nat) ≠ 0 by decide)]
    by_cases h : i = tN t 0 4 <;> simp [h]
  have e10 : tN (spMk0 t) 10 = thenU t (tN t 0 4) (tN t 0 0) := by unfold spMk0; rw [tN_uNs_s]
  have e00 : tN (spMk0 t) 0 0 = tN t 0 0 := e0 0
  have e03 : tN (spMk0 t) 0 3 = tN t 0 3 := e0 3
  have e04 : tN (spMk0 t) 0 4 = tN t 0 4 + 1 := e0 4
  have e05 : tN (spMk0 t) 0 5 = tN t 0 4 + 1 := e0 5
  have hz := a3 hu
  have z4 : ∀ i, tN (spMk0 t) 4 i = 0 := fun i => by rw [ek 4 (by decide) (by decide) (by decide)]; exact (hz i).1
  have z5 : ∀ i, tN (spMk0 t) 5 i = 0 := fun i => by rw [ek 5 (by decide) (by decide) (by decide)]; exact (hz i).2.1
  have z6 : ∀ i, tN (spMk0 t) 6 i = 0 := fun i => by rw [ek 6 (by decide) (by decide) (by decide)]; exact (hz i).2.2.1
  have z7 : ∀ i, tN (spMk0 t) 7 i = 0 := fun i => by rw [ek 7 (by decide) (by decide) (by decide)]; exact (hz i).2.2.2
  have I' : IC (spMk0 t) := I.cgr e00 e03 (ek 1 (by decide) (by decide) (by decide)) (ek 2 (by decide) (by decide) (by decide)) (ek 3 (by decide) (by decide) (by decide)) rfl rfl rfl
  have F := a5 (tN t 0 4) (Nat.le_refl _)
  refine ⟨⟨B.mk0 hM, I', ⟨fun c hc => absurd (z4 c) hc, fun i hi => absurd (z7 i) hi, fun z => by omega, fun j hj => ?_, fun j hj => ?_⟩, fun j hj => ?_, fun j hj h1 => ?_⟩, IQ.z z5 z7⟩
  · rw [e9, e05]
    rw [e04] at hj
    by_cases h : j = tN t 0 4
    · rw [if_pos h, h]; simp
    · rw [if_neg h, a4 j (by omega), hu]; omega
  · rw [e04] at hj
    rw [ek 11 (by decide) (by decide) (by decide), ek 12 (by decide) (by decide) (by decide)]
    exact a5 j (by omega)
  · rw [e05] at hj
    have ej : j = tN t 0 4 := by omega
    subst ej
    have eK : tK (spMk0 t) (tN t 0 4) = [] := F.1
    refine ⟨fun s hs => ?_, fun p hp => by rw [eK] at hp; simp at hp, fun g k hg hk => ?_, fun g k hg hk hb => by rw [z4] at hb; omega, fun s k hs hk h6 => absurd (z6 _) h6, fun s q d _ _ _ _ => ⟨z4 _, z5 _⟩⟩
    · rw [e00] at hs
      rw [e10, ek 1 (by decide) (by decide) (by decide)]
      unfold thenU
      rw [if_pos (by omega), Nat.add_sub_cancel_left]
    · rw [eK]
      unfold bH eH
      rw [z6, if_pos rfl, z4, z5, if_neg (by simp)]
      rfl
  · rw [e04] at hj
    rw [e9] at h1
    by_cases h : j = tN t 0 4
    · rw [if_pos h] at h1; omega
    · rw [if_neg h] at h1
      refine (V.1.2.2.2.2 j (by omega) h1).cgr e00 e03 b.2 (ek 2 (by decide) (by decide) (by decide)) (fun s hs => ?_) rfl (fun i hi => ⟨by rw [ek 11 (by decide) (by decide) (by decide)], rfl⟩) rfl
      rw [e10]
      unfold thenU
      rw [if_neg (by omega)]
theorem IV.mk {lo : Nat} (hlo : lo ≤ 1) : ∀ (n q : Nat) (t : TS), IV t → q + n = tN t 1 0 → (tN t 0 5 ≠ 0 → ∀ x, q ≤ x → x < tN t 1 0 → tN t 6 x = 0) → IV (spMk lo n q t)
  | 0, q, t, V, _, _ => V
  | n + 1, q, t, V, hn, h6 => by
    unfold spMk
    have B := V.1.1
    have b := B.S
    by_cases hu : tN t 0 5 = 0
    · rw [if_pos hu]; exact V
    · rw [if_neg hu]
      have s6 : tN t 6 (4 * 0 + q) = 0 := by rw [show 4 * 0 + q = q by omega]; exact h6 hu q (Nat.le_refl _) (by omega)
      have hu' : tN t 0 5 = (tN t 0 5 - 1) + 1 := by omega
      have P := IV.part V.1 (V.2.wk (fun _ _ z => z.elim)) (lo := lo) hu' (show 0 < tN t 0 0 by omega) (show q < tN t 1 0 by omega) s6 hlo
      have P2 := V.1.part (lo := lo) hu' (show 0 < tN t 0 0 by omega) (show q < tN t 1 0 by omega) s6 hlo
      have e1 : tN (spPart t 0 q lo) 1 = tN t 1 := Same.part.1
      refine IV.mk hlo n (q + 1) _ P (by rw [e1]; omega) (fun h5 x hx hx' => ?_)
      rw [e1] at hx'
      rcases P2.2 with z | ⟨_, _, z6, _⟩
      · exact absurd z h5
      · rw [z6, if_neg (by omega)]; exact h6 hu x (by omega) hx'
theorem IV.mark {t : TS} (V : IV t) : IV (spMark t).2 := by
  unfold spMark
  have B := V.1.1
  by_cases hu : tN t 0 5 = 0
  · rw [cif_t hu]
    by_cases hM : tN t 0 4 = 8
    · rw [cif_t hM]; exact V
    · rw [cif_f hM]
      have hM' : tN t 0 4 < 8 := by have := B.marks; omega
      have V0 := V.mk0 hu hM'
      have e1 : tN (spMk0 t) 1 = tN t 1 := by
        unfold spMk0
        rw [tN_uNs_n (by decide), tN_uI, tN_uN_n (by decide), tN_uN_n (by decide), tN_uN_n (by decide)]
      have e6 : tN (spMk0 t) 6 = tN t 6 := by
        unfold spMk0
        rw [tN_uNs_n (by decide), tN_uI, tN_uN_n (by decide), tN_uN_n (by decide), tN_uN_n (by decide)]
      refine IV.mk ?_ _ _ _ V0 (by rw [e1]; omega) (fun _ x _ _ => by rw [e6]; exact (V.1.2.2.1.2.2.1 hu x).2.2.1)
      by_cases h : tI t 0 0 = 0
      · rw [cif_t h]; decide
      · rw [cif_f h]; decide
  · rw [cif_f hu]; exact V
theorem IV.give {t : TS} (V : IV t) : IV (spGive t).2 := by
  unfold spGive
  by_cases hu : tN t 0 5 = 0
  · rw [cif_t hu]; exact V
  · rw [cif_f hu]
    obtain ⟨a, b⟩ := V.1.end (how := 3) (show tN t 0 5 = (tN t 0 5 - 1) + 1 by omega) (by decide) (by decide) (fun z => absurd z (by decide))
    exact ⟨a, b _⟩
theorem IV.jd : JD IV := ⟨fun t V => V.cg, fun t s q V hs hq => V.turn hs hq⟩
theorem IV.jc : JC IV := ⟨fun t V => V.tg, fun t s q V hs hq => V.turn hs hq⟩
