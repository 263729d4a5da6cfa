/-! ===== the class: a task of stage 0 reads ===== -/
section PU67
variable {t : TS}
theorem cnt_mono {k i : Nat} : ∀ n, cnt t k i ≤ cnt t k (i + n)
  | 0 => Nat.le_refl _
  | n + 1 => by have := cnt_mono (k := k) (i := i) n; show _ ≤ cnt t k (i + n) + _; omega
theorem cnt_leq {k i j : Nat} (h : i ≤ j) : cnt t k i ≤ cnt t k j := by
  have := cnt_mono (t := t) (k := k) (i := i) (j - i)
  rwa [show i + (j - i) = j by omega] at this
theorem cnt_lt {k i j : Nat} (hk : tN t 2 i = k) (h : i < j) : cnt t k i < cnt t k j := by
  have h1 : cnt t k (i + 1) = cnt t k i + 1 := by
    show cnt t k i + (if tN t 2 i = k then 1 else 0) = _
    rw [if_pos hk]
  have := cnt_leq (t := t) (k := k) (i := i + 1) (j := j) (by omega)
  omega
theorem cnt_i {k : Nat} : ∀ i, cnt t k i ≤ i
  | 0 => Nat.le_refl _
  | i + 1 => by have := cnt_i (k := k) i; unfold cnt; split <;> omega
theorem nxtR_none {k : Nat} : ∀ n r, nxtR t k n r = none → cnt t k (r + n) = cnt t k r
  | 0, r, _ => rfl
  | n + 1, r, h => by
    unfold nxtR at h
    split at h
    · cases h
    · rename_i hne
      have := nxtR_none n (r + 1) h
      rw [show r + (n + 1) = r + 1 + n by omega, this]
      show cnt t k r + (if tN t 2 r = k then 1 else 0) = _
      rw [if_neg hne, Nat.add_zero]
theorem nxtR_some {k q : Nat} : ∀ n r, nxtR t k n r = some q → cnt t k q = cnt t k r
  | 0, r, h => by cases h
  | n + 1, r, h => by
    unfold nxtR at h
    split at h
    · injection h with h; rw [h]
    · rename_i hne
      have := nxtR_some n (r + 1) h
      rw [this]
      show cnt t k r + (if tN t 2 r = k then 1 else 0) = _
      rw [if_neg hne, Nat.add_zero]
theorem fuN_spec {u : Nat → Nat} {w q : Nat} : ∀ n, (fuN u w q n = 0 → ∀ k, k < n → k % w = q → u k = 0) ∧ (fuN u w q n ≠ 0 → (∃ k, k < n ∧ k % w = q ∧ u k = fuN u w q n) ∧ ∀ k, k < n → k % w = q → u k ≠ 0 → fuN u w q n ≤ u k)
  | 0 => ⟨fun _ k hk => absurd hk (Nat.not_lt_zero k), fun h => absurd rfl h⟩
  | n + 1 => by
    obtain ⟨h1, h2⟩ := fuN_spec (u := u) (w := w) (q := q) n
    have e : fuN u w q (n + 1) = if u n ≠ 0 ∧ n % w = q ∧ (fuN u w q n = 0 ∨ u n < fuN u w q n) then u n else fuN u w q n := rfl
    by_cases hc : u n ≠ 0 ∧ n % w = q ∧ (fuN u w q n = 0 ∨ u n < fuN u w q n)
    · rw [if_pos hc] at e
      rw [e]
      refine ⟨fun z => absurd z hc.1, fun _ => ⟨⟨n, Nat.lt_succ_self n, hc.2.1, rfl⟩, fun k hk hkw hku => ?_⟩⟩
      rcases Nat.lt_or_ge k n with z | z
      · rcases hc.2.2 with y | y
        · exact absurd (h1 y k z hkw) hku
        · have := (h2 (by omega)).2 k z hkw hku; omega
      · rw [show k = n by omega]; exact Nat.le_refl _
    · rw [if_neg hc] at e
      rw [e]
      refine ⟨fun z k hk hkw => ?_, fun z => ⟨?_, fun k hk hkw hku => ?_⟩⟩
      · rcases Nat.lt_or_ge k n with y | y
        · exact h1 z k y hkw
        · rw [show k = n by omega] at hkw ⊢
          exact Decidable.byContradiction (fun v => hc ⟨v, hkw, Or.inl z⟩)
      · obtain ⟨k, g1, g2, g3⟩ := (h2 z).1
        exact ⟨k, by omega, g2, g3⟩
      · rcases Nat.lt_or_ge k n with y | y
        · exact (h2 z).2 k y hkw hku
        · rw [show k = n by omega] at hkw hku ⊢
          rcases Nat.lt_or_ge (u n) (fuN u w q n) with v | v
          · exact absurd ⟨hku, hkw, Or.inr v⟩ hc
          · exact v
theorem fstU_none {q : Nat} : ∀ n r, (∀ i, r ≤ i → i < r + n → ¬ (tN t 2 i % tN t 1 0 = q ∧ ¬ isRd t i)) → fstU t q n r = r + n
  | 0, r, _ => rfl
  | n + 1, r, h => by
    unfold fstU
    rw [cif_f (h r (Nat.le_refl _) (by omega)), fstU_none n (r + 1) (fun i h1 h2 => h i (by omega) (by omega))]
    omega
theorem fstU_at {q a : Nat} (ha : tN t 2 a % tN t 1 0 = q ∧ ¬ isRd t a) : ∀ n r, r ≤ a → a < r + n → (∀ i, r ≤ i → i < a → ¬ (tN t 2 i % tN t 1 0 = q ∧ ¬ isRd t i)) → fstU t q n r = a
  | 0, r, h1, h2, _ => by omega
  | n + 1, r, h1, h2, h => by
    unfold fstU
    by_cases hra : r = a
    · rw [hra, cif_t ha]
    · rw [cif_f (h r (Nat.le_refl _) (by omega))]
      exact fstU_at ha n (r + 1) (by omega) (by omega) (fun i h3 h4 => h i (by omega) h4)
/-- the first row that the class finds is the first of the reference -/
theorem fst_eq (B : TB t) {u : Nat → Nat} (hu : ∀ k, k < 16 → unrOK t k (u k)) {q : Nat} : (fuN u (tN t 1 0) q 16 = 0 → fstU t q (tN t 0 3) 0 = tN t 0 3) ∧ ∀ r, fuN u (tN t 1 0) q 16 = r + 1 → fstU t q (tN t 0 3) 0 = r ∧ r < tN t 0 3 ∧ tN t 2 r % tN t 1 0 = q ∧ cnt t (tN t 2 r) r = tN t 3 (tN t 2 r) ∧ u (tN t 2 r) = r + 1 := by
  obtain ⟨h1, h2⟩ := fuN_spec (u := u) (w := tN t 1 0) (q := q) 16
  constructor
  · intro h0
    have := fstU_none (t := t) (q := q) (tN t 0 3) 0 (fun i _ hi hc => ?_)
    · rw [this, Nat.zero_add]
    · have hk : tN t 2 i < 16 := by have := B.key i; omega
      have hz := (hu _ hk).1 (h1 h0 _ hk hc.1)
      have := cnt_lt (t := t) (k := tN t 2 i) (i := i) (j := tN t 0 3) rfl (by omega)
      exact hc.2 (by unfold isRd; omega)
  · intro r hr
    obtain ⟨⟨k, g1, g2, g3⟩, g4⟩ := h2 (by omega)
    rw [hr] at g3
    obtain ⟨k1, k2, k3⟩ := (hu k g1).2 r g3
    subst k2
    refine ⟨?_, k1, g2, k3, g3⟩
    refine fstU_at ⟨g2, by unfold isRd; omega⟩ _ 0 (Nat.zero_le _) (by omega) (fun i _ hi hc => ?_)
    have hk : tN t 2 i < 16 := by have := B.key i; omega
    have hnr : tN t 3 (tN t 2 i) ≤ cnt t (tN t 2 i) i := by have := hc.2; unfold isRd at this; omega
    have hlt := cnt_lt (t := t) (k := tN t 2 i) (i := i) (j := tN t 0 3) rfl (by omega)
    have hun : u (tN t 2 i) ≠ 0 := fun z => by have := (hu _ hk).1 z; omega
    obtain ⟨v, hv⟩ : ∃ v, u (tN t 2 i) = v + 1 := ⟨u (tN t 2 i) - 1, by omega⟩
    obtain ⟨m1, m2, m3⟩ := (hu _ hk).2 v hv
    have hmin := g4 _ hk hc.1 hun
    rw [hr, hv] at hmin
    have : cnt t (tN t 2 i) i < cnt t (tN t 2 i) v := cnt_lt rfl (by omega)
    omega
end PU67
def oN (o : Option Nat) : Nat := match o with
  | none => 0
  | some r => r + 1
theorem oI_oN {o : Option Nat} : oI o = nI (oN o) - 1 := by
  cases o with
  | none => decide
  | some r => exact (nI_pred r).symm
/-- the class may make a turn -/
def CG (t : TS) : Prop := TG t ∧ DJ t ∧ (∀ c r, r ∈ tC t c → ∃ g, g + 1 < tN t 0 0 ∧ c = home t g (tN t 2 r)) ∧ (∀ c, tN t 4 c ≠ 0 → tN t 5 c = 0) ∧ (∀ s q, 1 ≤ s → s < tN t 0 0 → q < tN t 1 s → tN t 7 (4 * s + q) ≠ 0 → ¬ allC t s q) ∧ (∀ c r, r ∈ tC t c → isRd t r) ∧ ∀ k, k < 16 → tN t 3 k ≤ cnt t k (tN t 0 3)
section CR67
variable {G : GP} {x m : Nat} {t : TS} {e : ES} {h : AH}
theorem c_X5_readTurn (E : RX x m t e h) (A : CG t) (H : Ext t e) {q : Nat} (hq : q < tN t 1 0) : MA G mX5_readTurn 4 0 0 [.ref x, .int (nI q)] h (Oi (fun v h' => v = nI (spSource t q).1 ∧ XT x m h (spSource t q).2 h')) := by
  obtain ⟨TGt, D, HM, -, -, RD, hM⟩ := A
  have B := TGt.1
  have b := E.L.b
  have bS := B.S
  have b0 := B.P (s := 0) (by decide)
  have b1 := B.P (s := 1) (by decide)
  have bf := B.fed
  have bc := B.cap
  obtain ⟨F1, F2⟩ := fst_eq B (u := xN e 0) H.1 (q := q)
  have fb := fuN_le (w := tN t 1 0) (q := q) H.2.1 16
  refine MA.intro (lv := [some (.ref x), some (.int (nI q)), none]) (by decide) (Nat.le_of_ble_eq_true rfl) rfl (fun F C => ?_)
  have W0 : wdI t (nI 0) = tN t 1 0 := wdI_n B (by omega)
  by_cases h0 : fuN (xN e 0) (tN t 1 0) q 16 = 0
  · have e0 : spSource t q = (0, t) := by unfold spSource; rw [if_pos (F1 h0)]
    rw [e0]
    refine r_aload_n (pc := 0) C dX5_readTurn_0 rfl rfl ?_
    refine r_getR (pc := 1) C fl_X5_16 E.L.o rfl E.L.r2 dX5_readTurn_1 ?_
    refine r_iload_n (pc := 4) C dX5_readTurn_4 rfl rfl ?_
    refine r_aload_n (pc := 5) C dX5_readTurn_5 rfl rfl ?_
    refine r_iconst (pc := 6) (v := (nI 0)) C dX5_readTurn_6 (by decide) ?_
    refine r_calli (cr_V (pc := 7) C (c_X5_widthOf E B _) dX5_readTurn_7 cm_X5_widthOf ml_X5_110 im_X5_widthOf se_X5_widthOf E.L.o rfl ⟨⟨Nat.le_of_ble_eq_true rfl, Nat.le_of_ble_eq_true rfl⟩, Nat.le_of_ble_eq_true rfl, Nat.le_of_ble_eq_true rfl⟩ rfl rfl (Nat.le_of_ble_eq_true rfl)) (fun v7 h7 hq7 => ?_)
    obtain ⟨rfl, rfl⟩ := hq7
    rw [W0]
    refine r_calli (cr_V (pc := 10) C (c_X1_firstUnread E.L.I E.k_unr H.2.1 b0 (by omega)) dX5_readTurn_10 cm_X1_firstUnread ml_X5_291 im_X1_firstUnread se_X1_firstUnread E.L.I.1 rfl ⟨⟨Nat.le_of_ble_eq_true rfl, Nat.le_of_ble_eq_true rfl⟩, Nat.le_of_ble_eq_true rfl, Nat.le_of_ble_eq_true rfl⟩ rfl rfl (Nat.le_of_ble_eq_true rfl)) (fun v10 h10 hq10 => ?_)
    obtain ⟨rfl, rfl⟩ := hq10
    rw [uw0 h0]
    refine r_istore_n (pc := 13) (lv' := [_, _, _]) C dX5_readTurn_13 rfl (by decide) rfl rfl ?_
    refine r_iload_n (pc := 14) C dX5_readTurn_14 rfl rfl ?_
    refine r_iconst (pc := 15) (v := (-1)) C dX5_readTurn_15 (by decide) ?_
    refine r_icmp_eq (pc := 16) (tgt := 28) C dX5_readTurn_16 (by decide) (fun c16 => ?_) (fun c16 => absurd c16 (fun z => z rfl))
    refine r_iconst (pc := 28) (v := (nI 0)) C dX5_readTurn_28 (by decide) ?_
    exact r_iret (pc := 29) C rfl (Nat.le_of_ble_eq_true rfl) (Nat.le_of_ble_eq_true rfl) ⟨_, rfl, ⟨rfl, ⟨e, E, H⟩, Fq.rf⟩⟩ dX5_readTurn_29
  · obtain ⟨r, hr⟩ : ∃ r, fuN (xN e 0) (tN t 1 0) q 16 = r + 1 := ⟨fuN (xN e 0) (tN t 1 0) q 16 - 1, by omega⟩
    obtain ⟨f1, f2, f3, f4, f5⟩ := F2 r hr
    have bk := B.key r
    have hh : home t 0 (tN t 2 r) = 4 * q + tN t 2 r % tN t 1 1 := by show 16 * 0 + 4 * (tN t 2 r % tN t 1 0) + tN t 2 r % tN t 1 1 = _; rw [f3]; omega
    by_cases hcap : tN t 0 1 ≤ (tC t (4 * q + tN t 2 r % tN t 1 1)).length
    · have e0 : spSource t q = (0, t) := by unfold spSource; rw [f1, if_neg (by omega), if_pos hcap]
      rw [e0]
      refine r_aload_n (pc := 0) C dX5_readTurn_0 rfl rfl ?_
      refine r_getR (pc := 1) C fl_X5_16 E.L.o rfl E.L.r2 dX5_readTurn_1 ?_
      refine r_iload_n (pc := 4) C dX5_readTurn_4 rfl rfl ?_
      refine r_aload_n (pc := 5) C dX5_readTurn_5 rfl rfl ?_
      refine r_iconst (pc := 6) (v := (nI 0)) C dX5_readTurn_6 (by decide) ?_
      refine r_calli (cr_V (pc := 7) C (c_X5_widthOf E B _) dX5_readTurn_7 cm_X5_widthOf ml_X5_110 im_X5_widthOf se_X5_widthOf E.L.o rfl ⟨⟨Nat.le_of_ble_eq_true rfl, Nat.le_of_ble_eq_true rfl⟩, Nat.le_of_ble_eq_true rfl, Nat.le_of_ble_eq_true rfl⟩ rfl rfl (Nat.le_of_ble_eq_true rfl)) (fun v7 h7 hq7 => ?_)
      obtain ⟨rfl, rfl⟩ := hq7
      rw [W0]
      refine r_calli (cr_V (pc := 10) C (c_X1_firstUnread E.L.I E.k_unr H.2.1 b0 (by omega)) dX5_readTurn_10 cm_X1_firstUnread ml_X5_291 im_X1_firstUnread se_X1_firstUnread E.L.I.1 rfl ⟨⟨Nat.le_of_ble_eq_true rfl, Nat.le_of_ble_eq_true rfl⟩, Nat.le_of_ble_eq_true rfl, Nat.le_of_ble_eq_true rfl⟩ rfl rfl (Nat.le_of_ble_eq_true rfl)) (fun v10 h10 hq10 => ?_)
      obtain ⟨rfl, rfl⟩ := hq10
      rw [uwS hr]
      refine r_istore_n (pc := 13) (lv' := [_, _, _]) C dX5_readTurn_13 rfl (by decide) rfl rfl ?_
      refine r_iload_n (pc := 14) C dX5_readTurn_14 rfl rfl ?_
      refine r_iconst (pc := 15) (v := (-1)) C dX5_readTurn_15 (by decide) ?_
      refine r_icmp_eq (pc := 16) (tgt := 28) C dX5_readTurn_16 (by decide) (fun c16 => absurd c16 (fun z => nI_m1 (by omega) z)) (fun c16 => ?_)
      refine r_aload_n (pc := 19) C dX5_readTurn_19 rfl rfl ?_
      refine r_iconst (pc := 20) (v := (nI 0)) C dX5_readTurn_20 (by decide) ?_
      refine r_iload_n (pc := 21) C dX5_readTurn_21 rfl rfl ?_
      refine r_calli (cr_V (pc := 22) C (c_X5_canGoOn E B (s := 0) (by omega) f2) dX5_readTurn_22 cm_X5_canGoOn ml_X5_294 im_X5_canGoOn se_X5_canGoOn E.L.o rfl ⟨⟨Nat.le_of_ble_eq_true rfl, Nat.le_of_ble_eq_true rfl⟩, Nat.le_of_ble_eq_true rfl, Nat.le_of_ble_eq_true rfl⟩ rfl rfl (Nat.le_of_ble_eq_true rfl)) (fun v22 h22 hq22 => ?_)
      obtain ⟨rfl, rfl⟩ := hq22
      refine b_if_ne (pc := 25) (tgt := 30) C dX5_readTurn_25 (by decide) (fun c25 => absurd c25 (fun z => by have := z (by omega); rw [hh] at this; omega)) (fun c25 => ?_)
      refine r_iconst (pc := 28) (v := (nI 0)) C dX5_readTurn_28 (by decide) ?_
      exact r_iret (pc := 29) C rfl (Nat.le_of_ble_eq_true rfl) (Nat.le_of_ble_eq_true rfl) ⟨_, rfl, ⟨rfl, ⟨e, E, H⟩, Fq.rf⟩⟩ dX5_readTurn_29
    · have e0 : spSource t q = (1, spPass t 0 r) := by
        unfold spSource spPass
        rw [f1, if_neg (by omega), if_neg hcap, if_pos (by omega), hh]
      have hfr : ∀ d, r ∉ tC t d := fun d hd => by have := RD d r hd; unfold isRd at this; omega
      have hlt : tN t 3 (16 * 0 + tN t 2 r) < 200 := by
        rw [Nat.mul_zero, Nat.zero_add, ← f4]
        have := cnt_i (t := t) (k := tN t 2 r) r
        omega
      have E1 : RX x m t (vN e 0 (tN t 2 r) (oN (nxtR t (tN t 2 r) (tN t 0 3 - (r + 1)) (r + 1)))) (pI h (x + 2 + 3) (tN t 2 r) (oI (nxtR t (tN t 2 r) (tN t 0 3 - (r + 1)) (r + 1)))) := E.p_unr _ _ oI_oN
      have c1 : cnt t (tN t 2 r) (r + 1) = tN t 3 (tN t 2 r) + 1 := by
        show cnt t (tN t 2 r) r + (if tN t 2 r = tN t 2 r then 1 else 0) = _
        rw [if_pos rfl, f4]
      have H1 : Ext (spPass t 0 r) (vN e 0 (tN t 2 r) (oN (nxtR t (tN t 2 r) (tN t 0 3 - (r + 1)) (r + 1)))) := by
        obtain ⟨a1, a2, a3, a4, a5, a6, a7, a8⟩ := H
        have es : spPass t 0 r = spPut (spTake t 0 r) (home t 0 (tN t 2 r)) r := if_pos (by omega)
        rw [es]
        refine ⟨fun k hk => ?_, fun k => ?_, a3, fun s' q' hs' hq' => ?_, fun j hj => ?_, a6, a7, a8⟩
        · have x0 : xN (vN e 0 (tN t 2 r) (oN (nxtR t (tN t 2 r) (tN t 0 3 - (r + 1)) (r + 1)))) 0 k = if k = tN t 2 r then oN (nxtR t (tN t 2 r) (tN t 0 3 - (r + 1)) (r + 1)) else xN e 0 k := by
            rw [xN_vN]
            by_cases hkr : k = tN t 2 r
            · rw [if_pos ⟨rfl, hkr⟩, if_pos hkr]
            · rw [if_neg (fun z => hkr z.2), if_neg hkr]
          rw [x0]
          have m3 : tN (spPut (spTake t 0 r) (home t 0 (tN t 2 r)) r) 3 k = if k = tN t 2 r then tN t 3 (tN t 2 r) + 1 else tN t 3 k := by
            show tN (uN t 3 (16 * 0 + tN t 2 r) (tN t 3 (16 * 0 + tN t 2 r) + 1)) 3 k = _
            rw [tN_uN, Nat.mul_zero, Nat.zero_add]
            by_cases hkr : k = tN t 2 r
            · rw [if_pos ⟨rfl, hkr⟩, if_pos hkr]
            · rw [if_neg (fun z => hkr z.2), if_neg hkr]
          unfold unrOK
          simp only [cnt_cg (t := t) (t' := spPut (spTake t 0 r) (home t 0 (tN t 2 r)) r) rfl]
          rw [m3]
          show (_ → cnt t k (tN t 0 3) ≤ _) ∧ (∀ r', _ → r' < tN t 0 3 ∧ tN t 2 r' = k ∧ _)
          by_cases hkr : k = tN t 2 r
          · rw [if_pos hkr, if_pos hkr, hkr]
            cases hn : nxtR t (tN t 2 r) (tN t 0 3 - (r + 1)) (r + 1) with
            | none =>
              refine ⟨fun _ => ?_, fun r' hr' => (by cases hr')⟩
              have := nxtR_none _ _ hn
              rw [show r + 1 + (tN t 0 3 - (r + 1)) = tN t 0 3 by omega] at this
              omega
            | some v =>
              refine ⟨fun z => absurd z (Nat.succ_ne_zero v), fun r' hr' => ?_⟩
              have hv : v + 1 = r' + 1 := hr'
              obtain rfl : v = r' := by omega
              have g := nxtR_lt _ _ hn
              exact ⟨by omega, g.2.2, by rw [nxtR_some _ _ hn, c1]⟩
          · rw [if_neg hkr, if_neg hkr]
            exact a1 k hk
        · rw [xN_vN]
          split
          · cases hn : nxtR t (tN t 2 r) (tN t 0 3 - (r + 1)) (r + 1) with
            | none => exact Nat.zero_le _
            | some v => have g := nxtR_lt _ _ hn; show v + 1 ≤ 200; omega
          · exact a2 k
        · rw [cmN_cg (t := t) (t' := spPut (spTake t 0 r) (home t 0 (tN t 2 r)) r) rfl]; exact a4 s' q' hs' hq'
        · rw [lsN_cg (t := t) (t' := spPut (spTake t 0 r) (home t 0 (tN t 2 r)) r) rfl]; exact a5 j hj
      rw [e0]
      refine r_aload_n (pc := 0) C dX5_readTurn_0 rfl rfl ?_
      refine r_getR (pc := 1) C fl_X5_16 E.L.o rfl E.L.r2 dX5_readTurn_1 ?_
      refine r_iload_n (pc := 4) C dX5_readTurn_4 rfl rfl ?_
      refine r_aload_n (pc := 5) C dX5_readTurn_5 rfl rfl ?_
      refine r_iconst (pc := 6) (v := (nI 0)) C dX5_readTurn_6 (by decide) ?_
      refine r_calli (cr_V (pc := 7) C (c_X5_widthOf E B _) dX5_readTurn_7 cm_X5_widthOf ml_X5_110 im_X5_widthOf se_X5_widthOf E.L.o rfl ⟨⟨Nat.le_of_ble_eq_true rfl, Nat.le_of_ble_eq_true rfl⟩, Nat.le_of_ble_eq_true rfl, Nat.le_of_ble_eq_true rfl⟩ rfl rfl (Nat.le_of_ble_eq_true rfl)) (fun v7 h7 hq7 => ?_)
      obtain ⟨rfl, rfl⟩ := hq7
      rw [W0]
      refine r_calli (cr_V (pc := 10) C (c_X1_firstUnread E.L.I E.k_unr H.2.1 b0 (by omega)) dX5_readTurn_10 cm_X1_firstUnread ml_X5_291 im_X1_firstUnread se_X1_firstUnread E.L.I.1 rfl ⟨⟨Nat.le_of_ble_eq_true rfl, Nat.le_of_ble_eq_true rfl⟩, Nat.le_of_ble_eq_true rfl, Nat.le_of_ble_eq_true rfl⟩ rfl rfl (Nat.le_of_ble_eq_true rfl)) (fun v10 h10 hq10 => ?_)
      obtain ⟨rfl, rfl⟩ := hq10
      rw [uwS hr]
      refine r_istore_n (pc := 13) (lv' := [_, _, _]) C dX5_readTurn_13 rfl (by decide) rfl rfl ?_
      refine r_iload_n (pc := 14) C dX5_readTurn_14 rfl rfl ?_
      refine r_iconst (pc := 15) (v := (-1)) C dX5_readTurn_15 (by decide) ?_
      refine r_icmp_eq (pc := 16) (tgt := 28) C dX5_readTurn_16 (by decide) (fun c16 => absurd c16 (fun z => nI_m1 (by omega) z)) (fun c16 => ?_)
      refine r_aload_n (pc := 19) C dX5_readTurn_19 rfl rfl ?_
      refine r_iconst (pc := 20) (v := (nI 0)) C dX5_readTurn_20 (by decide) ?_
      refine r_iload_n (pc := 21) C dX5_readTurn_21 rfl rfl ?_
      refine r_calli (cr_V (pc := 22) C (c_X5_canGoOn E B (s := 0) (by omega) f2) dX5_readTurn_22 cm_X5_canGoOn ml_X5_294 im_X5_canGoOn se_X5_canGoOn E.L.o rfl ⟨⟨Nat.le_of_ble_eq_true rfl, Nat.le_of_ble_eq_true rfl⟩, Nat.le_of_ble_eq_true rfl, Nat.le_of_ble_eq_true rfl⟩ rfl rfl (Nat.le_of_ble_eq_true rfl)) (fun v22 h22 hq22 => ?_)
      obtain ⟨rfl, rfl⟩ := hq22
      refine b_if_ne (pc := 25) (tgt := 30) C dX5_readTurn_25 (by decide) (fun c25 => ?_) (fun c25 => absurd c25 (fun z => z (fun _ => by rw [hh]; omega)))
      refine r_aload_n (pc := 30) C dX5_readTurn_30 rfl rfl ?_
      refine r_getR (pc := 31) C fl_X5_16 E.L.o rfl E.L.r2 dX5_readTurn_31 ?_
      refine r_iload_n (pc := 34) C dX5_readTurn_34 rfl rfl ?_
      refine r_callv (cr_V (pc := 35) C (c_X1_read E.L.I E.K1 bf B.key f2) dX5_readTurn_35 cm_X1_read ml_X5_298 im_X1_read se_X1_read E.L.I.1 rfl ⟨⟨Nat.le_of_ble_eq_true rfl, Nat.le_of_ble_eq_true rfl⟩, Nat.le_of_ble_eq_true rfl, Nat.le_of_ble_eq_true rfl⟩ rfl rfl (Nat.le_of_ble_eq_true rfl)) (fun h35 hq35 => ?_)
      subst hq35
      refine r_aload_n (pc := 38) C dX5_readTurn_38 rfl rfl ?_
      refine r_iconst (pc := 39) (v := (nI 0)) C dX5_readTurn_39 (by decide) ?_
      refine r_iload_n (pc := 40) C dX5_readTurn_40 rfl rfl ?_
      refine r_callv (cr_V (pc := 41) C (c_X5_passRow E1 B D (s := 0) (by omega) f2 hlt hfr) dX5_readTurn_41 cm_X5_passRow ml_X5_287 im_X5_passRow se_X5_passRow (show hS _ x = (0, 5) from E1.L.o) rfl ⟨⟨Nat.le_of_ble_eq_true rfl, Nat.le_of_ble_eq_true rfl⟩, Nat.le_of_ble_eq_true rfl, Nat.le_of_ble_eq_true rfl⟩ rfl rfl (Nat.le_of_ble_eq_true rfl)) (fun h41 hq41 => ?_)
      obtain ⟨E2, f6⟩ := hq41
      refine r_iconst (pc := 44) (v := (nI 1)) C dX5_readTurn_44 (by decide) ?_
      exact r_iret (pc := 45) C rfl (Nat.le_of_ble_eq_true rfl) (Nat.le_of_ble_eq_true rfl) ⟨_, rfl, ⟨rfl, ⟨_, E2, H1⟩, (Fq.rf.pI (Or.inl (by omega))).tr f6⟩⟩ dX5_readTurn_45
end CR67
