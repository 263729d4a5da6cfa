/-! ===== invariants: the other calls ===== -/
theorem IV.restore {t : TS} (V : IV t) {j : Nat} {w : Nat → Nat} (hj : j < tN t 0 4) (h9 : tN t 9 j = 1) (hw : ∀ i, i < tN t 0 0 → 1 ≤ w i ∧ w i ≤ 4) : IV (spRes t j w) := by
  obtain ⟨V1, hu⟩ := V.endIf
  have e : spEndIf t = t ∨ spEndIf t = spEnd t 2 ∧ tN t 0 5 ≠ 0 := by
    unfold spEndIf
    split
    · exact Or.inl rfl
    · exact Or.inr ⟨rfl, by assumption⟩
  have eK : tK (spEndIf t) = tK t := by
    rcases e with e | e
    · rw [e]
    · rw [e.1]; rfl
  have e4 : tN (spEndIf t) 0 4 = tN t 0 4 ∧ tN (spEndIf t) 0 0 = tN t 0 0 ∧ tN (spEndIf t) 9 j = tN t 9 j := by
    rcases e with e | ⟨e, hn⟩
    · rw [e]; exact ⟨rfl, rfl, rfl⟩
    · rw [e, en_0, en_0, en_9, if_neg (by decide), if_neg (by decide), if_neg]
      · exact ⟨rfl, rfl, rfl⟩
      · intro z
        have := (V.1.2.2.1.2.2.2.1 j hj).mpr (by omega)
        omega
  unfold spRes
  rw [← eK]
  exact V1.res hu (by rw [e4.1]; exact hj) (by rw [e4.2.2]; exact h9) (by rw [e4.2.1]; exact hw)
/-- one more INPUT row -/
def spFd (t : TS) (k : Nat) (v : Int64) : TS := uN (uL (uN t 2 (tN t 0 3) k) 0 (tN t 0 3) v) 0 3 (tN t 0 3 + 1)
section FD
variable {t : TS} {k : Nat} {v : Int64}
theorem fd_n {i : Nat} (h0 : i ≠ 0) (h2 : i ≠ 2) : tN (spFd t k v) i = tN t i := by unfold spFd; rw [tN_uN_n h0, tN_uL, tN_uN_n h2]
theorem fd_0 {i : Nat} (h : i ≠ 3) : tN (spFd t k v) 0 i = tN t 0 i := by unfold spFd; rw [tN_uN, if_neg (fun z => h z.2), tN_uL, tN_uN_n (by decide)]
theorem fd_3 : tN (spFd t k v) 0 3 = tN t 0 3 + 1 := by unfold spFd; rw [tN_uN, if_pos ⟨rfl, rfl⟩]
theorem fd_2 {i : Nat} : tN (spFd t k v) 2 i = if i = tN t 0 3 then k else tN t 2 i := by
  unfold spFd
  rw [tN_uN_n (by decide), tN_uL, tN_uN]
  by_cases h : i = tN t 0 3 <;> simp [h]
theorem fd_L0 {i : Nat} : tL (spFd t k v) 0 i = if i = tN t 0 3 then v else tL t 0 i := by
  unfold spFd
  rw [tL_uN, tL_uL, tL_uN]
  by_cases h : i = tN t 0 3 <;> simp [h]
theorem fd_Ln {i : Nat} (h : i ≠ 0) : tL (spFd t k v) i = tL t i := by unfold spFd; rw [tL_uN, tL_uL_n h]; rfl
theorem fd_cnt {x : Nat} : ∀ n, n ≤ tN t 0 3 → cnt (spFd t k v) x n = cnt t x n
  | 0, _ => rfl
  | n + 1, h => by unfold cnt; rw [fd_cnt n (by omega), fd_2, if_neg (show ¬ n = tN t 0 3 by omega)]
theorem fd_inpN {x M : Nat} : ∀ n, n ≤ tN t 0 3 → inpN (spFd t k v) x M n = inpN t x M n
  | 0, _ => rfl
  | n + 1, h => by unfold inpN; rw [fd_inpN n (by omega), fd_2, if_neg (show ¬ n = tN t 0 3 by omega)]
theorem fd_inpS {x M : Nat} : ∀ n, n ≤ tN t 0 3 → inpS (spFd t k v) x M n = inpS t x M n
  | 0, _ => rfl
  | n + 1, h => by unfold inpS; rw [fd_inpS n (by omega), fd_inpN n (by omega), fd_2, if_neg (show ¬ n = tN t 0 3 by omega), fd_L0, if_neg (show ¬ n = tN t 0 3 by omega)]
theorem fd_inp {x M : Nat} (h : M ≤ cnt t x (tN t 0 3)) : inpS (spFd t k v) x M (tN (spFd t k v) 0 3) = inpS t x M (tN t 0 3) := by
  rw [fd_3]
  show inpS (spFd t k v) x M (tN t 0 3) + _ = _
  rw [fd_inpS _ (Nat.le_refl _), fd_inpN _ (Nat.le_refl _), inpN_eq, if_neg (by omega), Int64.add_zero]
theorem fd_cnt1 {x : Nat} : cnt t x (tN t 0 3) ≤ cnt (spFd t k v) x (tN (spFd t k v) 0 3) := by
  rw [fd_3]
  show _ ≤ cnt (spFd t k v) x (tN t 0 3) + _
  rw [fd_cnt _ (Nat.le_refl _)]; omega
theorem fd_RLk {x : Nat} : ∀ {l : List Nat} {a b : Nat}, RLk t x a b l → RLk (spFd t k v) x a b l
  | [], a, b, h => h
  | r :: l, a, b, h => ⟨⟨by rw [fd_3]; have := h.1.1; omega, by rw [fd_2, if_neg (by have := h.1.1; omega)]; exact h.1.2.1, by rw [fd_cnt _ (by have := h.1.1; omega)]; exact h.1.2.2⟩, fd_RLk h.2⟩
theorem fd_fk {x : Nat} {l : List Nat} (h : ∀ r, r ∈ l → r < tN t 0 3) : fk (spFd t k v) x l = fk t x l := by
  unfold fk
  exact List.filter_congr (fun r hr => by rw [fd_2, if_neg (by have := h r hr; omega)])
theorem fd_kk {g x : Nat} {l : List (Nat × Nat)} (h : ∀ p, p ∈ l → p.2 < tN t 0 3) : kk (spFd t k v) g x l = kk t g x l := by
  unfold kk
  congr 1
  exact List.filter_congr (fun p hp => by rw [fd_2, if_neg (by have := h p hp; omega)])
theorem IV.fd (V : IV t) (hk : k < 16) (hf : tN t 0 3 < 200) : IV (spFd t k v) := by
  have B := V.1.1
  have I := V.1.2.1
  have b := B.S
  have e1 : tN (spFd t k v) 1 = tN t 1 := fd_n (by decide) (by decide)
  have e0 : tN (spFd t k v) 0 0 = tN t 0 0 := fd_0 (by decide)
  have e4 : tN (spFd t k v) 0 4 = tN t 0 4 := fd_0 (by decide)
  have e5 : tN (spFd t k v) 0 5 = tN t 0 5 := fd_0 (by decide)
  have n3 : tN (spFd t k v) 3 = tN t 3 := fd_n (by decide) (by decide)
  have eC : tC (spFd t k v) = tC t := rfl
  have eK : tK (spFd t k v) = tK t := rfl
  have hrow : ∀ c r, r ∈ tC t c → r < tN t 0 3 := fun c r hr => B.row hr
  have hkrow : ∀ j p, p ∈ tK t j → p.2 < tN t 0 3 := fun j p hp => (B.krow hp).2
  have eh : ∀ g x, home (spFd t k v) g x = home t g x := fun g x => home_cg e1
  have B' : TB (spFd t k v) := by
    obtain ⟨x1, x2, x3, x4, x5, x6, x7, x8, x9, x10, x11, x12, x13, x14, x15, x16, x17, x18, x19⟩ := B
    refine ⟨by rw [e0]; exact x1, by rw [e1]; exact x2, by rw [fd_0 (by decide)]; exact x3, by rw [fd_0 (by decide)]; exact x4, by rw [fd_3]; omega, by rw [e4]; exact x6, by rw [e4, e5]; exact x7, fun i => ?_, by rw [n3]; exact x9, by rw [fd_n (by decide) (by decide)]; exact x10, ?_, ?_, ?_, ?_, ?_, x16, x17, fun c r hr => ?_, fun j p hp => ?_⟩
    · rw [fd_2]; split
      · omega
      · exact x8 i
    · rw [fd_n (i := 5) (by decide) (by decide), fd_n (i := 6) (by decide) (by decide), fd_n (i := 7) (by decide) (by decide), fd_n (i := 12) (by decide) (by decide)]; exact x11
    · rw [fd_n (by decide) (by decide)]; exact x12
    · rw [fd_n (by decide) (by decide)]; exact x13
    · rw [fd_n (by decide) (by decide)]; exact x14
    · rw [fd_n (by decide) (by decide)]; exact x15
    · rw [fd_3]; have := x18 c r hr; omega
    · rw [fd_3]; have := x19 j p hp; exact ⟨this.1, by omega⟩
  have IC' : IC (spFd t k v) := by
    refine ⟨fun g x hg hx => ?_, fun c r hr => ?_, fun x hx => ?_, fun s x hs hx => ?_⟩
    · rw [e0] at hg
      rw [n3, eC, eh, fd_fk (hrow _)]
      exact fd_RLk (I.1 g x hg hx)
    · obtain ⟨g, hg, e⟩ := I.2.1 c r hr
      exact ⟨g, by rw [e0]; exact hg, by rw [eh, fd_2, if_neg (by have := hrow c r hr; omega)]; exact e⟩
    · rw [n3]; exact Nat.le_trans (I.2.2.1 x hx) fd_cnt1
    · rw [e0] at hs
      have h1 := I.2.2.1 x hx
      have h2 := I.many hx s hs
      rw [n3, fd_inp (by omega), fd_Ln (by decide)]; exact I.2.2.2 s x hs hx
  have n4 : tN (spFd t k v) 4 = tN t 4 := fd_n (by decide) (by decide)
  have n5 : tN (spFd t k v) 5 = tN t 5 := fd_n (by decide) (by decide)
  have n6 : tN (spFd t k v) 6 = tN t 6 := fd_n (by decide) (by decide)
  have n7 : tN (spFd t k v) 7 = tN t 7 := fd_n (by decide) (by decide)
  have n9 : tN (spFd t k v) 9 = tN t 9 := fd_n (by decide) (by decide)
  have n10 : tN (spFd t k v) 10 = tN t 10 := fd_n (by decide) (by decide)
  have n11 : tN (spFd t k v) 11 = tN t 11 := fd_n (by decide) (by decide)
  have n12 : tN (spFd t k v) 12 = tN t 12 := fd_n (by decide) (by decide)
  obtain ⟨a1, a2, a3, a4, a5⟩ := V.1.2.2.1
  refine ⟨⟨B', IC', ⟨by rw [n4, n5, e5]; exact a1, by rw [n6, n7, e5]; exact a2, by rw [n4, n5, n6, n7, e5]; exact a3, by rw [n9, e4, e5]; exact a4, by rw [e4, n11, n12, fd_Ln (by decide)]; exact a5⟩, fun j hu => ?_, fun j hj h1 => ?_⟩, V.2.cgr e0 e1 n5 n6 n7⟩
  · rw [e5] at hu
    obtain ⟨u1, u2, u3, u4, u5, u6⟩ := V.1.2.2.2.1 j hu
    refine ⟨by rw [e0, n10, e1]; exact u1, fun p hp => ?_, fun g x hg hx => ?_, fun g x hg hx hb => ?_, fun s x hs hx h6 => ?_, by rw [e0, e1, n4, n5, n6]; exact u6⟩
    · obtain ⟨g, hg, e⟩ := u2 p hp
      exact ⟨g, by rw [e0]; exact hg, by rw [eh, fd_2, if_neg (by have := hkrow j p hp; omega)]; exact e⟩
    · rw [e0] at hg
      have eb : bH (spFd t k v) j g x = bH t j g x := by unfold bH; rw [n6, e1, n3, n11]
      have ee : eH (spFd t k v) j g x = eH t j g x := by unfold eH; rw [eh, n4, n5, n3, n11]
      rw [eb, ee, eK, fd_kk (hkrow j)]
      exact fd_RLk (u3 g x hg hx)
    · rw [e0] at hg
      rw [eh, n4] at hb ⊢
      rw [n3, n11, eC, fd_fk (fun r hr => hrow _ r (List.mem_of_mem_take hr))]
      exact fd_RLk (u4 g x hg hx hb)
    · rw [e0] at hs
      rw [n6, e1] at h6
      have := u5 s x hs hx h6
      rw [n11, fd_inp this.2, fd_Ln (by decide)]
      exact ⟨this.1, Nat.le_trans this.2 fd_cnt1⟩
  · rw [e4] at hj
    rw [n9] at h1
    obtain ⟨w1, w2, w3, w4⟩ := V.1.2.2.2.2 j hj h1
    refine ⟨fun p hp => ?_, by rw [e0, n10]; exact w2, fun g x hg hx => ?_, fun s x hs hx => ?_⟩
    · obtain ⟨g, hg, e⟩ := w1 p hp
      exact ⟨g, by rw [e0]; exact hg, by rw [n10, fd_2, if_neg (by have := hkrow j p hp; omega)]; exact e⟩
    · rw [e0] at hg
      rw [n11, eK, fd_kk (hkrow j)]
      exact fd_RLk (w3 g x hg hx)
    · rw [e0] at hs
      have := w4 s x hs hx
      rw [n11, fd_inp this.2, fd_Ln (by decide)]
      exact ⟨this.1, Nat.le_trans this.2 fd_cnt1⟩
end FD
/-- a number among the scalars -/
theorem IV.u0 {t : TS} (V : IV t) {i v : Nat} (hi : i = 1 ∨ i = 2) (B' : TB (uN t 0 i v)) : IV (uN t 0 i v) := by
  have e : ∀ x, x ≠ 1 → x ≠ 2 → tN (uN t 0 i v) 0 x = tN t 0 x := fun x h1 h2 => by rw [tN_uN, if_neg (by omega)]
  have n : ∀ x, x ≠ 0 → tN (uN t 0 i v) x = tN t x := fun x h => tN_uN_n h
  obtain ⟨a1, a2, a3, a4, a5⟩ := V.1.2.2.1
  refine ⟨⟨B', V.1.2.1.cgr (e 0 (by decide) (by decide)) (e 3 (by decide) (by decide)) (n 1 (by decide)) (n 2 (by decide)) (n 3 (by decide)) rfl rfl rfl, ⟨?_, ?_, ?_, ?_, ?_⟩, fun j hu => ?_, fun j hj h1 => ?_⟩, V.2.cgr (e 0 (by decide) (by decide)) (n 1 (by decide)) (n 5 (by decide)) (n 6 (by decide)) (n 7 (by decide))⟩
  · rw [n 4 (by decide), n 5 (by decide), e 5 (by decide) (by decide)]; exact a1
  · rw [n 6 (by decide), n 7 (by decide), e 5 (by decide) (by decide)]; exact a2
  · rw [n 4 (by decide), n 5 (by decide), n 6 (by decide), n 7 (by decide), e 5 (by decide) (by decide)]; exact a3
  · rw [n 9 (by decide), e 4 (by decide) (by decide), e 5 (by decide) (by decide)]; exact a4
  · rw [n 11 (by decide), n 12 (by decide), e 4 (by decide) (by decide)]; exact a5
  · rw [e 5 (by decide) (by decide)] at hu
    exact (V.1.2.2.2.1 j hu).cgr (e 0 (by decide) (by decide)) (e 3 (by decide) (by decide)) (n 1 (by decide)) (n 2 (by decide)) (n 3 (by decide)) (n 4 (by decide)) (n 5 (by decide)) (n 6 (by decide)) (n 10 (by decide)) (n 11 (by decide)) rfl rfl rfl rfl
  · rw [e 4 (by decide) (by decide)] at hj
    rw [n 9 (by decide)] at h1
    exact (V.1.2.2.2.2 j hj h1).cgr (e 0 (by decide) (by decide)) (e 3 (by decide) (by decide)) V.1.1.S.2 (n 2 (by decide)) (fun s _ => by rw [n 10 (by decide)]) rfl (fun i _ => ⟨by rw [n 11 (by decide)], rfl⟩) rfl
/-- other widths, while nothing is on its way -/
theorem IV.wd {t : TS} (V : IV t) {s v : Nat} (h4 : tN t 0 4 = 0) (hC : ∀ c, tC t c = []) (hv : 1 ≤ v ∧ v ≤ 4) : IV (uN t 1 s v) := by
  have n : ∀ x, x ≠ 1 → tN (uN t 1 s v) x = tN t x := fun x h => tN_uN_n h
  have B := V.1.1
  have I := V.1.2.1
  obtain ⟨a1, a2, a3, a4, a5⟩ := V.1.2.2.1
  have h5 : tN t 0 5 = 0 := by have := B.uw; omega
  have n0 : tN (uN t 1 s v) 0 = tN t 0 := n 0 (by decide)
  have B' : TB (uN t 1 s v) := by
    obtain ⟨x1, x2, x3, x4, x5, x6, x7, x8, x9, x10, x11, x12, x13, x14, x15, x16, x17, x18, x19⟩ := B
    refine ⟨by rw [n0]; exact x1, fun i hi => ?_, by rw [n0]; exact x3, by rw [n0]; exact x4, by rw [n0]; exact x5, by rw [n0]; exact x6, by rw [n0]; exact x7, by rw [n 2 (by decide)]; exact x8, by rw [n 3 (by decide)]; exact x9, by rw [n 4 (by decide)]; exact x10, by rw [n 5 (by decide), n 6 (by decide), n 7 (by decide), n 12 (by decide)]; exact x11, by rw [n 8 (by decide)]; exact x12, by rw [n 9 (by decide)]; exact x13, by rw [n 10 (by decide)]; exact x14, by rw [n 11 (by decide)]; exact x15, x16, x17, by rw [n0]; exact x18, by rw [n0]; exact x19⟩
    rw [tN_uN]
    split
    · exact hv
    · exact x2 i hi
  have eC : tC (uN t 1 s v) = tC t := rfl
  refine ⟨⟨B', ⟨fun g k hg hk => ?_, fun c r hr => ?_, fun k hk => ?_, fun a k ha hk => ?_⟩, ⟨by rw [n 4 (by decide), n 5 (by decide), n0]; exact a1, by rw [n 6 (by decide), n 7 (by decide), n0]; exact a2, by rw [n 4 (by decide), n 5 (by decide), n 6 (by decide), n 7 (by decide), n0]; exact a3, by rw [n 9 (by decide), n0]; exact a4, by rw [n 11 (by decide), n 12 (by decide), n0]; exact a5⟩, fun j hu => by rw [n0, h5] at hu; omega, fun j hj => by rw [n0, h4] at hj; omega⟩, IQ.z (fun i => by rw [n 5 (by decide)]; exact (a3 h5 i).2.1) (fun i => by rw [n 7 (by decide)]; exact (a3 h5 i).2.2.2)⟩
  · rw [n0] at hg
    have R := I.1 g k hg hk
    rw [hC] at R
    rw [eC, hC, n 3 (by decide)]
    exact R
  · rw [eC, hC] at hr; simp at hr
  · rw [cnt_cg (n 2 (by decide)), n 3 (by decide), n0]; exact I.2.2.1 k hk
  · rw [n0] at ha
    rw [inpS_cg (n 2 (by decide)) rfl, n 3 (by decide), n0]; exact I.2.2.2 a k ha hk
theorem nI_s1 {u : Nat} : nI u + 1 = nI (u + 1) := by rw [← nI_add, nI_1]; exact (nI_add _ _).symm
/-- how many turns there were -/
def CU (t : TS) (u : Nat) : Prop := tI t 0 1 = nI u ∧ (u = 0 → tN t 0 4 = 0 → ∀ c, tC t c = [])
theorem kept_I {t : TS} {s q c r : Nat} : tI (spKept t s q c r) 0 = tI t 0 := by
  unfold spKept
  by_cases h : tN t 0 5 ≠ 0 ∧ tN t 6 (4 * s + q) ≠ 0 ∧ tN t 5 c = 0
  · rw [cif_t h]
    obtain ⟨h1, h2, h3, h4, h5, h6, h7, h8, h9, h10, h11, h12, h13, h14, h15, h16⟩ := Same.keep (t := uN t 12 (48 * (tN t 0 5 - 1) + c) 1) (c := c) (r := r)
    exact h12
  · rw [cif_f h]
theorem from_I {t t' : TS} {s q f : Nat} (h : spTakeFrom t s q f = some t') : tI t' 0 = tI t 0 := by
  unfold spTakeFrom at h
  generalize 16 * (s - 1) + 4 * f + q = c at h
  by_cases h1 : tC t c = [] ∨ shut t s q c
  · rw [cif_t h1] at h; simp at h
  · rw [cif_f h1] at h
    by_cases h2 : s + 1 < tN t 0 0 ∧ tN t 0 1 ≤ (tC t (outC t s q ((tC t c).headD 0))).length
    · rw [cif_t h2] at h; simp at h
    · rw [cif_f h2, tf_mv, Option.some.injEq] at h
      rw [← h, kept_I]
      unfold spMv
      split <;> rfl
theorem rows_I {t : TS} {s q a : Nat} : ∀ n i, tI (spRows t s q a n i).2 0 = tI t 0
  | 0, i => rfl
  | n + 1, i => by
    unfold spRows
    cases h : spTakeFrom t s q ((a + i) % tN t 1 (s - 1)) with
    | none => exact rows_I n (i + 1)
    | some t' => exact from_I h
theorem settle_I {t : TS} : tI (spSettle t) 0 = tI t 0 := by
  unfold spSettle
  by_cases h : tN t 0 5 ≠ 0 ∧ allW t
  · rw [cif_t h]; rfl
  · rw [cif_f h]
theorem part_I {t : TS} {s q lo : Nat} : tI (spPart t s q lo) 0 = tI t 0 := by
  obtain ⟨h1, h2, h3, h4, h5, h6, h7, h8, h9, h10, h11, h12, h13, h14, h15, h16⟩ := Same.part (t := t) (s := s) (q := q) (lo := lo)
  exact h12
theorem came_I {t : TS} {s q c : Nat} : tI (spCame t s q c) 0 = tI t 0 := by
  unfold spCame
  rw [settle_I]
  unfold spCame1
  generalize ht : uN (uN t 5 c 1) 4 c 0 = t1
  have e : tI t1 0 = tI t 0 := by rw [← ht]; rfl
  rw [← e]
  by_cases h6 : tN t1 6 (4 * s + q) = 0
  · rw [cif_t h6]
    by_cases hl : tN t1 12 (48 * (tN t1 0 5 - 1) + c) ≠ 0 ∨ tI t1 0 0 = 0
    · rw [cif_t hl]; exact part_I
    · rw [cif_f hl]
      by_cases hA : allC t1 s q
      · rw [cif_t hA]; exact part_I
      · rw [cif_f hA]
        by_cases h7 : tN t1 7 (4 * s + q) = 0
        · rw [cif_t h7]; rfl
        · rw [cif_f h7]
  · rw [cif_f h6]
theorem turn1_I {t1 : TS} {s q : Nat} : tI (spTurn1 t1 s q).2 0 1 = tI t1 0 1 := by
  unfold spTurn1
  cases h : fstB t1 s q (tN t1 1 (s - 1)) 0 with
  | some f => exact congrFun came_I 1
  | none =>
    by_cases hw : tN t1 7 (4 * s + q) ≠ 0 ∧ tI t1 0 0 ≠ -1 ∧ ¬ tI t1 0 1 - tI t1 1 (4 * s + q) < tI t1 0 0
    · show tI (Prod.snd (α := Nat) (β := TS) (cif _ _ _)) 0 1 = _
      rw [cif_t hw]
      exact congrFun (settle_I.trans part_I) 1
    · show tI (Prod.snd (α := Nat) (β := TS) (cif _ _ _)) 0 1 = _
      rw [cif_f hw]
      exact congrFun (rows_I _ _) 1
theorem source_I {t1 : TS} {q : Nat} : tI (spSource t1 q).2 0 1 = tI t1 0 1 := by
  unfold spSource
  split
  · rfl
  · split <;> rfl
theorem turn_I {t : TS} {s q : Nat} : tI (spTurn t s q).2 0 1 = tI t 0 1 + 1 := by
  have e : tI (uI t 0 1 (tI t 0 1 + 1)) 0 1 = tI t 0 1 + 1 := by rw [tI_uI, if_pos ⟨rfl, rfl⟩]
  unfold spTurn
  split
  · exact source_I.trans e
  · exact turn1_I.trans e
theorem CU.turn {t : TS} {s q u : Nat} (h : CU t u) : CU (spTurn t s q).2 (u + 1) := ⟨by rw [turn_I, h.1, nI_s1], fun z => absurd z (Nat.succ_ne_zero _)⟩
theorem CU.rq {s : Nat} : ∀ n q d t u, CU t u → CU (spRq s n q d t).2 (u + n)
  | 0, q, d, t, u, h => h
  | n + 1, q, d, t, u, h => by
    unfold spRq
    have := CU.rq (s := s) n (q + 1) (d + (if (spTurn t s q).1 = 0 then 0 else 1)) (spTurn t s q).2 (u + 1) h.turn
    rwa [show u + 1 + n = u + (n + 1) by omega] at this
theorem CU.rs : ∀ n s d t u, (∀ s, s < 4 → tN t 1 s ≤ 4) → s + n ≤ 4 → CU t u → ∃ u', u ≤ u' ∧ u' ≤ u + 4 * n ∧ CU (spRs n s d t).2 u'
  | 0, s, d, t, u, _, _, h => ⟨u, Nat.le_refl _, by omega, h⟩
  | n + 1, s, d, t, u, hP, hs, h => by
    unfold spRs
    have h1 := CU.rq (s := s) (tN t 1 s) 0 d t u h
    have e := (SP.rq (s := s) (tN t 1 s) 0 d t).1
    obtain ⟨u', a, b, c⟩ := CU.rs n (s + 1) (spRq s (tN t 1 s) 0 d t).1 (spRq s (tN t 1 s) 0 d t).2 _ (by rw [e]; exact hP) (by omega) h1
    have := hP s (by omega)
    exact ⟨u', by omega, by omega, c⟩
theorem CU.rr : ∀ n d t u, (∀ s, s < 4 → tN t 1 s ≤ 4) → tN t 0 0 ≤ 4 → CU t u → ∃ u', u ≤ u' ∧ u' ≤ u + 16 * n ∧ CU (spRr n d t).2 u'
  | 0, d, t, u, _, _, h => ⟨u, Nat.le_refl _, by omega, h⟩
  | n + 1, d, t, u, hP, hS, h => by
    unfold spRr
    obtain ⟨u1, a1, b1, c1⟩ := CU.rs (tN t 0 0) 0 d t u hP (by omega) h
    have e := SP.rs (tN t 0 0) 0 d t
    obtain ⟨u', a, b, c⟩ := CU.rr n (spRs (tN t 0 0) 0 d t).1 (spRs (tN t 0 0) 0 d t).2 u1 (by rw [e.1]; exact hP) (by rw [e.2]; exact hS) c1
    exact ⟨u', by omega, by omega, c⟩
