/-! ===== invariants: one step at a time ===== -/
theorem IC.cgr {t t' : TS} (I : IC t) (h00 : tN t' 0 0 = tN t 0 0) (h03 : tN t' 0 3 = tN t 0 3) (h1 : tN t' 1 = tN t 1) (h2 : tN t' 2 = tN t 2) (h3 : tN t' 3 = tN t 3) (hC : tC t' = tC t) (hL0 : tL t' 0 = tL t 0) (hL1 : tL t' 1 = tL t 1) : IC t' := by
  unfold IC
  simp only [RLk_cg h2 h03, fk_cg h2, home_cg h1, cnt_cg h2, inpS_cg h2 hL0, h00, h03, h2, h3, hC, hL1]
  exact I
theorem IC.same {t t' : TS} (I : IC t) (h : Same t t') : IC t' := by
  obtain ⟨h1, h2, h3, h4, h5, h6, h7, h8, h9, h10, h11, h12, h13, h14, h15, h16⟩ := h
  exact I.cgr h6 h9 h1 h2 h3 h11 h15 h16
theorem WI.cgr {t t' : TS} {j : Nat} (I : WI t j) (h00 : tN t' 0 0 = tN t 0 0) (h03 : tN t' 0 3 = tN t 0 3) (hS : tN t 0 0 ≤ 4) (h2 : tN t' 2 = tN t 2) (h10 : ∀ s, s < 4 → tN t' 10 (4 * j + s) = tN t 10 (4 * j + s)) (hK : tK t' j = tK t j) (h11 : ∀ i, i < 64 → tN t' 11 (64 * j + i) = tN t 11 (64 * j + i) ∧ tL t' 2 (64 * j + i) = tL t 2 (64 * j + i)) (hL0 : tL t' 0 = tL t 0) : WI t' j := by
  obtain ⟨w1, w2, w3, w4⟩ := I
  refine ⟨fun p hp => ?_, fun s hs => ?_, fun g k hg hk => ?_, fun s k hs hk => ?_⟩
  · rw [hK] at hp
    obtain ⟨g, hg, e⟩ := w1 p hp
    exact ⟨g, by omega, by rw [h2, h10 g (by omega), h10 (g + 1) (by omega)]; exact e⟩
  · rw [h10 s (by omega)]; exact w2 s (by omega)
  · rw [RLk_cg h2 h03, kk_cg h2, hK, (h11 (16 * (g + 1) + k) (by omega)).1, (h11 (16 * g + k) (by omega)).1]; exact w3 g k (by omega) hk
  · rw [(h11 (16 * s + k) (by omega)).1, (h11 (16 * s + k) (by omega)).2, inpS_cg h2 hL0, cnt_cg h2, h03]; exact w4 s k (by omega) hk
theorem UI.cgr {t t' : TS} {j : Nat} (I : UI t j) (h00 : tN t' 0 0 = tN t 0 0) (h03 : tN t' 0 3 = tN t 0 3) (h1 : tN t' 1 = tN t 1) (h2 : tN t' 2 = tN t 2) (h3 : tN t' 3 = tN t 3) (h4 : tN t' 4 = tN t 4) (h5 : tN t' 5 = tN t 5) (h6 : tN t' 6 = tN t 6) (h10 : tN t' 10 = tN t 10) (h11 : tN t' 11 = tN t 11) (hC : tC t' = tC t) (hK : tK t' j = tK t j) (hL0 : tL t' 0 = tL t 0) (hL2 : tL t' 2 = tL t 2) : UI t' j := by
  unfold UI bH eH
  simp only [RLk_cg h2 h03, fk_cg h2, kk_cg h2, home_cg h1, cnt_cg h2, inpS_cg h2 hL0, h00, h03, h1, h2, h3, h4, h5, h6, h10, h11, hC, hK, hL2]
  exact I
theorem en_0 {t : TS} {how i : Nat} : tN (spEnd t how) 0 i = if i = 5 then 0 else tN t 0 i := by
  unfold spEnd
  rw [tN_uNs_n (by decide), tN_uNs_n (by decide), tN_uNs_n (by decide), tN_uNs_n (by decide), tN_uN, tN_uI, tN_uN_n (show (0 : Nat) ≠ 9 by decide)]
  by_cases h : i = 5 <;> simp [h]
theorem en_9 {t : TS} {how i : Nat} : tN (spEnd t how) 9 i = if i = tN t 0 5 - 1 then how else tN t 9 i := by
  unfold spEnd
  rw [tN_uNs_n (by decide), tN_uNs_n (by decide), tN_uNs_n (by decide), tN_uNs_n (by decide), tN_uN_n (by decide), tN_uI, tN_uN]
  by_cases h : i = tN t 0 5 - 1 <;> simp [h]
theorem en_n {t : TS} {how k : Nat} (h0 : k ≠ 0) (h9 : k ≠ 9) (h4 : k ≠ 4) (h5 : k ≠ 5) (h6 : k ≠ 6) (h7 : k ≠ 7) : tN (spEnd t how) k = tN t k := by
  unfold spEnd
  rw [tN_uNs_n h7, tN_uNs_n h6, tN_uNs_n h5, tN_uNs_n h4, tN_uN_n h0, tN_uI, tN_uN_n h9]
theorem en_z {t : TS} {how i : Nat} : tN (spEnd t how) 4 i = 0 ∧ tN (spEnd t how) 5 i = 0 ∧ tN (spEnd t how) 6 i = 0 ∧ tN (spEnd t how) 7 i = 0 := by
  unfold spEnd
  refine ⟨?_, ?_, ?_, ?_⟩
  · rw [tN_uNs_n (by decide), tN_uNs_n (by decide), tN_uNs_n (by decide), tN_uNs_s]
  · rw [tN_uNs_n (by decide), tN_uNs_n (by decide), tN_uNs_s]
  · rw [tN_uNs_n (by decide), tN_uNs_s]
  · rw [tN_uNs_s]
theorem IQ.z {t : TS} {no : Nat → Nat → Prop} (h5 : ∀ i, tN t 5 i = 0) (h7 : ∀ i, tN t 7 i = 0) : IQ t no := ⟨fun s f q _ _ _ _ h => absurd (h5 _) h, fun s q _ _ _ _ h => absurd (h7 _) h⟩
/-- what does not hang on the mark under way -/
def IX (t : TS) : Prop := TB t ∧ IC t ∧ (∀ j, j < tN t 0 4 → (tN t 9 j = 0 ↔ tN t 0 5 = j + 1)) ∧ (∀ j, tN t 0 4 ≤ j → tK t j = [] ∧ (∀ i, i < 64 → tN t 11 (64 * j + i) = 0 ∧ tL t 2 (64 * j + i) = 0) ∧ ∀ c, c < 48 → tN t 12 (48 * j + c) = 0) ∧ ∀ j, j < tN t 0 4 → tN t 9 j = 1 → WI t j
theorem IB.ix {t : TS} (V : IB t) : IX t := ⟨V.1, V.2.1, V.2.2.1.2.2.2.1, V.2.2.1.2.2.2.2, V.2.2.2.2⟩
theorem IX.mk {t t' : TS} {j : Nat} (V : IX t) (hu : tN t 0 5 = j + 1) (hu' : tN t' 0 5 = j + 1) (h00 : tN t' 0 0 = tN t 0 0) (h03 : tN t' 0 3 = tN t 0 3) (h04 : tN t' 0 4 = tN t 0 4) (h2 : tN t' 2 = tN t 2) (h9 : tN t' 9 = tN t 9) (h10 : tN t' 10 = tN t 10) (hL0 : tL t' 0 = tL t 0) (hK : ∀ b, b ≠ j → tK t' b = tK t b) (h11 : ∀ b, b ≠ j → ∀ i, i < 64 → tN t' 11 (64 * b + i) = tN t 11 (64 * b + i) ∧ tL t' 2 (64 * b + i) = tL t 2 (64 * b + i)) (h12 : ∀ b, b ≠ j → ∀ i, i < 48 → tN t' 12 (48 * b + i) = tN t 12 (48 * b + i)) (B : TB t') (I : IC t') : IX t' := by
  obtain ⟨B0, I0, a4, a5, W0⟩ := V
  have hj := B0.uw
  refine ⟨B, I, fun b hb => ?_, fun b hb => ?_, fun b hb h1 => ?_⟩
  · rw [h9, hu', a4 b (by omega), hu]
  · rw [h04] at hb
    have hbj : b ≠ j := by omega
    obtain ⟨p1, p2, p3⟩ := a5 b hb
    exact ⟨by rw [hK b hbj]; exact p1, fun i hi => by rw [(h11 b hbj i hi).1, (h11 b hbj i hi).2]; exact p2 i hi, fun c hc => by rw [h12 b hbj c hc]; exact p3 c hc⟩
  · rw [h9] at h1
    rw [h04] at hb
    have hbj : b ≠ j := fun e => by
      have := (a4 j (by omega)).mpr hu
      subst e; omega
    exact (W0 b hb h1).cgr h00 h03 B0.S.2 h2 (fun s hs => by rw [h10]) (hK b hbj) (h11 b hbj) hL0
/-- a step that touches none but the mark under way -/
theorem IB.mk {t t' : TS} {j : Nat} (V : IB t) (hu : tN t 0 5 = j + 1) (hu' : tN t' 0 5 = j + 1) (h00 : tN t' 0 0 = tN t 0 0) (h03 : tN t' 0 3 = tN t 0 3) (h04 : tN t' 0 4 = tN t 0 4) (h2 : tN t' 2 = tN t 2) (h9 : tN t' 9 = tN t 9) (h10 : tN t' 10 = tN t 10) (hL0 : tL t' 0 = tL t 0) (hK : ∀ b, b ≠ j → tK t' b = tK t b) (h11 : ∀ b, b ≠ j → ∀ i, i < 64 → tN t' 11 (64 * b + i) = tN t 11 (64 * b + i) ∧ tL t' 2 (64 * b + i) = tL t 2 (64 * b + i)) (h12 : ∀ b, b ≠ j → ∀ i, i < 48 → tN t' 12 (48 * b + i) = tN t 12 (48 * b + i)) (B : TB t') (I : IC t') (g1 : ∀ c, tN t' 4 c ≠ 0 → tN t' 5 c = 0) (g2 : ∀ i, tN t' 7 i ≠ 0 → tN t' 6 i = 0) (U : UI t' j) : IB t' := by
  have X := V.ix.mk hu hu' h00 h03 h04 h2 h9 h10 hL0 hK h11 h12 B I
  exact ⟨B, I, ⟨fun c hc => ⟨g1 c hc, by omega⟩, fun i hi => ⟨g2 i hi, by omega⟩, fun z => by omega, X.2.2.1, X.2.2.2.1⟩, fun b hb => (show b = j by omega) ▸ U, X.2.2.2.2⟩
theorem IX.end {t : TS} {j how : Nat} (V : IX t) (hu : tN t 0 5 = j + 1) (h0 : how ≠ 0) (h3 : how ≤ 3) (hw : how = 1 → WI t j) : IB (spEnd t how) ∧ ∀ no, IQ (spEnd t how) no := by
  refine ⟨?_, fun no => IQ.z (fun i => en_z.2.1) (fun i => en_z.2.2.2)⟩
  obtain ⟨B0, I0, a4, a5, W0⟩ := V
  have hj := B0.uw
  have e5 : tN (spEnd t how) 0 5 = 0 := by rw [en_0, if_pos rfl]
  have e4 : tN (spEnd t how) 0 4 = tN t 0 4 := by rw [en_0, if_neg (by decide)]
  refine ⟨B0.end h3, I0.same Same.end, ⟨fun c hc => absurd en_z.1 hc, fun i hi => absurd en_z.2.2.2 hi, fun _ i => en_z, fun b hb => ?_, fun b hb => ?_⟩, fun b hb => by omega, fun b hb h1 => ?_⟩
  · rw [e5, en_9, hu, Nat.add_sub_cancel]
    rw [e4] at hb
    by_cases e : b = j
    · rw [if_pos e]; omega
    · rw [if_neg e, a4 b hb, hu]; omega
  · rw [e4] at hb
    obtain ⟨p1, p2, p3⟩ := a5 b hb
    exact ⟨p1, fun i hi => by rw [en_n (by decide) (by decide) (by decide) (by decide) (by decide) (by decide)]; exact p2 i hi, fun c hc => by rw [en_n (by decide) (by decide) (by decide) (by decide) (by decide) (by decide)]; exact p3 c hc⟩
  · rw [e4] at hb
    have key : WI t b := by
      rw [en_9, hu, Nat.add_sub_cancel] at h1
      by_cases e : b = j
      · rw [if_pos e] at h1; rw [e]; exact hw h1
      · rw [if_neg e] at h1; exact W0 b hb h1
    refine key.cgr (by rw [en_0, if_neg (by decide)]) (by rw [en_0, if_neg (by decide)]) B0.S.2 (en_n (by decide) (by decide) (by decide) (by decide) (by decide) (by decide)) (fun s hs => by rw [en_n (by decide) (by decide) (by decide) (by decide) (by decide) (by decide)]) rfl (fun i hi => ⟨by rw [en_n (by decide) (by decide) (by decide) (by decide) (by decide) (by decide)], rfl⟩) rfl
theorem IB.end {t : TS} {j how : Nat} (V : IB t) (hu : tN t 0 5 = j + 1) (h0 : how ≠ 0) (h3 : how ≤ 3) (hw : how = 1 → WI t j) : IB (spEnd t how) ∧ ∀ no, IQ (spEnd t how) no := V.ix.end hu h0 h3 hw
/-- the mark is whole -/
theorem UI.whole {t : TS} {j : Nat} (B : TB t) (U : UI t j) (hA : allW t) : WI t j := by
  obtain ⟨u1, u2, u3, u4, u5, u6⟩ := U
  have b := B.S
  refine ⟨fun p hp => ?_, fun s hs => ?_, fun g k hg hk => ?_, fun s k hs hk => ?_⟩
  · obtain ⟨g, hg, e⟩ := u2 p hp
    exact ⟨g, hg, by rw [u1 g (by omega), u1 (g + 1) hg]; exact e⟩
  · rw [u1 s hs]; exact B.P (by omega)
  · have R := u3 g k hg hk
    have b1 := B.P (s := g) (by omega)
    have b2 := B.P (s := g + 1) (by omega)
    have m1 := Nat.mod_lt k (show tN t 1 g > 0 by omega)
    have m2 := Nat.mod_lt k (show tN t 1 (g + 1) > 0 by omega)
    have A := hA (g + 1) hg (k % tN t 1 (g + 1)) m2
    have c1 : tN t 5 (home t g k) = 1 := by
      have := A.2.resolve_left (by omega) (k % tN t 1 g) (by rw [Nat.add_sub_cancel]; exact m1)
      rw [Nat.add_sub_cancel] at this; exact this
    unfold bH eH at R
    rw [if_neg (by rw [A.1]; decide), if_pos (Or.inr (by rw [c1]; decide))] at R
    exact R
  · have b1 := B.P (s := s) (by omega)
    have m1 := Nat.mod_lt k (show tN t 1 s > 0 by omega)
    exact u5 s k hs hk (by rw [(hA s hs _ m1).1]; decide)
theorem IV.settle {t : TS} (V : IV t) : IV (spSettle t) := by
  unfold spSettle
  by_cases h : tN t 0 5 ≠ 0 ∧ allW t
  · rw [cif_t h]
    have hu : tN t 0 5 = (tN t 0 5 - 1) + 1 := by omega
    obtain ⟨a, b⟩ := V.1.end (how := 1) hu (by decide) (by decide) (fun _ => (V.1.2.2.2.1 _ hu).whole V.1.1 h.2)
    exact ⟨a, b _⟩
  · rw [cif_f h]; exact V
