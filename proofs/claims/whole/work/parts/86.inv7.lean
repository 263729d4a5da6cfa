/-! ===== invariants: a turn ===== -/
/-- row r goes from channel c on, and is counted -/
def spMv (t : TS) (s q c r v : Nat) : TS := if s + 1 < tN t 0 0 then spPut (uN (spTake (spOff t c) s r) 8 (4 * s + q) v) (outC t s q r) r else uN (spTake (spOff t c) s r) 8 (4 * s + q) v
theorem mv_N {t : TS} {s q c r v : Nat} : tN (spMv t s q c r v) = tN (uN (spTake (spOff t c) s r) 8 (4 * s + q) v) := by unfold spMv; split <;> rfl
theorem mv_n {t : TS} {s q c r v k : Nat} (h3 : k ≠ 3) (h4 : k ≠ 4) (h8 : k ≠ 8) : tN (spMv t s q c r v) k = tN t k := by
  rw [mv_N]; unfold spTake spOff; rw [tN_uN_n h8, tN_uL, tN_uN_n h3, tN_uN_n h4, tN_uC]
theorem off_n {t : TS} {c k : Nat} (h4 : k ≠ 4) : tN (spOff t c) k = tN t k := by unfold spOff; rw [tN_uN_n h4, tN_uC]
theorem mv_3 {t : TS} {s q c r v : Nat} : tN (spMv t s q c r v) 3 = va_up (tN t 3) (16 * s + tN t 2 r) (tN t 3 (16 * s + tN t 2 r) + 1) := by
  rw [mv_N, tN_uN_n (by decide)]; unfold spTake; rw [tN_uL, tN_uN_f, off_n (by decide), off_n (by decide)]
theorem mv_4 {t : TS} {s q c r v : Nat} : tN (spMv t s q c r v) 4 = va_up (tN t 4) c (if 1 < tN t 4 c then tN t 4 c - 1 else tN t 4 c) := by
  rw [mv_N, tN_uN_n (by decide)]; unfold spTake; rw [tN_uL, tN_uN_n (by decide)]; unfold spOff; rw [tN_uN_f, tN_uC]
theorem mv_L {t : TS} {s q c r v : Nat} : tL (spMv t s q c r v) = tL (spTake (spOff t c) s r) := by unfold spMv; split <;> rfl
theorem mv_L1 {t : TS} {s q c r v : Nat} : tL (spMv t s q c r v) 1 = va_up (tL t 1) (16 * s + tN t 2 r) (tL t 1 (16 * s + tN t 2 r) + tL t 0 r) := by
  rw [mv_L]; unfold spTake; rw [tL_uL_f, off_n (by decide)]; rfl
theorem mv_Ln {t : TS} {s q c r v k : Nat} (h : k ≠ 1) : tL (spMv t s q c r v) k = tL t k := by
  rw [mv_L]; unfold spTake; rw [tL_uL_n h]; rfl
theorem mv_K {t : TS} {s q c r v : Nat} : tK (spMv t s q c r v) = tK t := by unfold spMv; split <;> rfl
theorem mv_C {t : TS} {s q c r v d : Nat} (hne : outC t s q r ≠ c) : tC (spMv t s q c r v) d = (if d = c then (tC t c).tail else tC t d) ++ (if s + 1 < tN t 0 0 ∧ d = outC t s q r then [r] else []) := by
  have e : ∀ d, tC (uN (spTake (spOff t c) s r) 8 (4 * s + q) v) d = if d = c then (tC t c).tail else tC t d := fun d => rfl
  unfold spMv
  by_cases h : s + 1 < tN t 0 0
  · rw [if_pos h]
    unfold spPut
    rw [tC_uC, e, e]
    by_cases h2 : d = outC t s q r
    · subst h2; rw [if_pos rfl, if_neg hne, if_pos ⟨h, rfl⟩]
    · rw [if_neg h2, show (if s + 1 < tN t 0 0 ∧ d = outC t s q r then [r] else []) = [] from if_neg (fun z => h2 z.2), List.append_nil]
  · rw [if_neg h, e, show (if s + 1 < tN t 0 0 ∧ d = outC t s q r then [r] else []) = [] from if_neg (fun z => h z.1), List.append_nil]
theorem put_end {t : TS} {d r how : Nat} : spPut (spEnd t how) d r = spEnd (spPut t d r) how := rfl
theorem put_uK {t : TS} {d r m : Nat} {l : List (Nat × Nat)} : spPut (uK t m l) d r = uK (spPut t d r) m l := rfl
theorem put_uN {t : TS} {d r j i v : Nat} : spPut (uN t j i v) d r = uN (spPut t d r) j i v := rfl
theorem put_keep {t : TS} {c r d : Nat} : spPut (spKeep t c r) d r = spKeep (spPut t d r) c r := by
  unfold spKeep
  rw [show tN (spPut t d r) = tN t from rfl, show tK (spPut t d r) = tK t from rfl]
  split
  · exact put_end
  · exact put_uK
theorem put_kept {t : TS} {s q c r d : Nat} : spPut (spKept t s q c r) d r = spKept (spPut t d r) s q c r := by
  unfold spKept
  rw [show tN (spPut t d r) = tN t from rfl]
  by_cases h : tN t 0 5 ≠ 0 ∧ tN t 6 (4 * s + q) ≠ 0 ∧ tN t 5 c = 0
  · rw [cif_t h, cif_t h, put_keep, put_uN]
  · rw [cif_f h, cif_f h]
theorem tf_mv {t : TS} {s q c r v : Nat} : cif (s + 1 < tN t 0 0) (spPut (spKept (uN (spTake (spOff t c) s r) 8 (4 * s + q) v) s q c r) (outC t s q r) r) (spKept (uN (spTake (spOff t c) s r) 8 (4 * s + q) v) s q c r) = spKept (spMv t s q c r v) s q c r := by
  unfold spMv
  by_cases h : s + 1 < tN t 0 0
  · rw [cif_t h, if_pos h, put_kept]
  · rw [cif_f h, if_neg h]
theorem IQ.cgr {t t' : TS} {no : Nat → Nat → Prop} (Q : IQ t no) (h00 : tN t' 0 0 = tN t 0 0) (h1 : tN t' 1 = tN t 1) (h5 : tN t' 5 = tN t 5) (h6 : tN t' 6 = tN t 6) (h7 : tN t' 7 = tN t 7) : IQ t' no := by
  unfold IQ
  simp only [allC_cg h1 h5, h00, h1, h5, h6, h7]
  exact Q
theorem IV.take {t : TS} {s q f c r v : Nat} {l : List Nat} (V : IV t) (hs1 : 1 ≤ s) (hs : s < tN t 0 0) (hq : q < tN t 1 s) (hf : f < tN t 1 (s - 1)) (hc : c = 16 * (s - 1) + 4 * f + q) (hl : tC t c = r :: l) (hsh : ¬ shut t s q c) (hb1 : tN t 4 c ≠ 1) (hcap : s + 1 < tN t 0 0 → (tC t (outC t s q r)).length < tN t 0 1) (hv : v ≤ 3) : IV (spKept (spMv t s q c r v) s q c r) := by
  have B := V.1.1
  have I := V.1.2.1
  have b := B.S
  have bq := B.P (s := s) (by omega)
  have bf := B.P (s := s - 1) (by omega)
  have hrm : r ∈ tC t c := by rw [hl]; exact List.mem_cons_self ..
  have hr := B.row hrm
  obtain ⟨g, hg, hch⟩ := I.2.1 c r hrm
  have hgd := home_d B (k := tN t 2 r) (show g < 3 by omega)
  have hgs : g = s - 1 := by rw [← hch] at hgd; omega
  subst hgs
  have hm2 := Nat.mod_lt (tN t 2 r) (show tN t 1 (s - 1) > 0 by omega)
  have hm3 := Nat.mod_lt (tN t 2 r) (show tN t 1 s > 0 by omega)
  have hkq : tN t 2 r % tN t 1 s = q := by
    have := hch
    unfold home at this
    rw [show s - 1 + 1 = s by omega] at this
    omega
  have hout : outC t s q r = home t s (tN t 2 r) := by unfold outC home; rw [hkq]
  have hk15 := B.key r
  have hne : outC t s q r ≠ c := fun z => by
    have h4 : 4 * q + tN t 2 r % tN t 1 (s + 1) = 4 * q + tN t 2 r % tN t 1 (s + 1) := rfl
    unfold outC at z
    omega
  have eC : ∀ d, tC (spMv t s q c r v) d = (if d = c then l else tC t d) ++ (if s + 1 < tN t 0 0 ∧ d = home t s (tN t 2 r) then [r] else []) := fun d => by
    rw [mv_C hne, hl, hout]; rfl
  obtain ⟨I', hrank⟩ := I.move (t' := spMv t s q c r v) B hs rfl hr (fun _ => ⟨l, by rw [← hch]; exact hl⟩) (fun z => by omega) (mv_n (by decide) (by decide) (by decide)) (mv_n (by decide) (by decide) (by decide)) (mv_n (by decide) (by decide) (by decide)) mv_3 (mv_Ln (by decide)) mv_L1 (fun d => by
    rw [eC, ← hch]
    congr 1
    by_cases h : d = c
    · subst h; rw [if_pos rfl, if_pos ⟨hs1, rfl⟩, hl]; rfl
    · rw [if_neg h, if_neg (fun z => h z.2)])
  have hM : tN t 3 (16 * s + tN t 2 r) < 200 := by
    have := cnt_n (t := t) (k := tN t 2 r) r
    have := B.fed
    omega
  have B1 : TB (uN (spTake (spOff t c) s r) 8 (4 * s + q) v) := by
    have Bo := B.off (c := c) (by rw [hl]; simp)
    exact (Bo.take (s := s) (r := r) (by rw [off_n (by decide), off_n (by decide)]; exact hM)).p8 hv
  have B' : TB (spMv t s q c r v) := by
    unfold spMv
    split
    · next h =>
      have e1 : tC (uN (spTake (spOff t c) s r) 8 (4 * s + q) v) (outC t s q r) = tC t (outC t s q r) := if_neg hne
      refine B1.put (by rw [e1]; have := hcap h; have := B.cap; omega) ?_
      show r < tN (uN (spTake (spOff t c) s r) 8 (4 * s + q) v) 0 3
      rw [tN_uN_n (by decide)]; unfold spTake; rw [tN_uL, tN_uN_n (by decide), off_n (by decide)]; exact hr
    · exact B1
  have e0 : tN (spMv t s q c r v) 0 = tN t 0 := mv_n (by decide) (by decide) (by decide)
  have e5 : tN (spMv t s q c r v) 5 = tN t 5 := mv_n (by decide) (by decide) (by decide)
  have e6 : tN (spMv t s q c r v) 6 = tN t 6 := mv_n (by decide) (by decide) (by decide)
  have e7 : tN (spMv t s q c r v) 7 = tN t 7 := mv_n (by decide) (by decide) (by decide)
  have X' : IX (spMv t s q c r v) := V.1.ix.cgr B' I' e0 (mv_n (by decide) (by decide) (by decide)) (mv_n (by decide) (by decide) (by decide)) (mv_n (by decide) (by decide) (by decide)) (mv_n (by decide) (by decide) (by decide)) (mv_n (by decide) (by decide) (by decide)) mv_K (mv_Ln (by decide)) (mv_Ln (by decide))
  have G1' : ∀ d, tN (spMv t s q c r v) 4 d ≠ 0 → tN (spMv t s q c r v) 5 d = 0 ∧ tN (spMv t s q c r v) 0 5 ≠ 0 := fun d hd => by
    rw [e0, e5]
    rw [mv_4] at hd
    by_cases h : d = c
    · subst h
      rw [up_s] at hd
      exact V.1.2.2.1.1 d (by split at hd <;> omega)
    · rw [up_ne h] at hd; exact V.1.2.2.1.1 d hd
  have Q' : IQ (spMv t s q c r v) (fun _ _ => False) := V.2.cgr (by rw [e0]) (mv_n (by decide) (by decide) (by decide)) e5 e6 e7
  have hk05 : tN t 5 c ≠ 0 → tN t 0 5 ≠ 0 := fun h z => h (V.1.2.2.1.2.2.1 z c).2.1
  have hsh' : tN t 5 c ≠ 0 → tN t 6 (4 * s + tN t 2 r % tN t 1 s) ≠ 0 := fun h z => by
    rw [hkq] at z
    refine hsh ⟨hk05 h, ?_, h⟩
    have := V.2.1 (s - 1) f q (by omega) hf (by rw [show s - 1 + 1 = s by omega]; exact hq) (fun z => z) (by rw [← hc]; exact h) (by rw [show s - 1 + 1 = s by omega]; exact z)
    rwa [show s - 1 + 1 = s by omega] at this
  have UU : ∀ j t'', tN t 0 5 = j + 1 → (∀ k, k ≠ 12 → tN t'' k = tN (spMv t s q c r v) k) → tC t'' = tC (spMv t s q c r v) → tL t'' = tL (spMv t s q c r v) → tK t'' j = tK t j ++ (if tN t 6 (4 * s + tN t 2 r % tN t 1 s) ≠ 0 ∧ tN t 5 c = 0 then [(c, r)] else []) → UI t'' j := fun j t'' hu ek eC'' eL'' eK'' => by
    refine (V.1.2.2.2.1 j hu).move (t' := t'') B I (fun d hd => (V.1.2.2.1.1 d hd).1) hs1 hs rfl hr hch hl hrank hb1 hsh' ?_ ?_ ?_ ?_ ?_ ?_ ?_ ?_ ?_ ?_ ?_ (fun d => by rw [eC'']; exact eC d) eK''
    · rw [ek 0 (by decide)]; exact e0
    · rw [ek 1 (by decide)]; exact mv_n (by decide) (by decide) (by decide)
    · rw [ek 2 (by decide)]; exact mv_n (by decide) (by decide) (by decide)
    · rw [ek 3 (by decide)]; exact mv_3
    · rw [ek 4 (by decide)]; exact mv_4
    · rw [ek 5 (by decide)]; exact e5
    · rw [ek 6 (by decide)]; exact e6
    · rw [ek 10 (by decide)]; exact mv_n (by decide) (by decide) (by decide)
    · rw [ek 11 (by decide)]; exact mv_n (by decide) (by decide) (by decide)
    · rw [eL'']; exact mv_Ln (by decide)
    · rw [eL'']; exact mv_Ln (by decide)
  have G2' : ∀ i, tN (spMv t s q c r v) 7 i ≠ 0 → tN (spMv t s q c r v) 6 i = 0 ∧ tN (spMv t s q c r v) 0 5 ≠ 0 := by rw [e0, e6, e7]; exact V.1.2.2.1.2.1
  unfold spKept
  by_cases h : tN (spMv t s q c r v) 0 5 ≠ 0 ∧ tN (spMv t s q c r v) 6 (4 * s + q) ≠ 0 ∧ tN (spMv t s q c r v) 5 c = 0
  · rw [cif_t h]
    rw [e0, e5, e6] at h
    obtain ⟨j, hu⟩ : ∃ j, tN t 0 5 = j + 1 := ⟨tN t 0 5 - 1, by omega⟩
    have hu' : tN (spMv t s q c r v) 0 5 = j + 1 := by rw [e0]; exact hu
    rw [hu', Nat.add_sub_cancel]
    have hu2 : tN (uN (spMv t s q c r v) 12 (48 * j + c) 1) 0 5 = j + 1 := by rw [tN_uN_n (by decide)]; exact hu'
    have X2 : IX (uN (spMv t s q c r v) 12 (48 * j + c) 1) := X'.mk hu' hu2 (by rw [tN_uN_n (by decide)]) (by rw [tN_uN_n (by decide)]) (by rw [tN_uN_n (by decide)]) (tN_uN_n (by decide)) (tN_uN_n (by decide)) (tN_uN_n (by decide)) rfl (fun b _ => rfl) (fun b hb i hi => ⟨by rw [tN_uN_n (by decide)], rfl⟩) (fun b hb i hi => by rw [tN_uN, if_neg (by omega)]) (B'.p12 (by decide)) (I'.same Same.rf)
    unfold spKeep
    rw [hu2, Nat.add_sub_cancel]
    split
    · obtain ⟨E1, E2⟩ := X2.end (how := 2) hu2 (by decide) (by decide) (fun z => absurd z (by decide))
      exact ⟨E1, E2 _⟩
    · next hlim =>
      have hlen : (tK (uN (spMv t s q c r v) 12 (48 * j + c) 1) j ++ [(c, r)]).length ≤ 200 := by
        rw [List.length_append]
        have := X2.1.lim
        simp only [List.length_cons, List.length_nil]; omega
      have B3 : TB (uK (uN (spMv t s q c r v) 12 (48 * j + c) 1) j (tK (uN (spMv t s q c r v) 12 (48 * j + c) 1) j ++ [(c, r)])) := X2.1.pK hlen (fun p hp => by
        rcases List.mem_append.mp hp with z | z
        · exact X2.1.krow z
        · rw [List.mem_singleton] at z
          rw [z]
          exact ⟨by show c < 48; omega, by show r < _; rw [tN_uN_n (by decide), e0]; exact hr⟩)
      have ek : ∀ k, k ≠ 12 → tN (uK (uN (spMv t s q c r v) 12 (48 * j + c) 1) j (tK (uN (spMv t s q c r v) 12 (48 * j + c) 1) j ++ [(c, r)])) k = tN (spMv t s q c r v) k := fun k hk => tN_uN_n hk
      have X3 : IX (uK (uN (spMv t s q c r v) 12 (48 * j + c) 1) j (tK (uN (spMv t s q c r v) 12 (48 * j + c) 1) j ++ [(c, r)])) := X2.mk hu2 hu2 rfl rfl rfl rfl rfl rfl rfl (fun b hb => by rw [tK_uK, if_neg hb]) (fun b hb i hi => ⟨rfl, rfl⟩) (fun b hb i hi => rfl) B3 (X2.2.1.same Same.rf)
      have U3 := UU j (uK (uN (spMv t s q c r v) 12 (48 * j + c) 1) j (tK (uN (spMv t s q c r v) 12 (48 * j + c) 1) j ++ [(c, r)])) hu ek rfl rfl (by
        rw [tK_uK, if_pos rfl, hkq, if_pos ⟨h.2.1, h.2.2⟩]
        show tK (spMv t s q c r v) j ++ _ = _
        rw [mv_K])
      refine ⟨⟨B3, X3.2.1, ⟨fun d hd => ?_, fun i hi => ?_, fun z => ?_, X3.2.2.1, X3.2.2.2.1⟩, fun b hb => ?_, X3.2.2.2.2⟩, Q'.cgr (by rw [ek 0 (by decide)]) (ek 1 (by decide)) (ek 5 (by decide)) (ek 6 (by decide)) (ek 7 (by decide))⟩
      · rw [ek 4 (by decide)] at hd
        rw [ek 5 (by decide), ek 0 (by decide)]; exact G1' d hd
      · rw [ek 7 (by decide)] at hi
        rw [ek 6 (by decide), ek 0 (by decide)]; exact G2' i hi
      · rw [ek 0 (by decide)] at z; omega
      · rw [ek 0 (by decide), hu'] at hb
        have : b = j := by omega
        rw [this]; exact U3
  · rw [cif_f h]
    rw [e0, e5, e6] at h
    refine ⟨⟨B', I', ⟨G1', G2', fun z i => ?_, X'.2.2.1, X'.2.2.2.1⟩, fun j hu => ?_, X'.2.2.2.2⟩, Q'⟩
    · rw [e0] at z
      have := V.1.2.2.1.2.2.1 z i
      rw [mv_4, e5, e6, e7]
      refine ⟨?_, this.2⟩
      by_cases h : i = c
      · rw [h, up_s, ← h, this.1]; rfl
      · rw [up_ne h]; exact this.1
    · rw [e0] at hu
      refine UU j _ hu (fun k _ => rfl) rfl rfl ?_
      rw [hkq, if_neg (fun z => h ⟨by omega, z.1, z.2⟩), mv_K, List.append_nil]
