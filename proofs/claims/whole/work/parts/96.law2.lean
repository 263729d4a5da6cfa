/-! ===== the law: what holds between the calls ===== -/
theorem IV.kd {t : TS} (V : IV t) {j : Nat} (hj : j < tN t 0 4) (h9 : tN t 9 j = 1) : ((tK t j).map (fun p => p.2)).Nodup ∧ ∀ p, p ∈ tK t j → p.1 < 16 * (tN t 0 0 - 1) := by
  obtain ⟨w1, w2, w3, w4⟩ := V.1.2.2.2.2 j hj h9
  have B := V.1.1
  have b := B.S
  have hg : ∀ p, p ∈ tK t j → ∃ g, g + 1 < tN t 0 0 ∧ p.1 / 16 = g := fun p hp => by
    obtain ⟨g, hg, e⟩ := w1 p hp
    have := w2 g (by omega)
    have := w2 (g + 1) hg
    have := Nat.mod_lt (tN t 2 p.2) (show tN t 10 (4 * j + g) > 0 by omega)
    have := Nat.mod_lt (tN t 2 p.2) (show tN t 10 (4 * j + (g + 1)) > 0 by omega)
    exact ⟨g, hg, by omega⟩
  have hmono : ∀ k, k < 16 → ∀ d s, s + d < tN t 0 0 → tN t 11 (64 * j + (16 * (s + d) + k)) ≤ tN t 11 (64 * j + (16 * s + k)) := fun k hk d => by
    induction d with
    | zero => intro s _; exact Nat.le_refl _
    | succ d ih => intro s hs; exact Nat.le_trans (w3 (s + d) k hs hk).le (ih s (by omega))
  refine ⟨?_, fun p hp => ?_⟩
  · refine List.pairwise_iff_forall_sublist.mpr (fun {z z'} hz ez => ?_)
    subst ez
    obtain ⟨l', hl', e⟩ := List.sublist_map_iff.mp hz
    match l', e with
    | [p, q], e =>
      have ep : z = p.2 := by simpa using (List.cons.inj e).1
      have eq : z = q.2 := by simpa using (List.cons.inj (List.cons.inj e).2).1
      have hp : p ∈ tK t j := hl'.subset (by simp)
      have hq : q ∈ tK t j := hl'.subset (by simp)
      obtain ⟨g, h1, h2⟩ := hg p hp
      obtain ⟨g', h1', h2'⟩ := hg q hq
      have k15 := B.key z
      have hk16 : tN t 2 z < 16 := by omega
      have mp : z ∈ kk t g (tN t 2 z) (tK t j) := by unfold kk; exact List.mem_map.mpr ⟨p, List.mem_filter.mpr ⟨hp, decide_eq_true ⟨h2, by rw [ep]⟩⟩, ep.symm⟩
      have mq : z ∈ kk t g' (tN t 2 z) (tK t j) := by unfold kk; exact List.mem_map.mpr ⟨q, List.mem_filter.mpr ⟨hq, decide_eq_true ⟨h2', by rw [eq]⟩⟩, eq.symm⟩
      have rp := (w3 g _ h1 hk16).mem mp
      have rq := (w3 g' _ h1' hk16).mem mq
      have hgg : g = g' := by
        rcases Nat.lt_trichotomy g g' with y | y | y
        · have := hmono _ hk16 (g' - (g + 1)) (g + 1) (by omega)
          rw [show g + 1 + (g' - (g + 1)) = g' by omega] at this; omega
        · exact y
        · have := hmono _ hk16 (g - (g' + 1)) (g' + 1) (by omega)
          rw [show g' + 1 + (g - (g' + 1)) = g by omega] at this; omega
      subst hgg
      have hs : kk t g (tN t 2 z) [p, q] = [z, z] := by
        have e1 : kk t g (tN t 2 z) [p, q] = kk t g (tN t 2 z) [p] ++ kk t g (tN t 2 z) [q] := by rw [← kk_app]; rfl
        rw [e1, kk_s ⟨h2, by rw [ep]⟩, kk_s ⟨h2', by rw [eq]⟩, ← ep, ← eq]; rfl
      have hsub : [z, z].Sublist (kk t g (tN t 2 z) (tK t j)) := by
        rw [← hs]
        unfold kk
        exact (hl'.filter _).map _
      exact List.pairwise_iff_forall_sublist.mp (w3 g _ h1 hk16).nodup hsub rfl
    | [], e => cases e
    | [p], e => exact absurd (congrArg List.length e) (by simp)
    | p :: q :: r :: l, e => exact absurd (congrArg List.length e) (by simp)
  · obtain ⟨g, h1, h2⟩ := hg p hp
    omega
theorem IV.aw {t : TS} (V : IV t) {j : Nat} (hj : j < tN t 0 4) (h9 : tN t 9 j = 1) {k : Nat} (hk : k < 16) : inpN t k (tN t 11 (64 * j + k)) (tN t 0 3) = tN t 11 (64 * j + k) ∧ inpS t k (tN t 11 (64 * j + k)) (tN t 0 3) = tL t 2 (64 * j + k) := by
  obtain ⟨w1, w2, w3, w4⟩ := V.1.2.2.2.2 j hj h9
  have b := V.1.1.S
  have h := w4 0 k (by omega) hk
  rw [show 64 * j + (16 * 0 + k) = 64 * j + k by omega] at h
  rw [inpN_eq]
  exact ⟨by omega, h.1.symm⟩
theorem rngI {y : Int32} {a c : Nat} (ha : a < 2147483648) (hc : c < 2147483648) (h : nI a ≤ y ∧ y ≤ nI c) : a ≤ y.toNatClampNeg ∧ y.toNatClampNeg ≤ c := by
  obtain ⟨h1, h2⟩ := h
  rw [Int32.le_iff_toInt_le, nI_toInt ha] at h1
  rw [Int32.le_iff_toInt_le, nI_toInt hc] at h2
  show a ≤ y.toInt.toNat ∧ y.toInt.toNat ≤ c
  omega
theorem CU.keep {t t' : TS} {u : Nat} (h : CU t u) (eI : tI t' 0 1 = tI t 0 1) (e4 : tN t' 0 4 = 0 → tN t 0 4 = 0) (eC : tN t' 0 4 = 0 → tC t' = tC t) : CU t' u := ⟨eI.trans h.1, fun hu h4 c => by rw [eC h4]; exact h.2 hu (e4 h4) c⟩
section SP96
variable {t : TS} {u : Nat}
theorem IV.spWide (V : IV t) (c : CU t u) (hu : u < 2147483648) (x y : Int32) : IV (spWide t x y).2 ∧ CU (spWide t x y).2 u := by
  unfold Jvm.Pilot.CLooseMarksLaw_law_r2924_7cfb4f.spWide
  by_cases h1 : inN x (tN t 0 0)
  · rw [cif_t h1]
    by_cases h2 : nI 1 ≤ y ∧ y ≤ nI 4
    · rw [cif_t h2]
      by_cases h3 : 0 < tI t 0 1 ∨ 0 < tN t 0 4
      · rw [cif_t h3]; exact ⟨V, c⟩
      · rw [cif_f h3]
        have h4 : tN t 0 4 = 0 := by omega
        have hu0 : u = 0 := by
          have h5 : ¬ 0 < tI t 0 1 := fun z => h3 (Or.inl z)
          rw [c.1, Int32.lt_iff_toInt_lt, nI_toInt hu] at h5
          have : (0 : Int32).toInt = 0 := rfl
          omega
        exact ⟨V.wd h4 (c.2 hu0 h4) (rngI (by decide) (by decide) h2), c.keep rfl (fun z => h4) (fun _ => rfl)⟩
    · rw [cif_f h2]; exact ⟨V, c⟩
  · rw [cif_f h1]; exact ⟨V, c⟩
theorem IV.spCap (V : IV t) (c : CU t u) (x : Int32) : IV (spCap t x).2 ∧ CU (spCap t x).2 u := by
  unfold Jvm.Pilot.CLooseMarksLaw_law_r2924_7cfb4f.spCap
  by_cases h : nI 1 ≤ x ∧ x ≤ nI 20
  · rw [cif_t h]
    refine ⟨V.u0 (Or.inl rfl) ?_, c.keep rfl (fun z => by simpa [tN_uN] using z) (fun _ => rfl)⟩
    have hv := rngI (by decide) (by decide) h
    obtain ⟨x1, x2, x3, x4, x5, x6, x7, x8, x9, x10, x11, x12, x13, x14, x15, x16, x17, x18, x19⟩ := V.1.1
    exact ⟨x1, x2, hv, x4, x5, x6, x7, x8, x9, x10, x11, x12, x13, x14, x15, x16, x17, x18, x19⟩
  · rw [cif_f h]; exact ⟨V, c⟩
theorem IV.spLim (V : IV t) (c : CU t u) (x : Int32) : IV (spLim t x).2 ∧ CU (spLim t x).2 u := by
  unfold Jvm.Pilot.CLooseMarksLaw_law_r2924_7cfb4f.spLim
  by_cases h : nI 0 ≤ x ∧ x ≤ nI 200
  · rw [cif_t h]
    refine ⟨V.u0 (Or.inr rfl) ?_, c.keep rfl (fun z => by simpa [tN_uN] using z) (fun _ => rfl)⟩
    have hv := rngI (by decide) (by decide) h
    obtain ⟨x1, x2, x3, x4, x5, x6, x7, x8, x9, x10, x11, x12, x13, x14, x15, x16, x17, x18, x19⟩ := V.1.1
    exact ⟨x1, x2, x3, hv.2, x5, x6, x7, x8, x9, x10, x11, x12, x13, x14, x15, x16, x17, x18, x19⟩
  · rw [cif_f h]; exact ⟨V, c⟩
theorem IV.spBnd (V : IV t) (c : CU t u) (x : Int32) : IV (spBnd t x).2 ∧ CU (spBnd t x).2 u := by
  unfold Jvm.Pilot.CLooseMarksLaw_law_r2924_7cfb4f.spBnd
  by_cases h : -1 ≤ x ∧ x ≤ nI 1000
  · rw [cif_t h]
    by_cases h2 : tN t 0 5 = 0
    · rw [cif_t h2]; exact ⟨V.ui, c.keep (by rw [tI_uI, if_neg (by decide)]) (fun z => z) (fun _ => rfl)⟩
    · rw [cif_f h2]; exact ⟨V, c⟩
  · rw [cif_f h]; exact ⟨V, c⟩
theorem IV.spFeed (V : IV t) (c : CU t u) (x : Int32) (v : Int64) : IV (spFeed t x v).2 ∧ CU (spFeed t x v).2 u := by
  unfold Jvm.Pilot.CLooseMarksLaw_law_r2924_7cfb4f.spFeed
  by_cases h : nI 0 ≤ x ∧ x ≤ nI 15
  · rw [cif_t h]
    by_cases h2 : tN t 0 3 = 200
    · rw [cif_t h2]; exact ⟨V, c⟩
    · rw [cif_f h2]
      have := V.1.1.fed
      have hv := rngI (by decide) (by decide) h
      exact ⟨V.fd (k := x.toNatClampNeg) (v := v) (by omega) (by omega), c.keep rfl (fun z => (fd_0 (t := t) (k := x.toNatClampNeg) (v := v) (i := 4) (by decide)).symm.trans z) (fun _ => rfl)⟩
  · rw [cif_f h]; exact ⟨V, c⟩
theorem IV.spTurnP (V : IV t) (c : CU t u) (x y : Int32) : IV (spTurnP t x y).2 ∧ ∃ u', u' ≤ u + 800 ∧ CU (spTurnP t x y).2 u' := by
  unfold Jvm.Pilot.CLooseMarksLaw_law_r2924_7cfb4f.spTurnP
  by_cases h : inT t x y
  · rw [cif_t h]
    obtain ⟨s, hs, rfl, q, hq, rfl⟩ := h
    have b := V.1.1.S
    have b1 := V.1.1.P (s := s) (by omega)
    rw [nI_clamp (by omega), nI_clamp (by omega)]
    exact ⟨V.turn hs hq, u + 1, by omega, c.turn⟩
  · rw [cif_f h]; exact ⟨V, u, by omega, c⟩
theorem IV.rq {s : Nat} : ∀ n q d t, IV t → s < tN t 0 0 → q + n ≤ tN t 1 s → IV (spRq s n q d t).2
  | 0, q, d, t, V, _, _ => V
  | n + 1, q, d, t, V, hs, hq => by
    unfold spRq
    have e := (SP.turn (t := t) (s := s) (q := q)).1
    exact IV.rq n (q + 1) _ _ (V.turn hs (by omega)) (by rw [e.2]; exact hs) (by rw [e.1]; omega)
theorem IV.rs : ∀ n s d t, IV t → s + n ≤ tN t 0 0 → IV (spRs n s d t).2
  | 0, s, d, t, V, _ => V
  | n + 1, s, d, t, V, hs => by
    unfold spRs
    have e := SP.rq (s := s) (tN t 1 s) 0 d t
    exact IV.rs n (s + 1) _ _ (IV.rq _ _ _ _ V (by omega) (by omega)) (by rw [e.2]; omega)
theorem IV.rr : ∀ n d t, IV t → IV (spRr n d t).2
  | 0, d, t, V => V
  | n + 1, d, t, V => by
    unfold spRr
    exact IV.rr n _ _ (IV.rs _ _ _ _ V (by omega))
theorem IV.spRun (V : IV t) (c : CU t u) (x : Int32) : IV (spRun t x).2 ∧ ∃ u', u' ≤ u + 800 ∧ CU (spRun t x).2 u' := by
  unfold Jvm.Pilot.CLooseMarksLaw_law_r2924_7cfb4f.spRun
  by_cases h : nI 1 ≤ x ∧ x ≤ nI 50
  · rw [cif_t h]
    have hv := rngI (by decide) (by decide) h
    obtain ⟨u', a1, a2, a3⟩ := CU.rr x.toNatClampNeg 0 t u (fun s hs => (V.1.1.P hs).2) V.1.1.S.2 c
    exact ⟨IV.rr _ _ _ V, u', by omega, a3⟩
  · rw [cif_f h]; exact ⟨V, u, by omega, c⟩
theorem mk_I {lo : Nat} : ∀ (n q : Nat) (t : TS), tI (spMk lo n q t) 0 = tI t 0
  | 0, q, t => rfl
  | n + 1, q, t => by
    unfold spMk
    split
    · rfl
    · exact (mk_I n (q + 1) _).trans part_I
theorem IV.spMark (V : IV t) (c : CU t u) : IV (spMark t).2 ∧ CU (spMark t).2 u := by
  refine ⟨V.mark, ?_⟩
  unfold Jvm.Pilot.CLooseMarksLaw_law_r2924_7cfb4f.spMark
  by_cases h1 : tN t 0 5 = 0
  · rw [cif_t h1]
    by_cases h2 : tN t 0 4 = 8
    · rw [cif_t h2]; exact c
    · rw [cif_f h2]
      have e4 : ∀ lo, tN (spMk lo (tN t 1 0) 0 (spMk0 t)) 0 4 = tN t 0 4 + 1 := fun lo => by rw [mk_4, m0_0, if_neg (by decide), if_pos rfl]
      refine c.keep (by rw [mk_I, m0_I (by decide)]) (fun z => ?_) (fun z => ?_)
      · rw [e4] at z; omega
      · rw [e4] at z; omega
  · rw [cif_f h1]; exact c
theorem IV.spGive (V : IV t) (c : CU t u) : IV (spGive t).2 ∧ CU (spGive t).2 u := by
  refine ⟨V.give, ?_⟩
  unfold Jvm.Pilot.CLooseMarksLaw_law_r2924_7cfb4f.spGive
  by_cases h1 : tN t 0 5 = 0
  · rw [cif_t h1]; exact c
  · rw [cif_f h1]; exact c.keep rfl (fun z => by rw [en_0, if_neg (by decide)] at z; exact z) (fun _ => rfl)
theorem IV.spRest (V : IV t) (c : CU t u) (x p0 p1 p2 p3 : Int32) : IV (spRestore t x p0 p1 p2 p3).2 ∧ CU (spRestore t x p0 p1 p2 p3).2 u := by
  unfold spRestore
  by_cases h1 : inN x (tN t 0 4)
  · rw [cif_t h1]
    by_cases h2 : goodW t p0 p1 p2 p3
    · rw [cif_t h2]
      by_cases h3 : tN t 9 x.toNatClampNeg = 1
      · rw [cif_t h3]
        have b := V.1.1.S
        have bm := V.1.1.marks
        obtain ⟨j, hj, rfl⟩ := h1
        rw [nI_clamp (by omega)] at h3 ⊢
        have gp := goodW_pick b h2
        refine ⟨V.restore hj h3 (fun i hi => (gp i hi).2), ?_⟩
        obtain ⟨q1, q2, q3, q4⟩ := pl_N (l := tK t j) 48 0 (spRes0 (spEndIf t) j (fun i => (pick p0 p1 p2 p3 i).toNatClampNeg))
        obtain ⟨s1, s2, s3, s4, s5, s6, s7, s8, s9, s10, s11, s12, s13, s14, s15, s16⟩ := Same.endIf (t := t)
        have e4 : tN (spRes t j (fun i => (pick p0 p1 p2 p3 i).toNatClampNeg)) 0 4 = tN t 0 4 := by
          unfold spRes
          rw [q1]
          unfold spRes0
          rw [tN_uCs, tN_uNs_n (by decide), tN_uLs, tN_uNs_n (by decide), tN_uNs_n (by decide)]
          exact s10
        refine c.keep ?_ (fun z => by rw [e4] at z; exact z) (fun z => by rw [e4] at z; omega)
        show tI (spRes t j _) 0 1 = _
        unfold spRes
        rw [q2]
        show tI (spEndIf t) 0 1 = _
        rw [s12]
      · rw [cif_f h3]; exact ⟨V, c⟩
    · rw [cif_f h2]; exact ⟨V, c⟩
  · rw [cif_f h1]; exact ⟨V, c⟩
end SP96
/-- what holds of the two after n calls -/
def LI (x m n : Nat) (h : AH) : Prop := ∃ t e u, RM m t h ∧ RX x m t e h ∧ Ext t e ∧ IV t ∧ CU t u ∧ u ≤ 800 * n ∧ hN h = m + 24 + 7 * tN t 0 4
theorem XP.xm {x m : Nat} {t : TS} {e : ES} {h h1 : AH} {r : Int32 × TS} {v : Int32} (E : RX x m t e h) (hn : hN h = m + 24 + 7 * tN t 0 4) (q : XP x m h r v h1) : XM x m h r v h1 := by
  obtain ⟨q1, ⟨e', E', H'⟩, f⟩ := q
  refine ⟨q1, ⟨e', E', H'⟩, f.kp, ?_⟩
  have a := E.L
  have a' := E'.L
  have b := a.b
  have b' := a'.b
  have em : tN r.2 0 4 = tN t 0 4 := by
    rcases Nat.lt_trichotomy (tN r.2 0 4) (tN t 0 4) with z | z | z
    · have h1 := a.mk (j := tN r.2 0 4) (by omega)
      have h2 := a'.mk (j := tN r.2 0 4) (by omega)
      rw [f.2.2.1, h1, if_pos z, if_neg (by omega)] at h2; cases h2
    · exact z
    · have h1 := a.mk (j := tN t 0 4) (by omega)
      have h2 := a'.mk (j := tN t 0 4) (by omega)
      rw [f.2.2.1, h1, if_neg (by omega), if_pos z] at h2; cases h2
  rw [f.1, hn, em]
theorem RX.fr {x m : Nat} {t : TS} {e : ES} {h h' : AH} (E : RX x m t e h) (f : Fr m (m + 24) h h') : RX x m t e h' :=
  E.fq (P := fun a => m ≤ a ∧ a < m + 24) ⟨f.1, f.2.1, f.2.2.1, fun a ha => f.2.2.2 a (by omega)⟩ (fun a ha => Or.inr ha)
