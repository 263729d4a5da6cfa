/-! ===== invariants: restore ===== -/
theorem home_dP {t : TS} {g k : Nat} (h1 : 1 ≤ tN t 1 g ∧ tN t 1 g ≤ 4) (h2 : 1 ≤ tN t 1 (g + 1) ∧ tN t 1 (g + 1) ≤ 4) : home t g k / 16 = g := by
  have := Nat.mod_lt k (show tN t 1 g > 0 by omega)
  have := Nat.mod_lt k (show tN t 1 (g + 1) > 0 by omega)
  unfold home
  omega
theorem own_home {t : TS} {c r : Nat} : ownC t c r = home t (c / 16) (tN t 2 r) := rfl
theorem pl1_N {c : Nat} : ∀ (l : List (Nat × Nat)) (t : TS), tN (spPl1 c l t) = tN t ∧ tI (spPl1 c l t) = tI t ∧ tL (spPl1 c l t) = tL t ∧ tK (spPl1 c l t) = tK t
  | [], t => ⟨rfl, rfl, rfl, rfl⟩
  | p :: l, t => by
    unfold spPl1
    have := pl1_N (c := c) l (if p.1 = c then spPut t (ownC t c p.2) p.2 else t)
    split at this
    · next h => rw [if_pos h]; exact this
    · next h => rw [if_neg h]; exact this
theorem pl_N {l : List (Nat × Nat)} : ∀ (n c : Nat) (t : TS), tN (spPl l n c t) = tN t ∧ tI (spPl l n c t) = tI t ∧ tL (spPl l n c t) = tL t ∧ tK (spPl l n c t) = tK t
  | 0, c, t => ⟨rfl, rfl, rfl, rfl⟩
  | n + 1, c, t => by
    unfold spPl
    have a := pl_N (l := l) n (c + 1) (spPl1 c l t)
    have b := pl1_N (c := c) l t
    exact ⟨a.1.trans b.1, a.2.1.trans b.2.1, a.2.2.1.trans b.2.2.1, a.2.2.2.trans b.2.2.2⟩
theorem pl1_mem {c d r : Nat} : ∀ (l : List (Nat × Nat)) (t : TS), r ∈ tC (spPl1 c l t) d → r ∈ tC t d ∨ ∃ p, p ∈ l ∧ p.2 = r ∧ p.1 = c ∧ ownC t c r = d
  | [], t, h => Or.inl h
  | p :: l, t, h => by
    unfold spPl1 at h
    rcases pl1_mem l _ h with z | ⟨p', h1, h2, h3, h4⟩
    · split at z
      · next e =>
        unfold spPut at z
        rw [tC_uC] at z
        split at z
        · next hd =>
          rcases List.mem_append.mp z with y | y
          · left; rw [hd]; exact y
          · rw [List.mem_singleton] at y
            exact Or.inr ⟨p, List.mem_cons_self .., y.symm, e, by rw [y]; exact hd.symm⟩
        · exact Or.inl z
      · exact Or.inl z
    · refine Or.inr ⟨p', List.mem_cons_of_mem _ h1, h2, h3, ?_⟩
      split at h4
      · exact h4
      · exact h4
theorem pl_mem {l : List (Nat × Nat)} {d r : Nat} : ∀ (n c : Nat) (t : TS), r ∈ tC (spPl l n c t) d → r ∈ tC t d ∨ ∃ p, p ∈ l ∧ p.2 = r ∧ ownC t p.1 r = d
  | 0, c, t, h => Or.inl h
  | n + 1, c, t, h => by
    unfold spPl at h
    rcases pl_mem n (c + 1) _ h with z | ⟨p, h1, h2, h3⟩
    · rcases pl1_mem l t z with y | ⟨p, h1, h2, h3, h4⟩
      · exact Or.inl y
      · exact Or.inr ⟨p, h1, h2, by rw [h3]; exact h4⟩
    · refine Or.inr ⟨p, h1, h2, ?_⟩
      unfold ownC at h3 ⊢
      rw [(pl1_N (c := c) l t).1] at h3; exact h3
theorem pl1_len {c d : Nat} : ∀ (l : List (Nat × Nat)) (t : TS), (tC (spPl1 c l t) d).length ≤ (tC t d).length + l.countP (fun p => decide (p.1 = c))
  | [], t => Nat.le_refl _
  | p :: l, t => by
    unfold spPl1
    have h := pl1_len (c := c) (d := d) l (if p.1 = c then spPut t (ownC t c p.2) p.2 else t)
    rw [List.countP_cons]
    by_cases e : p.1 = c
    · rw [if_pos e] at h ⊢
      have h2 : (tC (spPut t (ownC t c p.2) p.2) d).length ≤ (tC t d).length + 1 := by
        unfold spPut
        rw [tC_uC]
        split
        · next e2 => rw [List.length_append, e2]; simp
        · omega
      simp only [e, decide_true, if_true]; omega
    · rw [if_neg e] at h ⊢
      simp only [e, decide_false]
      simp only [Bool.false_eq_true, if_false]; omega
theorem pl_len {l : List (Nat × Nat)} {d : Nat} : ∀ (n c : Nat) (t : TS), (tC (spPl l n c t) d).length ≤ (tC t d).length + l.countP (fun p => decide (c ≤ p.1 ∧ p.1 < c + n))
  | 0, c, t => Nat.le_add_right _ _
  | n + 1, c, t => by
    unfold spPl
    have h1 := pl_len (l := l) (d := d) n (c + 1) (spPl1 c l t)
    have h2 := pl1_len (c := c) (d := d) l t
    have h3 : l.countP (fun p => decide (c ≤ p.1 ∧ p.1 < c + (n + 1))) = l.countP (fun p => decide (p.1 = c)) + l.countP (fun p => decide (c + 1 ≤ p.1 ∧ p.1 < c + 1 + n)) := by
      clear h1 h2
      induction l with
      | nil => rfl
      | cons p l ih =>
        rw [List.countP_cons, List.countP_cons, List.countP_cons, ih]
        by_cases e : p.1 = c
        · have a : c ≤ p.1 ∧ p.1 < c + (n + 1) := by omega
          have b : ¬ (c + 1 ≤ p.1 ∧ p.1 < c + 1 + n) := by omega
          rw [if_pos (decide_eq_true a), if_pos (decide_eq_true e), if_neg (fun z => b (of_decide_eq_true z))]; omega
        · by_cases e2 : c + 1 ≤ p.1 ∧ p.1 < c + 1 + n
          · have a : c ≤ p.1 ∧ p.1 < c + (n + 1) := by omega
            rw [if_pos (decide_eq_true a), if_neg (fun z => e (of_decide_eq_true z)), if_pos (decide_eq_true e2)]; omega
          · have a : ¬ (c ≤ p.1 ∧ p.1 < c + (n + 1)) := by omega
            rw [if_neg (fun z => a (of_decide_eq_true z)), if_neg (fun z => e (of_decide_eq_true z)), if_neg (fun z => e2 (of_decide_eq_true z))]; rfl
    omega
theorem pl1_fk {c g k cs : Nat} : ∀ (l : List (Nat × Nat)) (t : TS), (1 ≤ tN t 1 g ∧ tN t 1 g ≤ 4) → (1 ≤ tN t 1 (g + 1) ∧ tN t 1 (g + 1) ≤ 4) → (1 ≤ tN t 1 (c / 16) ∧ tN t 1 (c / 16) ≤ 4) → (1 ≤ tN t 1 (c / 16 + 1) ∧ tN t 1 (c / 16 + 1) ≤ 4) → (∀ p, p ∈ l → p.1 / 16 = g → tN t 2 p.2 = k → p.1 = cs) → fk t k (tC (spPl1 c l t) (home t g k)) = fk t k (tC t (home t g k)) ++ (if c = cs then kk t g k l else [])
  | [], t, _, _, _, _, _ => by
    show fk t k (tC t (home t g k)) = _
    split <;> simp [kk]
  | p :: l, t, hg, hg1, hc, hc1, hp => by
    unfold spPl1
    have ekk : kk t g k (p :: l) = kk t g k [p] ++ kk t g k l := by rw [← kk_app]; rfl
    by_cases e : p.1 = c
    · rw [if_pos e]
      have ih := pl1_fk (c := c) (g := g) (k := k) (cs := cs) l (spPut t (ownC t c p.2) p.2) hg hg1 hc hc1 (fun p' h1 h2 h3 => hp p' (List.mem_cons_of_mem _ h1) h2 h3)
      have ih' : fk t k (tC (spPl1 c l (spPut t (ownC t c p.2) p.2)) (home t g k)) = fk t k (tC (spPut t (ownC t c p.2) p.2) (home t g k)) ++ (if c = cs then kk t g k l else []) := ih
      rw [ih']
      unfold spPut
      rw [tC_uC, own_home]
      by_cases hk : tN t 2 p.2 = k
      · by_cases hcg : c / 16 = g
        · have hcs : c = cs := by rw [← e]; exact hp p (List.mem_cons_self ..) (by rw [e]; exact hcg) hk
          rw [if_pos hcs, if_pos hcs, hcg, hk, if_pos rfl, fk_app, fk_cons_s hk, fk_nil, ekk, kk_s ⟨by rw [e]; exact hcg, hk⟩, List.append_assoc]
        · rw [if_neg (fun z => hcg (by
            have a := home_dP (k := k) hg hg1
            have b := home_dP (k := tN t 2 p.2) hc hc1
            rw [← z, a] at b; exact b.symm)), ekk, kk_n (fun z => hcg (by rw [← e]; exact z.1)), List.nil_append]
      · rw [ekk, kk_n (fun z => hk z.2), List.nil_append]
        congr 1
        split
        · next h => rw [fk_app, fk_cons_n hk, fk_nil, List.append_nil, ← h]
        · rfl
    · rw [if_neg e]
      have ih := pl1_fk (c := c) (g := g) (k := k) (cs := cs) l t hg hg1 hc hc1 (fun p' h1 h2 h3 => hp p' (List.mem_cons_of_mem _ h1) h2 h3)
      rw [ih]
      congr 1
      by_cases hcs : c = cs
      · rw [if_pos hcs, if_pos hcs, ekk, kk_n (fun z => e ((hp p (List.mem_cons_self ..) z.1 z.2).trans hcs.symm)), List.nil_append]
      · rw [if_neg hcs, if_neg hcs]
theorem pl_fk {g k cs : Nat} {l : List (Nat × Nat)} : ∀ (n c : Nat) (t : TS), (∀ s, s < 4 → 1 ≤ tN t 1 s ∧ tN t 1 s ≤ 4) → g + 1 < 4 → c + n ≤ 48 → (∀ p, p ∈ l → p.1 / 16 = g → tN t 2 p.2 = k → p.1 = cs) → fk t k (tC (spPl l n c t) (home t g k)) = fk t k (tC t (home t g k)) ++ (if c ≤ cs ∧ cs < c + n then kk t g k l else [])
  | 0, c, t, _, _, _, _ => by
    rw [if_neg (by omega), List.append_nil]; rfl
  | n + 1, c, t, hP, hg, hn, hp => by
    unfold spPl
    have e1 := (pl1_N (c := c) l t).1
    have ih := pl_fk (g := g) (k := k) (cs := cs) (l := l) n (c + 1) (spPl1 c l t) (by rw [e1]; exact hP) hg (by omega) (by rw [e1]; exact hp)
    have eh : home (spPl1 c l t) g k = home t g k := home_cg (by rw [e1])
    have ef : ∀ x, fk (spPl1 c l t) k x = fk t k x := fun x => fk_cg (by rw [e1])
    have ek : kk (spPl1 c l t) g k l = kk t g k l := kk_cg (by rw [e1])
    rw [eh, ef, ef, ek, pl1_fk (cs := cs) l t (hP g (by omega)) (hP (g + 1) hg) (hP (c / 16) (by omega)) (hP (c / 16 + 1) (by omega)) hp] at ih
    rw [ih, List.append_assoc]
    congr 1
    by_cases h : c = cs
    · rw [if_pos h, if_neg (by omega), List.append_nil, if_pos (by omega)]
    · rw [if_neg h, List.nil_append]
      by_cases h2 : c + 1 ≤ cs ∧ cs < c + 1 + n
      · rw [if_pos h2, if_pos (by omega)]
      · rw [if_neg h2, if_neg (by omega)]
theorem IV.endIf {t : TS} (V : IV t) : IV (spEndIf t) ∧ tN (spEndIf t) 0 5 = 0 := by
  unfold spEndIf
  by_cases hu : tN t 0 5 = 0
  · rw [if_pos hu]; exact ⟨V, hu⟩
  · rw [if_neg hu]
    obtain ⟨a, b⟩ := V.1.end (how := 2) (show tN t 0 5 = (tN t 0 5 - 1) + 1 by omega) (by decide) (by decide) (fun z => absurd z (by decide))
    exact ⟨⟨a, b _⟩, by rw [en_0, if_pos rfl]⟩
theorem IV.res {t : TS} {j : Nat} {w : Nat → Nat} (V : IV t) (hu : tN t 0 5 = 0) (hj : j < tN t 0 4) (h9 : tN t 9 j = 1) (hw : ∀ i, i < tN t 0 0 → 1 ≤ w i ∧ w i ≤ 4) : IV (spPl (tK t j) 48 0 (spRes0 t j w)) := by
  have B := V.1.1
  have b := B.S
  obtain ⟨a1, a2, a3, a4, a5⟩ := V.1.2.2.1
  have hz := a3 hu
  obtain ⟨w1, w2, w3, w4⟩ := V.1.2.2.2.2 j hj h9
  have B0 : TB (spRes0 t j w) := B.res0 (fun c => (hz c).1) hw
  obtain ⟨p1, p2, p3, p4⟩ := pl_N (l := tK t j) 48 0 (spRes0 t j w)
  have ek : ∀ k, k ≠ 1 → k ≠ 3 → k ≠ 8 → tN (spRes0 t j w) k = tN t k := fun k h1 h3 h8 => by
    unfold spRes0
    rw [tN_uCs, tN_uNs_n h8, tN_uLs, tN_uNs_n h3, tN_uNs_n h1]
  have e3 : ∀ i, i < 64 → tN (spRes0 t j w) 3 i = tN t 11 (64 * j + i) := fun i hi => by
    unfold spRes0
    rw [tN_uCs, tN_uNs_n (by decide), tN_uLs, tN_uNs_s, if_pos hi]
  have eL1 : ∀ i, i < 64 → tL (spRes0 t j w) 1 i = tL t 2 (64 * j + i) := fun i hi => by
    unfold spRes0
    rw [tL_uCs, tL_uNs, tL_uLs_s, if_pos hi]
  have eLn : ∀ k, k ≠ 1 → tL (spRes0 t j w) k = tL t k := fun k h => by
    unfold spRes0
    rw [tL_uCs, tL_uNs, tL_uLs_n h, tL_uNs, tL_uNs]
  have eC : ∀ c, tC (spRes0 t j w) c = [] := fun c => rfl
  have eK : tK (spRes0 t j w) = tK t := rfl
  generalize hR : spPl (tK t j) 48 0 (spRes0 t j w) = R at p1 p2 p3 p4
  have q0 : tN R 0 = tN t 0 := by rw [p1]; exact ek 0 (by decide) (by decide) (by decide)
  have q1 : tN R 1 = tN (spRes0 t j w) 1 := by rw [p1]
  have q2 : tN R 2 = tN t 2 := by rw [p1]; exact ek 2 (by decide) (by decide) (by decide)
  have qL0 : tL R 0 = tL t 0 := by rw [p3]; exact eLn 0 (by decide)
  have hP : ∀ s, s < 4 → 1 ≤ tN (spRes0 t j w) 1 s ∧ tN (spRes0 t j w) 1 s ≤ 4 := fun s hs => B0.P hs
  have hKc : ∀ p, p ∈ tK t j → ∃ g, g + 1 < tN t 0 0 ∧ p.1 / 16 = g ∧ p.1 = 16 * g + 4 * (tN t 2 p.2 % tN t 10 (4 * j + g)) + tN t 2 p.2 % tN t 10 (4 * j + (g + 1)) := fun p hp => by
    obtain ⟨g, hg, e⟩ := w1 p hp
    have := w2 g (by omega)
    have := w2 (g + 1) hg
    have := Nat.mod_lt (tN t 2 p.2) (show tN t 10 (4 * j + g) > 0 by omega)
    have := Nat.mod_lt (tN t 2 p.2) (show tN t 10 (4 * j + (g + 1)) > 0 by omega)
    exact ⟨g, hg, by omega, e⟩
  have BR : TB R := by
    obtain ⟨x1, x2, x3, x4, x5, x6, x7, x8, x9, x10, x11, x12, x13, x14, x15, x16, x17, x18, x19⟩ := B0
    have hl : ∀ d, (tC R d).length ≤ 200 := fun d => by
      have h := pl_len (l := tK t j) (d := d) 48 0 (spRes0 t j w)
      rw [hR, eC] at h
      have h2 := List.countP_le_length (l := tK t j) (p := fun p => decide (0 ≤ p.1 ∧ p.1 < 0 + 48))
      have := B.klen j
      simp only [List.length_nil] at h
      omega
    refine ⟨?_, ?_, ?_, ?_, ?_, ?_, ?_, ?_, ?_, ?_, ?_, ?_, ?_, ?_, ?_, hl, ?_, ?_, ?_⟩
    · rw [p1]; exact x1
    · rw [p1]; exact x2
    · rw [p1]; exact x3
    · rw [p1]; exact x4
    · rw [p1]; exact x5
    · rw [p1]; exact x6
    · rw [p1]; exact x7
    · rw [p1]; exact x8
    · rw [p1]; exact x9
    · intro c
      rw [p1, ek 4 (by decide) (by decide) (by decide), (hz c).1]; omega
    · rw [p1]; exact x11
    · rw [p1]; exact x12
    · rw [p1]; exact x13
    · rw [p1]; exact x14
    · rw [p1]; exact x15
    · rw [p4]; exact x17
    · intro c r hr
      rw [← hR] at hr
      rcases pl_mem 48 0 _ hr with z | ⟨p, h1, h2, h3⟩
      · rw [eC] at z; simp at z
      · rw [q0, ← h2]; exact (B.krow h1).2
    · rw [p4, p1]; exact x19
  have IR : IC R := by
    refine ⟨fun g k hg hk => ?_, fun c r hr => ?_, fun k hk => ?_, fun s k hs hk => ?_⟩
    · rw [q0] at hg
      have h := pl_fk (g := g) (k := k) (cs := 16 * g + 4 * (k % tN t 10 (4 * j + g)) + k % tN t 10 (4 * j + (g + 1))) (l := tK t j) 48 0 (spRes0 t j w) hP (by omega) (by omega) (fun p hp h1 h2 => by
        rw [ek 2 (by decide) (by decide) (by decide)] at h2
        obtain ⟨g', hg', e1, e2⟩ := hKc p hp
        have : g' = g := by omega
        subst this
        rw [h2] at e2; exact e2)
      rw [hR, eC] at h
      have v1 := w2 g (by omega)
      have v2 := w2 (g + 1) hg
      have m1 := Nat.mod_lt k (show tN t 10 (4 * j + g) > 0 by omega)
      have m2 := Nat.mod_lt k (show tN t 10 (4 * j + (g + 1)) > 0 by omega)
      rw [if_pos (by omega), fk_nil, List.nil_append, kk_cg (ek 2 (by decide) (by decide) (by decide)), fk_cg (ek 2 (by decide) (by decide) (by decide))] at h
      rw [RLk_cg q2 (by rw [q0]), fk_cg q2, home_cg q1, h, p1, e3 _ (by omega), e3 _ (by omega)]
      exact w3 g k hg hk
    · rw [← hR] at hr
      rcases pl_mem 48 0 _ hr with z | ⟨p, h1, h2, h3⟩
      · rw [eC] at z; simp at z
      · obtain ⟨g, hg, e1, e2⟩ := hKc p h1
        refine ⟨g, by rw [q0]; exact hg, ?_⟩
        rw [← h3, own_home, e1, home_cg q1, q2, ek 2 (by decide) (by decide) (by decide)]
    · rw [cnt_cg q2, q0, p1, e3 _ (by omega)]
      have := (w4 0 k (by omega) hk).2
      rw [show 16 * 0 + k = k by omega] at this; exact this
    · rw [q0] at hs
      rw [inpS_cg q2 qL0, q0, p1, p3, e3 _ (by omega), eL1 _ (by omega)]
      exact (w4 s k hs hk).1
  have X : IX R := V.1.ix.cgr BR IR q0 q2 (by rw [p1]; exact ek 9 (by decide) (by decide) (by decide)) (by rw [p1]; exact ek 10 (by decide) (by decide) (by decide)) (by rw [p1]; exact ek 11 (by decide) (by decide) (by decide)) (by rw [p1]; exact ek 12 (by decide) (by decide) (by decide)) (by rw [p4]; rfl) qL0 (by rw [p3]; exact eLn 2 (by decide))
  have r4 : tN R 4 = tN t 4 := by rw [p1]; exact ek 4 (by decide) (by decide) (by decide)
  have r5 : tN R 5 = tN t 5 := by rw [p1]; exact ek 5 (by decide) (by decide) (by decide)
  have r6 : tN R 6 = tN t 6 := by rw [p1]; exact ek 6 (by decide) (by decide) (by decide)
  have r7 : tN R 7 = tN t 7 := by rw [p1]; exact ek 7 (by decide) (by decide) (by decide)
  refine ⟨⟨BR, IR, ⟨by rw [r4, r5, q0]; exact a1, by rw [r6, r7, q0]; exact a2, by rw [q0, r4, r5, r6, r7]; exact a3, X.2.2.1, X.2.2.2.1⟩, fun b hb => by rw [q0] at hb; omega, X.2.2.2.2⟩, IQ.z (fun i => by rw [r5]; exact (hz i).2.1) (fun i => by rw [r7]; exact (hz i).2.2.2)⟩
