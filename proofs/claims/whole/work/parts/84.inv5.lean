/-! ===== invariants: barriers go out, and come ===== -/
theorem br_n {t : TS} {j c lo k : Nat} (h4 : k ≠ 4) (h12 : k ≠ 12) : tN (spBar t j c lo) k = tN t k := by unfold spBar; rw [tN_uN_n h12, tN_uN_n h4]
theorem br_4 {t : TS} {j c lo : Nat} : tN (spBar t j c lo) 4 = va_up (tN t 4) c (if lo = 0 then (tC t c).length + 1 else 1) := by unfold spBar; rw [tN_uN_n (by decide), tN_uN_f]
theorem br_12 {t : TS} {j c lo b i : Nat} (hb : b ≠ j) (hc : c < 48) (hi : i < 48) : tN (spBar t j c lo) 12 (48 * b + i) = tN t 12 (48 * b + i) := by unfold spBar; rw [tN_uN, if_neg (by omega), tN_uN_n (by decide)]
/-- while barriers go out of task q of stage s, before channel d -/
def OutI (t : TS) (j s q d : Nat) : Prop := tN t 6 (4 * s + q) ≠ 0 ∧ (∀ k, k < 16 → k % tN t 1 s = q → tN t 11 (64 * j + (16 * s + k)) = tN t 3 (16 * s + k)) ∧ ∀ x, d ≤ x → x < tN t 1 (s + 1) → tN t 4 (16 * s + 4 * q + x) = 0 ∧ tN t 5 (16 * s + 4 * q + x) = 0
theorem IB.barO {t t' : TS} {j s q d bb : Nat} {L : List (Nat × Nat)} (V : IB t) (hu : tN t 0 5 = j + 1) (hs : s + 1 < tN t 0 0) (hq : q < tN t 1 s) (hd : d < tN t 1 (s + 1)) (O : OutI t j s q d)
    (hcs : (bb = 1 ∧ L = (tC t (16 * s + 4 * q + d)).map (fun r => (16 * s + 4 * q + d, r))) ∨ (bb = (tC t (16 * s + 4 * q + d)).length + 1 ∧ 1 < bb ∧ L = []))
    (ek : ∀ k, k ≠ 4 → k ≠ 12 → tN t' k = tN t k) (e4 : tN t' 4 = va_up (tN t 4) (16 * s + 4 * q + d) bb) (e12 : ∀ b, b ≠ j → ∀ i, i < 48 → tN t' 12 (48 * b + i) = tN t 12 (48 * b + i)) (eC : tC t' = tC t) (eL : tL t' = tL t) (eK : tK t' j = tK t j ++ L) (eK' : ∀ b, b ≠ j → tK t' b = tK t b) (B' : TB t') : IB t' ∧ OutI t' j s q (d + 1) := by
  have B := V.1
  have I := V.2.1
  have b := B.S
  have bq := B.P (s := s) (by omega)
  have bd := B.P (s := s + 1) (by omega)
  obtain ⟨o1, o2, o3⟩ := O
  have od := o3 d (Nat.le_refl _) hd
  have e0 := ek 0 (by decide) (by decide)
  have U := (V.2.2.2.1 j hu).bar (t' := t') (bb := bb) (L := L) B I hs hq hd o1 o2 od.1 od.2 hcs e0 (ek 1 (by decide) (by decide)) (ek 2 (by decide) (by decide)) (ek 3 (by decide) (by decide)) e4 (ek 5 (by decide) (by decide)) (ek 6 (by decide) (by decide)) (ek 10 (by decide) (by decide)) (ek 11 (by decide) (by decide)) eC (by rw [eL]) (by rw [eL]) eK
  refine ⟨V.mk hu (by rw [e0]; exact hu) (by rw [e0]) (by rw [e0]) (by rw [e0]) (ek 2 (by decide) (by decide)) (ek 9 (by decide) (by decide)) (ek 10 (by decide) (by decide)) (by rw [eL]) eK' (fun b hb i hi => by rw [ek 11 (by decide) (by decide), eL]; exact ⟨rfl, rfl⟩) e12 B' (I.cgr (by rw [e0]) (by rw [e0]) (ek 1 (by decide) (by decide)) (ek 2 (by decide) (by decide)) (ek 3 (by decide) (by decide)) eC (by rw [eL]) (by rw [eL])) (fun c hc => ?_) (fun i hi => ?_) U, ?_, ?_, ?_⟩
  · rw [ek 5 (by decide) (by decide)]
    by_cases h : c = 16 * s + 4 * q + d
    · rw [h]; exact od.2
    · rw [e4, up_ne h] at hc; exact (V.2.2.1.1 c hc).1
  · rw [ek 7 (by decide) (by decide)] at hi
    rw [ek 6 (by decide) (by decide)]
    exact (V.2.2.1.2.1 i hi).1
  · rw [ek 6 (by decide) (by decide)]; exact o1
  · rw [ek 1 (by decide) (by decide), ek 11 (by decide) (by decide), ek 3 (by decide) (by decide)]; exact o2
  · intro x hx hx4
    rw [ek 1 (by decide) (by decide)] at hx4
    rw [ek 5 (by decide) (by decide), e4, up_ne (by omega)]
    exact o3 x (by omega) hx4
/-- all channels of a task -/
theorem IB.to {j s q lo : Nat} (hlo : lo ≤ 1) : ∀ (n d : Nat) (t : TS), IB t → s + 1 < tN t 0 0 → q < tN t 1 s → d + n = tN t 1 (s + 1) → (tN t 0 5 = 0 ∨ (tN t 0 5 = j + 1 ∧ OutI t j s q d)) → IB (spTo j s q lo n d t) ∧ (tN (spTo j s q lo n d t) 0 5 = 0 ∨ (tN (spTo j s q lo n d t) 0 5 = tN t 0 5 ∧ tN (spTo j s q lo n d t) 5 = tN t 5 ∧ tN (spTo j s q lo n d t) 6 = tN t 6 ∧ tN (spTo j s q lo n d t) 7 = tN t 7))
  | 0, d, t, V, _, _, _, _ => ⟨V, Or.inr ⟨rfl, rfl, rfl, rfl⟩⟩
  | n + 1, d, t, V, hs, hq, hn, ho => by
    have B := V.1
    have b := B.S
    have bq := B.P (s := s) (by omega)
    have bd := B.P (s := s + 1) (by omega)
    unfold spTo
    by_cases h0 : tN t 0 5 = 0
    · rw [if_pos h0]; exact ⟨V, Or.inr ⟨rfl, rfl, rfl, rfl⟩⟩
    rw [if_neg h0]
    obtain ⟨hu, O⟩ := ho.resolve_left h0
    generalize hc : 16 * s + 4 * q + d = c
    have fin : ∀ t', IB t' ∧ OutI t' j s q (d + 1) → tN t' 0 = tN t 0 → tN t' 1 = tN t 1 → tN t' 5 = tN t 5 → tN t' 6 = tN t 6 → tN t' 7 = tN t 7 → IB (spTo j s q lo n (d + 1) t') ∧ (tN (spTo j s q lo n (d + 1) t') 0 5 = 0 ∨ (tN (spTo j s q lo n (d + 1) t') 0 5 = tN t 0 5 ∧ tN (spTo j s q lo n (d + 1) t') 5 = tN t 5 ∧ tN (spTo j s q lo n (d + 1) t') 6 = tN t 6 ∧ tN (spTo j s q lo n (d + 1) t') 7 = tN t 7)) := fun t' ⟨V', O'⟩ e0 e1 e5 e6 e7 => by
      have := IB.to hlo n (d + 1) t' V' (by rw [e0]; exact hs) (by rw [e1]; exact hq) (by rw [e1]; omega) (Or.inr ⟨by rw [e0]; exact hu, O'⟩)
      rw [e0, e5, e6, e7] at this
      exact this
    by_cases hl : lo = 0
    · rw [if_pos hl]
      subst hl
      refine fin _ (V.barO (bb := (tC t c).length + 1) (L := []) hu hs hq (by omega) O ?_ (fun k h4 h12 => br_n h4 h12) ?_ (fun b hb i hi => br_12 hb (by omega) hi) rfl rfl (by rw [List.append_nil]; rfl) (fun b _ => rfl) B.barr) (br_n (by decide) (by decide)) (br_n (by decide) (by decide)) (br_n (by decide) (by decide)) (br_n (by decide) (by decide)) (br_n (by decide) (by decide))
      · rw [hc]
        by_cases hlen : (tC t c).length = 0
        · left; rw [List.length_eq_zero_iff.mp hlen]; exact ⟨rfl, rfl⟩
        · right; exact ⟨rfl, by omega, rfl⟩
      · rw [br_4, hc, if_pos rfl]
    · rw [if_neg hl]
      have hub : tN (spBar t j c lo) 0 5 = j + 1 := by rw [br_n (by decide) (by decide)]; exact hu
      by_cases ok : okK (tK (spBar t j c lo) j).length (tN (spBar t j c lo) 0 2) (tC t c)
      · rw [keepL_ok _ _ hub ok]
        have e : ∀ k, tN (uK (spBar t j c lo) j (tK (spBar t j c lo) j ++ (tC t c).map (fun r => (c, r)))) k = tN (spBar t j c lo) k := fun k => rfl
        have BB : TB (uK (spBar t j c lo) j (tK (spBar t j c lo) j ++ (tC t c).map (fun r => (c, r)))) := by
          have := TB.keepL (c := c) (by omega) (tC t c) (spBar t j c lo) B.barr (fun r hr => by rw [br_n (by decide) (by decide)]; exact B.row hr)
          rwa [keepL_ok _ _ hub ok] at this
        refine fin _ (V.barO (bb := 1) (L := (tC t c).map (fun r => (c, r))) hu hs hq (by omega) O ?_ (fun k h4 h12 => by rw [e]; exact br_n h4 h12) ?_ (fun b hb i hi => by rw [e]; exact br_12 hb (by omega) hi) rfl rfl ?_ (fun b hb => ?_) BB) (by rw [e]; exact br_n (by decide) (by decide)) (by rw [e]; exact br_n (by decide) (by decide)) (by rw [e]; exact br_n (by decide) (by decide)) (by rw [e]; exact br_n (by decide) (by decide)) (by rw [e]; exact br_n (by decide) (by decide))
        · left; rw [hc]; exact ⟨rfl, rfl⟩
        · rw [e, br_4, if_neg hl, hc]
        · rw [tK_uK, if_pos rfl]; rfl
        · rw [tK_uK, if_neg hb]; rfl
      · rw [keepL_no _ _ hub ok]
        have e : ∀ k l, tN (uK (spBar t j c lo) j l) k = tN (spBar t j c lo) k := fun k l => rfl
        generalize hl' : tK (spBar t j c lo) j ++ ((tC t c).take (tN (spBar t j c lo) 0 2 - (tK (spBar t j c lo) j).length)).map (fun r => (c, r)) = l'
        have BB : TB (uK (spBar t j c lo) j l') := by
          have h1 : (tK (spBar t j c lo) j) = tK t j := rfl
          have h2 : tN (spBar t j c lo) 0 2 = tN t 0 2 := by rw [br_n (by decide) (by decide)]
          refine B.barr.pK ?_ (fun p hp => ?_)
          · rw [← hl', h1, h2, List.length_append, List.length_map, List.length_take]
            have := B.klen j; have := B.lim; omega
          · rw [← hl'] at hp
            rcases List.mem_append.mp hp with z | z
            · have := B.krow (j := j) (q := p) z
              rw [br_n (by decide) (by decide)]; exact this
            · obtain ⟨r, hr, e'⟩ := List.mem_map.mp z
              rw [← e', br_n (by decide) (by decide)]
              exact ⟨by show c < 48; omega, B.row (List.mem_of_mem_take hr)⟩
        have X : IX (uK (spBar t j c lo) j l') := V.ix.mk hu (by rw [e]; exact hub) (by rw [e, br_n (by decide) (by decide)]) (by rw [e, br_n (by decide) (by decide)]) (by rw [e, br_n (by decide) (by decide)]) (by rw [e, br_n (by decide) (by decide)]) (by rw [e, br_n (by decide) (by decide)]) (by rw [e, br_n (by decide) (by decide)]) rfl (fun b hb => by rw [tK_uK, if_neg hb]; rfl) (fun b hb i hi => by rw [e, br_n (by decide) (by decide)]; exact ⟨rfl, rfl⟩) (fun b hb i hi => by rw [e]; exact br_12 hb (by omega) hi) BB (V.2.1.same Same.rf)
        obtain ⟨E1, _⟩ := X.end (how := 2) (by rw [e]; exact hub) (by decide) (by decide) (fun z => absurd z (by decide))
        have hz : tN (spEnd (uK (spBar t j c lo) j l') 2) 0 5 = 0 := by rw [en_0, if_pos rfl]
        have eS : tN (spEnd (uK (spBar t j c lo) j l') 2) 0 0 = tN t 0 0 := by rw [en_0, if_neg (by decide), e, br_n (by decide) (by decide)]
        have eP : tN (spEnd (uK (spBar t j c lo) j l') 2) 1 = tN t 1 := by rw [en_n (by decide) (by decide) (by decide) (by decide) (by decide) (by decide), e, br_n (by decide) (by decide)]
        have := IB.to (j := j) hlo n (d + 1) _ E1 (by rw [eS]; exact hs) (by rw [eP]; exact hq) (by rw [eP]; omega) (Or.inl hz)
        rw [hz] at this
        refine ⟨this.1, Or.inl ?_⟩
        rcases this.2 with z | z
        · exact z
        · exact z.1
/-- a task takes part -/
theorem IB.part {t : TS} {j s q lo : Nat} (V : IB t) (hu : tN t 0 5 = j + 1) (hs : s < tN t 0 0) (hq : q < tN t 1 s) (h6 : tN t 6 (4 * s + q) = 0) (hlo : lo ≤ 1) : IB (spPart t s q lo) ∧ (tN (spPart t s q lo) 0 5 = 0 ∨ (tN (spPart t s q lo) 0 5 = tN t 0 5 ∧ tN (spPart t s q lo) 5 = tN t 5 ∧ (∀ i, tN (spPart t s q lo) 6 i = if i = 4 * s + q then 1 else tN t 6 i) ∧ ∀ i, tN (spPart t s q lo) 7 i = if i = 4 * s + q then 0 else tN t 7 i)) := by
  have Vi := V.in hu hs hq h6
  have B := V.1
  have b := B.S
  have e0 : tN (spIn t j s q) 0 = tN t 0 := in_n (by decide) (by decide) (by decide)
  have e1 : tN (spIn t j s q) 1 = tN t 1 := in_n (by decide) (by decide) (by decide)
  have e5 : tN (spIn t j s q) 5 = tN t 5 := in_n (by decide) (by decide) (by decide)
  have eu : tN t 0 5 - 1 = j := by omega
  unfold spPart
  rw [eu]
  show IB (if s + 1 < tN t 0 0 then spTo j s q lo (tN t 1 (s + 1)) 0 (spIn t j s q) else spIn t j s q) ∧ _
  by_cases h : s + 1 < tN t 0 0
  · simp only [if_pos h]
    have O : OutI (spIn t j s q) j s q 0 := by
      refine ⟨by rw [in_6, if_pos rfl]; decide, fun k hk hkq => ?_, fun x hx hx4 => ?_⟩
      · rw [in_11 hk, in_n (k := 3) (by decide) (by decide) (by decide)]
        rw [e1] at hkq
        rw [if_pos ⟨rfl, hkq⟩]
      · rw [in_n (k := 4) (by decide) (by decide) (by decide), e5]
        have := V.2.2.2.1 j hu
        rw [e1] at hx4
        exact this.2.2.2.2.2 s q x h hq hx4 h6
    have R := IB.to (j := j) (s := s) (q := q) hlo (tN t 1 (s + 1)) 0 _ Vi (by rw [e0]; exact h) (by rw [e1]; exact hq) (by rw [e1]; omega) (Or.inr ⟨by rw [e0]; exact hu, O⟩)
    refine ⟨R.1, R.2.imp (fun z => z) (fun z => ⟨?_, ?_, fun i => ?_, fun i => ?_⟩)⟩
    · exact z.1.trans (by rw [e0])
    · exact z.2.1.trans e5
    · exact (congrFun z.2.2.1 i).trans in_6
    · exact (congrFun z.2.2.2 i).trans in_7
  · simp only [if_neg h]
    exact ⟨Vi, Or.inr ⟨by show tN (spIn t j s q) 0 5 = _; rw [e0], e5, fun i => in_6, fun i => in_7⟩⟩
theorem IQ.wk {t : TS} {no no' : Nat → Nat → Prop} (Q : IQ t no) (h : ∀ a b, no a b → no' a b) : IQ t no' :=
  ⟨fun s f q h1 h2 h3 h4 => Q.1 s f q h1 h2 h3 (fun z => h4 (h _ _ z)), fun s q h1 h2 h3 h4 => Q.2 s q h1 h2 h3 (fun z => h4 (h _ _ z))⟩
theorem allC_cg {t t' : TS} (h1 : tN t' 1 = tN t 1) (h5 : tN t' 5 = tN t 5) {s q : Nat} : allC t' s q ↔ allC t s q := by unfold allC; rw [h1, h5]
theorem IB.z57 {t : TS} (V : IB t) (h : tN t 0 5 = 0) (no : Nat → Nat → Prop) : IQ t no := IQ.z (fun i => (V.2.2.1.2.2.1 h i).2.1) (fun i => (V.2.2.1.2.2.1 h i).2.2.2)
theorem IB.ui {t : TS} (V : IB t) {j i : Nat} {v : Int32} : IB (uI t j i v) :=
  ⟨V.1, V.2.1.cgr rfl rfl rfl rfl rfl rfl rfl rfl, V.2.2.1, fun b hb => (V.2.2.2.1 b hb).cgr rfl rfl rfl rfl rfl rfl rfl rfl rfl rfl rfl rfl rfl rfl, fun b hb h1 => (V.2.2.2.2 b hb h1).cgr rfl rfl V.1.S.2 rfl (fun _ _ => rfl) rfl (fun _ _ => ⟨rfl, rfl⟩) rfl⟩
theorem IV.ui {t : TS} (V : IV t) {j i : Nat} {v : Int32} : IV (uI t j i v) := ⟨V.1.ui, V.2⟩
/-- a task takes part: who waits -/
theorem IV.part {t : TS} {j s q lo : Nat} (V : IB t) (Q : IQ t (fun a b => a = s ∧ b = q)) (hu : tN t 0 5 = j + 1) (hs : s < tN t 0 0) (hq : q < tN t 1 s) (h6 : tN t 6 (4 * s + q) = 0) (hlo : lo ≤ 1) : IV (spPart t s q lo) := by
  obtain ⟨V', h⟩ := V.part hu hs hq h6 hlo
  refine ⟨V', ?_⟩
  rcases h with h | ⟨h05, h5, h6', h7'⟩
  · exact V'.z57 h _
  · obtain ⟨s1, s2, s3, s4, s5, s6', s7, s8, s9, s10, s11, s12, s13, s14, s15, s16⟩ := Same.part (t := t) (s := s) (q := q) (lo := lo)
    have b := V.1.S
    have bq := V.1.P (s := s) (by omega)
    refine ⟨fun a f p ha hf hp _ hc ht => ?_, fun a p h1 ha hp _ hw => ?_⟩
    · rw [s6'] at ha
      rw [s1] at hf hp
      have bp := V.1.P (s := a + 1) (by omega)
      rw [h6'] at ht
      rw [h7']
      rw [h5] at hc
      by_cases e : 4 * (a + 1) + p = 4 * s + q
      · rw [if_pos e] at ht; omega
      · rw [if_neg e] at ht ⊢
        exact Q.1 a f p ha hf hp (fun z => e (by rw [z.1, z.2])) hc ht
    · rw [s6'] at ha
      rw [s1] at hp
      have bp := V.1.P (s := a) (by omega)
      rw [h7'] at hw
      by_cases e : 4 * a + p = 4 * s + q
      · rw [if_pos e] at hw; exact absurd rfl hw
      · rw [if_neg e] at hw
        rw [allC_cg s1 h5]
        exact Q.2 a p h1 ha hp (fun z => e (by rw [z.1, z.2])) hw
/-- the barrier has come -/
theorem IB.come {t : TS} {j c : Nat} (V : IB t) (hu : tN t 0 5 = j + 1) (h4 : tN t 4 c = 1) (hc : c < 48) : IB (uN (uN t 5 c 1) 4 c 0) := by
  have B := V.1
  have I := V.2.1
  have b := B.S
  obtain ⟨u1, u2, u3, u4, u5, u6⟩ := V.2.2.2.1 j hu
  have ek : ∀ k, k ≠ 4 → k ≠ 5 → tN (uN (uN t 5 c 1) 4 c 0) k = tN t k := fun k h4 h5 => by rw [tN_uN_n h4, tN_uN_n h5]
  have e4 : tN (uN (uN t 5 c 1) 4 c 0) 4 = va_up (tN t 4) c 0 := by rw [tN_uN_f, tN_uN_n (by decide)]
  have e5 : tN (uN (uN t 5 c 1) 4 c 0) 5 = va_up (tN t 5) c 1 := by rw [tN_uN_n (by decide), tN_uN_f]
  have h5 := (V.2.2.1.1 c (by omega)).1
  refine V.mk hu (by rw [ek 0 (by decide) (by decide)]; exact hu) (by rw [ek 0 (by decide) (by decide)]) (by rw [ek 0 (by decide) (by decide)]) (by rw [ek 0 (by decide) (by decide)]) (ek 2 (by decide) (by decide)) (ek 9 (by decide) (by decide)) (ek 10 (by decide) (by decide)) rfl (fun b _ => rfl) (fun b hb i hi => ⟨by rw [ek 11 (by decide) (by decide)], rfl⟩) (fun b hb i hi => by rw [ek 12 (by decide) (by decide)]) ((B.p5 (by decide)).p4 (Nat.zero_le _)) (I.cgr (by rw [ek 0 (by decide) (by decide)]) (by rw [ek 0 (by decide) (by decide)]) (ek 1 (by decide) (by decide)) (ek 2 (by decide) (by decide)) (ek 3 (by decide) (by decide)) rfl rfl rfl) (fun d hd => ?_) (fun i hi => ?_) ⟨?_, ?_, ?_, ?_, ?_, ?_⟩
  · rw [e4] at hd
    rw [e5]
    by_cases e : d = c
    · rw [e, up_s] at hd; exact absurd rfl hd
    · rw [up_ne e] at hd ⊢; exact (V.2.2.1.1 d hd).1
  · rw [ek 7 (by decide) (by decide)] at hi
    rw [ek 6 (by decide) (by decide)]; exact (V.2.2.1.2.1 i hi).1
  · rw [ek 0 (by decide) (by decide), ek 10 (by decide) (by decide), ek 1 (by decide) (by decide)]; exact u1
  · intro p hp
    obtain ⟨g, hg, e⟩ := u2 p hp
    exact ⟨g, by rw [ek 0 (by decide) (by decide)]; exact hg, by rw [home_cg (ek 1 (by decide) (by decide)), ek 2 (by decide) (by decide)]; exact e⟩
  · intro g k hg hk
    rw [ek 0 (by decide) (by decide)] at hg
    have R := u3 g k hg hk
    have eb : bH (uN (uN t 5 c 1) 4 c 0) j g k = bH t j g k := by unfold bH; rw [ek 1 (by decide) (by decide), ek 3 (by decide) (by decide), ek 6 (by decide) (by decide), ek 11 (by decide) (by decide)]
    have ee : eH (uN (uN t 5 c 1) 4 c 0) j g k = eH t j g k := by
      unfold eH
      rw [home_cg (ek 1 (by decide) (by decide)), ek 3 (by decide) (by decide), ek 11 (by decide) (by decide), e4, e5]
      by_cases e : home t g k = c
      · rw [e, up_s, up_s, if_pos (Or.inr (by decide)), if_pos (Or.inl h4)]
      · rw [up_ne e, up_ne e]
    rw [RLk_cg (ek 2 (by decide) (by decide)) (by rw [ek 0 (by decide) (by decide)]), kk_cg (ek 2 (by decide) (by decide)), eb, ee]
    exact R
  · intro g k hg hk hb
    rw [ek 0 (by decide) (by decide)] at hg
    rw [home_cg (ek 1 (by decide) (by decide))] at hb ⊢
    rw [RLk_cg (ek 2 (by decide) (by decide)) (by rw [ek 0 (by decide) (by decide)]), fk_cg (ek 2 (by decide) (by decide)), ek 3 (by decide) (by decide), ek 11 (by decide) (by decide)]
    rw [e4] at hb ⊢
    by_cases e : home t g k = c
    · rw [e, up_s] at hb; omega
    · rw [up_ne e] at hb ⊢; exact u4 g k hg hk hb
  · intro a k ha hk ht
    rw [ek 0 (by decide) (by decide)] at ha
    rw [ek 1 (by decide) (by decide), ek 6 (by decide) (by decide)] at ht
    rw [ek 11 (by decide) (by decide), inpS_cg (ek 2 (by decide) (by decide)) rfl, cnt_cg (ek 2 (by decide) (by decide)), ek 0 (by decide) (by decide)]
    exact u5 a k ha hk ht
  · intro a p x ha hp hx ht
    rw [ek 0 (by decide) (by decide)] at ha
    rw [ek 1 (by decide) (by decide)] at hp hx
    rw [ek 6 (by decide) (by decide)] at ht
    have z := u6 a p x ha hp hx ht
    have hne : 16 * a + 4 * p + x ≠ c := fun e => by rw [e] at z; omega
    rw [e4, e5, up_ne hne, up_ne hne]; exact z
theorem IV.came {t : TS} {j s q f c : Nat} (V : IV t) (hu : tN t 0 5 = j + 1) (hs1 : 1 ≤ s) (hs : s < tN t 0 0) (hq : q < tN t 1 s) (hf : f < tN t 1 (s - 1)) (hc : c = 16 * (s - 1) + 4 * f + q) (h4 : tN t 4 c = 1) : IV (spCame t s q c) := by
  have B := V.1.1
  have b := B.S
  have bq := B.P (s := s) (by omega)
  have bf := B.P (s := s - 1) (by omega)
  have V1 := V.1.come hu h4 (by omega)
  have ek : ∀ k, k ≠ 4 → k ≠ 5 → tN (uN (uN t 5 c 1) 4 c 0) k = tN t k := fun k h4 h5 => by rw [tN_uN_n h4, tN_uN_n h5]
  have e5 : tN (uN (uN t 5 c 1) 4 c 0) 5 = va_up (tN t 5) c 1 := by rw [tN_uN_n (by decide), tN_uN_f]
  have Q1 : IQ (uN (uN t 5 c 1) 4 c 0) (fun a b => a = s ∧ b = q) := by
    refine ⟨fun a x p ha hx hp hno h5 h6 => ?_, fun a p h1 ha hp hno hw => ?_⟩
    · rw [ek 0 (by decide) (by decide)] at ha
      rw [ek 1 (by decide) (by decide)] at hx hp
      rw [ek 6 (by decide) (by decide)] at h6
      rw [ek 7 (by decide) (by decide)]
      have bx := B.P (s := a) (by omega)
      have bp := B.P (s := a + 1) (by omega)
      rw [e5, up_ne (fun e => by
        have h1 : a + 1 = s := by omega
        have h2 : p = q := by subst h1; omega
        exact hno ⟨h1, h2⟩)] at h5
      exact V.2.1 a x p ha hx hp (fun z => z) h5 h6
    · rw [ek 0 (by decide) (by decide)] at ha
      rw [ek 1 (by decide) (by decide)] at hp
      rw [ek 7 (by decide) (by decide)] at hw
      intro hA
      refine V.2.2 a p h1 ha hp (fun z => z) hw (fun x hx => ?_)
      have := hA x (by rw [ek 1 (by decide) (by decide)]; exact hx)
      have bx := B.P (s := a - 1) (by omega)
      have bp := B.P (s := a) (by omega)
      rw [e5, up_ne (fun e => by
        have h1 : a = s := by omega
        have h2 : p = q := by subst h1; omega
        exact hno ⟨h1, h2⟩)] at this
      exact this
  have hu1 : tN (uN (uN t 5 c 1) 4 c 0) 0 5 = j + 1 := by rw [ek 0 (by decide) (by decide)]; exact hu
  have hs' : s < tN (uN (uN t 5 c 1) 4 c 0) 0 0 := by rw [ek 0 (by decide) (by decide)]; exact hs
  have hq' : q < tN (uN (uN t 5 c 1) 4 c 0) 1 s := by rw [ek 1 (by decide) (by decide)]; exact hq
  unfold spCame
  generalize uN (uN t 5 c 1) 4 c 0 = t1 at V1 Q1 hu1 hs' hq' 
  apply IV.settle
  unfold spCame1
  by_cases h6 : tN t1 6 (4 * s + q) = 0
  · rw [cif_t h6]
    by_cases hl : tN t1 12 (48 * (tN t1 0 5 - 1) + c) ≠ 0 ∨ tI t1 0 0 = 0
    · rw [cif_t hl]; exact IV.part V1 Q1 hu1 hs' hq' h6 (by decide)
    · rw [cif_f hl]
      by_cases hA : allC t1 s q
      · rw [cif_t hA]; exact IV.part V1 Q1 hu1 hs' hq' h6 (by decide)
      · rw [cif_f hA]
        by_cases h7 : tN t1 7 (4 * s + q) = 0
        · rw [cif_t h7]
          apply IV.ui
          have en : ∀ k, k ≠ 7 → tN (uN t1 7 (4 * s + q) 1) k = tN t1 k := fun k h => tN_uN_n h
          have e7 : tN (uN t1 7 (4 * s + q) 1) 7 = va_up (tN t1 7) (4 * s + q) 1 := tN_uN_f
          have B1 := V1.1
          have bs := B1.S
          have bq' := B1.P (s := s) (by omega)
          refine ⟨V1.mk hu1 (by rw [en 0 (by decide)]; exact hu1) (by rw [en 0 (by decide)]) (by rw [en 0 (by decide)]) (by rw [en 0 (by decide)]) (en 2 (by decide)) (en 9 (by decide)) (en 10 (by decide)) rfl (fun b _ => rfl) (fun b hb i hi => ⟨by rw [en 11 (by decide)], rfl⟩) (fun b hb i hi => by rw [en 12 (by decide)]) (B1.p7 (by decide)) (V1.2.1.same Same.rf) (fun d hd => ?_) (fun i hi => ?_) ((V1.2.2.2.1 j hu1).cgr (by rw [en 0 (by decide)]) (by rw [en 0 (by decide)]) (en 1 (by decide)) (en 2 (by decide)) (en 3 (by decide)) (en 4 (by decide)) (en 5 (by decide)) (en 6 (by decide)) (en 10 (by decide)) (en 11 (by decide)) rfl rfl rfl rfl), fun a x p ha hx hp hno h5 h6' => ?_, fun a p h1 ha hp hno hw => ?_⟩
          · rw [en 4 (by decide)] at hd; rw [en 5 (by decide)]; exact (V1.2.2.1.1 d hd).1
          · rw [en 6 (by decide)]
            by_cases e : i = 4 * s + q
            · rw [e]; exact h6
            · rw [e7, up_ne e] at hi; exact (V1.2.2.1.2.1 i hi).1
          · rw [en 0 (by decide)] at ha
            rw [en 1 (by decide)] at hx hp
            rw [en 5 (by decide)] at h5
            rw [en 6 (by decide)] at h6'
            rw [e7]
            by_cases e : 4 * (a + 1) + p = 4 * s + q
            · rw [e, up_s]; decide
            · rw [up_ne e]; exact Q1.1 a x p ha hx hp (fun z => e (by rw [z.1, z.2])) h5 h6'
          · rw [en 0 (by decide)] at ha
            rw [en 1 (by decide)] at hp
            rw [e7] at hw
            have bp := B1.P (s := a) (by omega)
            rw [allC_cg (en 1 (by decide)) (en 5 (by decide))]
            by_cases e : 4 * a + p = 4 * s + q
            · have h1 : a = s := by omega
              subst h1
              have h2 : p = q := by omega
              subst h2; exact hA
            · rw [up_ne e] at hw; exact Q1.2 a p h1 ha hp (fun z => e (by rw [z.1, z.2])) hw
        · rw [cif_f h7]
          refine ⟨V1, fun a x p ha hx hp hno h5 h6' => ?_, fun a p h1 ha hp hno hw => ?_⟩
          · by_cases e : a + 1 = s ∧ p = q
            · rw [e.1, e.2]; exact h7
            · exact Q1.1 a x p ha hx hp e h5 h6'
          · by_cases e : a = s ∧ p = q
            · rw [e.1, e.2]; exact hA
            · exact Q1.2 a p h1 ha hp e hw
  · rw [cif_f h6]
    refine ⟨V1, fun a x p ha hx hp hno h5 h6' => ?_, fun a p h1 ha hp hno hw => ?_⟩
    · by_cases e : a + 1 = s ∧ p = q
      · rw [e.1, e.2] at h6'; exact absurd h6' h6
      · exact Q1.1 a x p ha hx hp e h5 h6'
    · by_cases e : a = s ∧ p = q
      · rw [e.1, e.2] at hw; exact absurd (V1.2.2.1.2.1 _ hw).1 h6
      · exact Q1.2 a p h1 ha hp e hw
