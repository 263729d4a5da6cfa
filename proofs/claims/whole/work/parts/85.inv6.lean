/-! ===== invariants: a row goes on ===== -/
theorem IX.cgr {t t' : TS} (V : IX t) (B : TB t') (I : IC t') (h0 : tN t' 0 = tN t 0) (h2 : tN t' 2 = tN t 2) (h9 : tN t' 9 = tN t 9) (h10 : tN t' 10 = tN t 10) (h11 : tN t' 11 = tN t 11) (h12 : tN t' 12 = tN t 12) (hK : tK t' = tK t) (hL0 : tL t' 0 = tL t 0) (hL2 : tL t' 2 = tL t 2) : IX t' := by
  obtain ⟨B0, I0, a4, a5, W0⟩ := V
  refine ⟨B, I, by rw [h0, h9]; exact a4, by rw [h0, hK, h11, h12, hL2]; exact a5, fun b hb h1 => ?_⟩
  rw [h0] at hb
  rw [h9] at h1
  exact (W0 b hb h1).cgr (by rw [h0]) (by rw [h0]) B0.S.2 h2 (fun s hs => by rw [h10]) (by rw [hK]) (fun i hi => by rw [h11, hL2]; exact ⟨rfl, rfl⟩) hL0
theorem IC.move {t t' : TS} {s k r : Nat} (B : TB t) (I : IC t) (hs : s < tN t 0 0) (hk : tN t 2 r = k) (hr : r < tN t 0 3) (hin : 1 ≤ s → ∃ l, tC t (home t (s - 1) k) = r :: l) (hz : s = 0 → cnt t k r = tN t 3 k)
    (e0 : tN t' 0 = tN t 0) (e1 : tN t' 1 = tN t 1) (e2 : tN t' 2 = tN t 2) (e3 : tN t' 3 = va_up (tN t 3) (16 * s + k) (tN t 3 (16 * s + k) + 1)) (eL0 : tL t' 0 = tL t 0) (eL1 : tL t' 1 = va_up (tL t 1) (16 * s + k) (tL t 1 (16 * s + k) + tL t 0 r))
    (eC : ∀ d, tC t' d = (if 1 ≤ s ∧ d = home t (s - 1) k then (tC t d).tail else tC t d) ++ (if s + 1 < tN t 0 0 ∧ d = home t s k then [r] else [])) : IC t' ∧ cnt t k r = tN t 3 (16 * s + k) := by
  have b := B.S
  have hk16 : k < 16 := by have := B.key r; omega
  have hrank : cnt t k r = tN t 3 (16 * s + k) := by
    rcases Nat.eq_zero_or_pos s with e | e
    · subst e; rw [hz rfl]; congr 1; omega
    · obtain ⟨l, hl⟩ := hin e
      have R := I.1 (s - 1) k (by omega) hk16
      rw [hl, fk_cons_s hk, show s - 1 + 1 = s by omega] at R
      exact R.1.2.2
  refine ⟨⟨fun g x hg hx => ?_, fun d z hd => ?_, fun x hx => ?_, fun a x ha hx => ?_⟩, hrank⟩
  · rw [e0] at hg
    have R := I.1 g x hg hx
    rw [RLk_cg e2 (by rw [e0]), fk_cg e2, home_cg e1, e3, eC, fk_app]
    by_cases hxk : x = k
    · subst hxk
      by_cases h1 : g + 1 = s
      · obtain ⟨l, hl⟩ := hin (by omega)
        have eg : s - 1 = g := by omega
        rw [eg] at hl
        rw [if_pos ⟨by omega, by rw [eg]⟩, if_neg (fun z => by have := (home_inj B (by omega) (by omega) z.2).1; omega), hl, h1, up_s, up_ne (by omega)]
        rw [hl, fk_cons_s hk, h1] at R
        show RLk t x _ _ (fk t x l ++ [])
        rw [List.append_nil]; exact R.2
      · rw [if_neg (fun z => by have := (home_inj B (by omega) (by omega) z.2).1; omega), up_ne (show 16 * (g + 1) + x ≠ 16 * s + x by omega)]
        by_cases h2 : g = s
        · subst h2
          rw [if_pos ⟨hg, rfl⟩, up_s, fk_cons_s hk, fk_nil]
          refine R.cat ?_
          have := RLk.one hr hk
          rw [hrank] at this; exact this
        · rw [if_neg (fun z => by have := (home_inj B (by omega) (by omega) z.2).1; omega), up_ne (by omega), fk_nil, List.append_nil]; exact R
    · rw [up_ne (by omega), up_ne (by omega)]
      have e1' : fk t x (if s + 1 < tN t 0 0 ∧ home t g x = home t s k then [r] else []) = [] := by
        split
        · exact fk_cons_n (by omega)
        · rfl
      have e2' : fk t x (if 1 ≤ s ∧ home t g x = home t (s - 1) k then (tC t (home t g x)).tail else tC t (home t g x)) = fk t x (tC t (home t g x)) := by
        split
        · next h =>
          obtain ⟨l, hl⟩ := hin h.1
          rw [h.2, hl, fk_cons_n (by omega)]; rfl
        · rfl
      rw [e1', e2', List.append_nil]; exact R
  · rw [eC] at hd
    rcases List.mem_append.mp hd with h | h
    · have : z ∈ tC t d := by
        split at h
        · exact List.mem_of_mem_tail h
        · exact h
      obtain ⟨g, hg, e⟩ := I.2.1 d z this
      exact ⟨g, by rw [e0]; exact hg, by rw [home_cg e1, e2]; exact e⟩
    · split at h
      · next hh =>
        rw [List.mem_singleton] at h
        subst h
        exact ⟨s, by rw [e0]; exact hh.1, by rw [home_cg e1, e2, hk]; exact hh.2⟩
      · simp at h
  · rw [cnt_cg e2, e0, e3]
    have h3 := I.2.2.1 x hx
    by_cases h : x = 16 * s + k
    · have es : s = 0 := by omega
      have ek : x = k := by omega
      subst es; subst ek
      rw [show 16 * 0 + x = x by omega, up_s]
      have := cntLT (t := t) hr hk
      have := hz rfl
      omega
    · rw [up_ne h]; exact h3
  · rw [e0] at ha
    have h4 := I.2.2.2 a x ha hx
    rw [inpS_cg e2 eL0, e0, e3, eL1]
    by_cases h : 16 * a + x = 16 * s + k
    · have es : a = s := by omega
      have ek : x = k := by omega
      subst es; subst ek
      rw [up_s, up_s, h4, ← hrank, inpS_next hk rfl _ hr]
    · rw [up_ne h, up_ne h]; exact h4
theorem fk_take {t : TS} {k n r : Nat} {l : List Nat} (h : n ≤ l.length) : fk t k ((l ++ [r]).take n) = fk t k (l.take n) := by rw [List.take_append_of_le_length h]
/-- a row goes from channel c on -/
theorem UI.move {t t' : TS} {j s k r c : Nat} {l : List Nat} (B : TB t) (I : IC t) (G1 : ∀ c, tN t 4 c ≠ 0 → tN t 5 c = 0) (U : UI t j) (hs1 : 1 ≤ s) (hs : s < tN t 0 0) (hk : tN t 2 r = k) (hr : r < tN t 0 3) (hc : c = home t (s - 1) k) (hl : tC t c = r :: l) (hrank : cnt t k r = tN t 3 (16 * s + k)) (hb1 : tN t 4 c ≠ 1) (hsh : tN t 5 c ≠ 0 → tN t 6 (4 * s + k % tN t 1 s) ≠ 0)
    (e0 : tN t' 0 = tN t 0) (e1 : tN t' 1 = tN t 1) (e2 : tN t' 2 = tN t 2) (e3 : tN t' 3 = va_up (tN t 3) (16 * s + k) (tN t 3 (16 * s + k) + 1)) (e4 : tN t' 4 = va_up (tN t 4) c (if 1 < tN t 4 c then tN t 4 c - 1 else tN t 4 c)) (e5 : tN t' 5 = tN t 5) (e6 : tN t' 6 = tN t 6) (e10 : tN t' 10 = tN t 10) (e11 : tN t' 11 = tN t 11) (eL0 : tL t' 0 = tL t 0) (eL2 : tL t' 2 = tL t 2)
    (eC : ∀ d, tC t' d = (if d = c then l else tC t d) ++ (if s + 1 < tN t 0 0 ∧ d = home t s k then [r] else []))
    (eK : tK t' j = tK t j ++ (if tN t 6 (4 * s + k % tN t 1 s) ≠ 0 ∧ tN t 5 c = 0 then [(c, r)] else [])) : UI t' j := by
  obtain ⟨u1, u2, u3, u4, u5, u6⟩ := U
  have b := B.S
  have hk16 : k < 16 := by have := B.key r; omega
  have hcd : c / 16 = s - 1 := by rw [hc]; exact home_d B (by omega)
  refine ⟨by rw [e0, e1, e10]; exact u1, ?_, ?_, ?_, ?_, ?_⟩
  · intro p hp
    rw [eK] at hp
    rcases List.mem_append.mp hp with z | z
    · obtain ⟨g, hg, e⟩ := u2 p z
      exact ⟨g, by rw [e0]; exact hg, by rw [home_cg e1, e2]; exact e⟩
    · split at z
      · rw [List.mem_singleton] at z
        subst z
        exact ⟨s - 1, by rw [e0]; omega, by rw [home_cg e1, e2, hk]; exact hc⟩
      · simp at z
  · intro g x hg hx
    rw [e0] at hg
    have R := u3 g x hg hx
    rw [RLk_cg e2 (by rw [e0]), kk_cg e2, eK, kk_app]
    by_cases hgs : g + 1 = s
    · have eg : s - 1 = g := by omega
      by_cases hxk : x = k
      · subst hxk
        have hh : home t g x = c := by rw [hc, eg]
        have R4 := u4 g x hg hx
        rw [hh, hl, hgs] at R4
        by_cases h5 : tN t 5 c = 0
        · have e : eH t j g x = tN t 3 (16 * s + x) := by unfold eH; rw [hh, h5, if_neg (by omega), hgs]
          have e' : eH t' j g x = tN t 3 (16 * s + x) + 1 := by
            unfold eH
            rw [home_cg e1, hh, e4, up_s, e5, h5, e11, hgs, e3, up_s]
            by_cases h2 : tN t 4 c = 2
            · rw [h2, if_pos (by decide)]
              have := R4 (by omega)
              rw [h2, show (2 : Nat) - 1 = 1 from rfl, List.take_succ_cons, List.take_zero, fk_cons_s hk, fk_nil] at this
              have := this.len
              simpa using this
            · rw [if_neg]
              rintro (z | z)
              · split at z <;> omega
              · exact z rfl
          rw [e] at R
          rw [e']
          by_cases h6 : tN t 6 (4 * s + x % tN t 1 s) = 0
          · have eb : bH t j g x = tN t 3 (16 * s + x) := by unfold bH; rw [hgs, if_pos h6]
            have eb' : bH t' j g x = tN t 3 (16 * s + x) + 1 := by unfold bH; rw [e1, e6, hgs, if_pos h6, e3, up_s]
            rw [eb] at R
            rw [eb', if_neg (fun z => z.1 h6)]
            have hlen := R.len
            have : kk t g x (tK t j) = [] := List.length_eq_zero_iff.mp (by omega)
            rw [this]; rfl
          · have eb' : bH t' j g x = bH t j g x := by unfold bH; rw [e1, e6, hgs, if_neg h6, if_neg h6, e11]
            rw [eb', if_pos ⟨h6, h5⟩, kk_s ⟨by show c / 16 = g; omega, hk⟩]
            refine R.cat ?_
            have := RLk.one hr hk
            rw [hrank] at this; exact this
        · have h6 := hsh h5
          have h4 : tN t 4 c = 0 := Classical.byContradiction (fun z => h5 (G1 c z))
          have eb' : bH t' j g x = bH t j g x := by unfold bH; rw [e1, e6, hgs, if_neg h6, if_neg h6, e11]
          have e' : eH t' j g x = eH t j g x := by unfold eH; rw [home_cg e1, hh, e5, e11, if_pos (Or.inr h5), if_pos (Or.inr h5)]
          rw [eb', e', if_neg (fun z => h5 z.2)]
          show RLk t x _ _ (kk t g x (tK t j) ++ [])
          rw [List.append_nil]; exact R
      · have eb' : bH t' j g x = bH t j g x := by unfold bH; rw [e1, e6, e11, e3, up_ne (by omega)]
        have eL : kk t g x (if tN t 6 (4 * s + k % tN t 1 s) ≠ 0 ∧ tN t 5 c = 0 then [(c, r)] else []) = [] := by
          split
          · exact kk_n (fun z => hxk (by rw [← z.2]; exact hk))
          · rfl
        have e' : eH t' j g x = eH t j g x := by
          unfold eH
          rw [home_cg e1, e4, e5, e11, e3, up_ne (show 16 * (g + 1) + x ≠ 16 * s + k by omega)]
          by_cases hh : home t g x = c
          · rw [hh, up_s]
            by_cases h5 : tN t 5 c = 0
            · rw [h5]
              by_cases h2 : tN t 4 c = 2
              · rw [h2, if_pos (by decide), if_neg (by omega)]
                have R4 := u4 g x hg hx (by rw [hh]; omega)
                rw [hh, hl, h2, show (2 : Nat) - 1 = 1 from rfl, List.take_succ_cons, List.take_zero, fk_cons_n (by omega), fk_nil] at R4
                exact R4.symm
              · rw [if_neg, if_neg (by omega)]
                rintro (z | z)
                · split at z <;> omega
                · exact z rfl
            · rw [if_pos (Or.inr h5), if_pos (Or.inr h5)]
          · rw [up_ne hh]
        rw [eb', e', eL, List.append_nil]; exact R
    · have eb' : bH t' j g x = bH t j g x := by unfold bH; rw [e1, e6, e11, e3, up_ne (by omega)]
      have hne : home t g x ≠ c := fun z => by have := home_d B (k := x) (show g < 3 by omega); rw [z] at this; omega
      have e' : eH t' j g x = eH t j g x := by unfold eH; rw [home_cg e1, e4, up_ne hne, e5, e11, e3, up_ne (by omega)]
      have eL : kk t g x (if tN t 6 (4 * s + k % tN t 1 s) ≠ 0 ∧ tN t 5 c = 0 then [(c, r)] else []) = [] := by
        split
        · exact kk_n (fun z => hgs (by have := z.1; simp only at this; omega))
        · rfl
      rw [eb', e', eL, List.append_nil]; exact R
  · intro g x hg hx hb
    rw [e0] at hg
    rw [home_cg e1] at hb ⊢
    rw [RLk_cg e2 (by rw [e0]), fk_cg e2, e11, eC, e3]
    rw [e4] at hb ⊢
    by_cases hh : home t g x = c
    · have eg : g = s - 1 := by rw [hc] at hh; exact (home_inj B (by omega) (by omega) hh).1
      have hgs : g + 1 = s := by omega
      rw [hh, up_s] at hb ⊢
      have hb2 : 2 < tN t 4 c := by split at hb <;> omega
      rw [if_pos (by omega), if_pos rfl, if_neg (fun z => by have := (home_inj B (by omega) (by omega) (hh.trans z.2)).1; omega), List.append_nil]
      have R4 := u4 g x hg hx (by rw [hh]; omega)
      rw [hh, hl, show tN t 4 c - 1 = (tN t 4 c - 1 - 1) + 1 by omega, List.take_succ_cons] at R4
      by_cases hxk : x = k
      · subst hxk
        rw [fk_cons_s hk, hgs] at R4
        rw [hgs, up_s]; exact R4.2
      · rw [fk_cons_n (by omega)] at R4
        rw [up_ne (by omega)]; exact R4
    · have hne : 16 * (g + 1) + x ≠ 16 * s + k := fun z => by
        have h1 : g = s - 1 := by omega
        have h2 : x = k := by omega
        subst h1; subst h2; exact hh hc.symm
      rw [up_ne hh] at hb ⊢
      rw [up_ne hne, if_neg hh]
      have R4 := u4 g x hg hx hb
      split
      · rw [fk_take (by have := B.bar (home t g x); omega)]; exact R4
      · rw [List.append_nil]; exact R4
  · intro a x ha hx ht
    rw [e0] at ha
    rw [e1, e6] at ht
    rw [e11, eL2, inpS_cg e2 eL0, cnt_cg e2, e0]
    exact u5 a x ha hx ht
  · intro a p d ha hp hd ht
    rw [e0] at ha
    rw [e1] at hp hd
    rw [e6] at ht
    have z := u6 a p d ha hp hd ht
    rw [e4, e5]
    by_cases h : 16 * a + 4 * p + d = c
    · rw [h] at z
      rw [h, up_s, z.1, if_neg (by decide)]; exact ⟨rfl, z.2⟩
    · rw [up_ne h]; exact z
/-- a row comes from the INPUT -/
theorem UI.src {t t' : TS} {j k r : Nat} (B : TB t) (U : UI t j) (hk16 : k < 16) (e0 : tN t' 0 = tN t 0) (e1 : tN t' 1 = tN t 1) (e2 : tN t' 2 = tN t 2) (e3 : tN t' 3 = va_up (tN t 3) k (tN t 3 k + 1)) (e4 : tN t' 4 = tN t 4) (e5 : tN t' 5 = tN t 5) (e6 : tN t' 6 = tN t 6) (e10 : tN t' 10 = tN t 10) (e11 : tN t' 11 = tN t 11) (eL0 : tL t' 0 = tL t 0) (eL2 : tL t' 2 = tL t 2)
    (eC : ∀ d, tC t' d = tC t d ∨ tC t' d = tC t d ++ [r]) (eK : tK t' j = tK t j) : UI t' j := by
  obtain ⟨u1, u2, u3, u4, u5, u6⟩ := U
  refine ⟨by rw [e0, e1, e10]; exact u1, ?_, ?_, ?_, ?_, ?_⟩
  · intro p hp
    rw [eK] at hp
    obtain ⟨g, hg, e⟩ := u2 p hp
    exact ⟨g, by rw [e0]; exact hg, by rw [home_cg e1, e2]; exact e⟩
  · intro g x hg hx
    rw [e0] at hg
    have eb' : bH t' j g x = bH t j g x := by unfold bH; rw [e1, e6, e11, e3, up_ne (by omega)]
    have e' : eH t' j g x = eH t j g x := by unfold eH; rw [home_cg e1, e4, e5, e11, e3, up_ne (by omega)]
    rw [RLk_cg e2 (by rw [e0]), kk_cg e2, eK, eb', e']; exact u3 g x hg hx
  · intro g x hg hx hb
    rw [e0] at hg
    rw [home_cg e1, e4] at hb ⊢
    rw [RLk_cg e2 (by rw [e0]), fk_cg e2, e11, e3, up_ne (by omega)]
    have R4 := u4 g x hg hx hb
    rcases eC (home t g x) with z | z
    · rw [z]; exact R4
    · rw [z, fk_take (by have := B.bar (home t g x); omega)]; exact R4
  · intro a x ha hx ht
    rw [e0] at ha
    rw [e1, e6] at ht
    rw [e11, eL2, inpS_cg e2 eL0, cnt_cg e2, e0]
    exact u5 a x ha hx ht
  · intro a p d ha hp hd ht
    rw [e0] at ha
    rw [e1] at hp hd
    rw [e6] at ht
    rw [e4, e5]; exact u6 a p d ha hp hd ht
