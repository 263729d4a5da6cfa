/-! ===== invariants: a task takes part ===== -/
theorem sv_11 {t : TS} {j s q a k : Nat} (hk : k < 16) : tN (spSave t j s q) 11 (64 * j + (16 * a + k)) = if a = s ∧ k % tN t 1 s = q then tN t 3 (16 * a + k) else tN t 11 (64 * j + (16 * a + k)) := by
  unfold spSave
  rw [tN_uLs, tN_uNs_s]
  by_cases h : a = s ∧ k % tN t 1 s = q
  · obtain ⟨rfl, h2⟩ := h
    rw [if_pos ⟨by omega, by omega, by rw [show 64 * j + (16 * a + k) - (64 * j + 16 * a) = k by omega]; exact h2⟩, if_pos ⟨rfl, h2⟩, show 64 * j + (16 * a + k) - 64 * j = 16 * a + k by omega]
  · rw [if_neg h, if_neg]
    rintro ⟨h1, h2, h3⟩
    have e : a = s := by omega
    subst e
    rw [show 64 * j + (16 * a + k) - (64 * j + 16 * a) = k by omega] at h3
    exact h ⟨rfl, h3⟩
theorem sv_L {t : TS} {j s q a k : Nat} (hk : k < 16) : tL (spSave t j s q) 2 (64 * j + (16 * a + k)) = if a = s ∧ k % tN t 1 s = q then tL t 1 (16 * a + k) else tL t 2 (64 * j + (16 * a + k)) := by
  unfold spSave
  rw [tL_uLs_s]
  by_cases h : a = s ∧ k % tN t 1 s = q
  · obtain ⟨rfl, h2⟩ := h
    rw [if_pos ⟨by omega, by omega, by rw [show 64 * j + (16 * a + k) - (64 * j + 16 * a) = k by omega]; exact h2⟩, if_pos ⟨rfl, h2⟩, show 64 * j + (16 * a + k) - 64 * j = 16 * a + k by omega]
  · rw [if_neg h, if_neg]
    rintro ⟨h1, h2, h3⟩
    have e : a = s := by omega
    subst e
    rw [show 64 * j + (16 * a + k) - (64 * j + 16 * a) = k by omega] at h3
    exact h ⟨rfl, h3⟩
theorem sv_o {t : TS} {j s q b i : Nat} (hs : s < 4) (hb : b ≠ j) (hi : i < 64) : tN (spSave t j s q) 11 (64 * b + i) = tN t 11 (64 * b + i) ∧ tL (spSave t j s q) 2 (64 * b + i) = tL t 2 (64 * b + i) := by
  unfold spSave
  rw [tN_uLs, tN_uNs_s, tL_uLs_s, if_neg (by omega), if_neg (by omega)]
  exact ⟨rfl, rfl⟩
/-- task q of stage s begins to take part -/
def spIn (t : TS) (j s q : Nat) : TS := spSave (uN (uN t 6 (4 * s + q) 1) 7 (4 * s + q) 0) j s q
theorem in_n {t : TS} {j s q k : Nat} (h6 : k ≠ 6) (h7 : k ≠ 7) (h11 : k ≠ 11) : tN (spIn t j s q) k = tN t k := by
  show tN (uNs (uN (uN t 6 (4 * s + q) 1) 7 (4 * s + q) 0) 11 _) k = _
  rw [tN_uNs_n h11, tN_uN_n h7, tN_uN_n h6]
theorem in_6 {t : TS} {j s q i : Nat} : tN (spIn t j s q) 6 i = if i = 4 * s + q then 1 else tN t 6 i := by
  unfold spIn spSave
  rw [tN_uLs, tN_uNs_n (by decide), tN_uN_n (by decide), tN_uN]
  by_cases h : i = 4 * s + q <;> simp [h]
theorem in_7 {t : TS} {j s q i : Nat} : tN (spIn t j s q) 7 i = if i = 4 * s + q then 0 else tN t 7 i := by
  unfold spIn spSave
  rw [tN_uLs, tN_uNs_n (by decide), tN_uN, tN_uN_n (show (7 : Nat) ≠ 6 by decide)]
  by_cases h : i = 4 * s + q <;> simp [h]
theorem in_11 {t : TS} {j s q a k : Nat} (hk : k < 16) : tN (spIn t j s q) 11 (64 * j + (16 * a + k)) = if a = s ∧ k % tN t 1 s = q then tN t 3 (16 * a + k) else tN t 11 (64 * j + (16 * a + k)) := by
  unfold spIn
  rw [sv_11 hk, tN_uN_n (show (1 : Nat) ≠ 7 by decide), tN_uN_n (show (1 : Nat) ≠ 6 by decide), tN_uN_n (show (3 : Nat) ≠ 7 by decide), tN_uN_n (show (3 : Nat) ≠ 6 by decide), tN_uN_n (show (11 : Nat) ≠ 7 by decide), tN_uN_n (show (11 : Nat) ≠ 6 by decide)]
theorem in_L {t : TS} {j s q a k : Nat} (hk : k < 16) : tL (spIn t j s q) 2 (64 * j + (16 * a + k)) = if a = s ∧ k % tN t 1 s = q then tL t 1 (16 * a + k) else tL t 2 (64 * j + (16 * a + k)) := by
  unfold spIn
  rw [sv_L hk, tN_uN_n (show (1 : Nat) ≠ 7 by decide), tN_uN_n (show (1 : Nat) ≠ 6 by decide)]
  rfl
theorem IB.in {t : TS} {j s q : Nat} (V : IB t) (hu : tN t 0 5 = j + 1) (hs : s < tN t 0 0) (hq : q < tN t 1 s) (h6 : tN t 6 (4 * s + q) = 0) : IB (spIn t j s q) := by
  have B := V.1
  have I := V.2.1
  have b := B.S
  obtain ⟨u1, u2, u3, u4, u5, u6⟩ := V.2.2.2.1 j hu
  obtain ⟨a1, a2, a3, a4, a5⟩ := V.2.2.1
  have bq := B.P (s := s) (by omega)
  have e0 : tN (spIn t j s q) 0 = tN t 0 := in_n (by decide) (by decide) (by decide)
  have e1 : tN (spIn t j s q) 1 = tN t 1 := in_n (by decide) (by decide) (by decide)
  have e2 : tN (spIn t j s q) 2 = tN t 2 := in_n (by decide) (by decide) (by decide)
  have e3 : tN (spIn t j s q) 3 = tN t 3 := in_n (by decide) (by decide) (by decide)
  have e4 : tN (spIn t j s q) 4 = tN t 4 := in_n (by decide) (by decide) (by decide)
  have e5 : tN (spIn t j s q) 5 = tN t 5 := in_n (by decide) (by decide) (by decide)
  have e9 : tN (spIn t j s q) 9 = tN t 9 := in_n (by decide) (by decide) (by decide)
  have e10 : tN (spIn t j s q) 10 = tN t 10 := in_n (by decide) (by decide) (by decide)
  have e12 : tN (spIn t j s q) 12 = tN t 12 := in_n (by decide) (by decide) (by decide)
  have I' : IC (spIn t j s q) := I.cgr (by rw [e0]) (by rw [e0]) e1 e2 e3 rfl rfl rfl
  refine V.mk hu (by rw [e0]; exact hu) (by rw [e0]) (by rw [e0]) (by rw [e0]) e2 e9 e10 rfl (fun b hb => rfl) (fun b hb i hi => ?_) (fun b hb i hi => by rw [e12]) ((B.p6 (by decide)).p7 (by decide)).save I' (fun c hc => ?_) (fun i hi => ?_) ⟨?_, ?_, ?_, ?_, ?_, ?_⟩
  · have := sv_o (t := uN (uN t 6 (4 * s + q) 1) 7 (4 * s + q) 0) (q := q) (show s < 4 by omega) hb hi
    unfold spIn
    rw [this.1, this.2, tN_uN_n (show (11 : Nat) ≠ 7 by decide), tN_uN_n (show (11 : Nat) ≠ 6 by decide)]
    exact ⟨rfl, rfl⟩
  · rw [e4] at hc; rw [e5]; exact (a1 c hc).1
  · rw [in_7] at hi
    split at hi
    · exact absurd rfl hi
    · rw [in_6, if_neg (by assumption)]; exact (a2 i hi).1
  · rw [e0, e1, e10]; exact u1
  · intro p hp
    obtain ⟨g, hg, e⟩ := u2 p hp
    exact ⟨g, by rw [e0]; exact hg, by rw [home_cg e1, e2]; exact e⟩
  · intro g k hg hk
    rw [e0] at hg
    have R := u3 g k hg hk
    have b2 := B.P (s := g + 1) (by omega)
    have b3 := B.P (s := g) (by omega)
    have m2 := Nat.mod_lt k (show tN t 1 (g + 1) > 0 by omega)
    have m3 := Nat.mod_lt k (show tN t 1 g > 0 by omega)
    have eb : bH (spIn t j s q) j g k = bH t j g k := by
      unfold bH
      rw [e1, e3, in_6, in_11 hk]
      by_cases h : g + 1 = s ∧ k % tN t 1 s = q
      · obtain ⟨rfl, h2⟩ := h
        rw [h2, if_pos rfl, if_neg (by decide), if_pos ⟨rfl, rfl⟩, if_pos h6]
      · have : ¬ 4 * (g + 1) + k % tN t 1 (g + 1) = 4 * s + q := fun z => by
          have e : g + 1 = s := by omega
          subst e
          exact h ⟨rfl, by omega⟩
        rw [if_neg this, if_neg h]
    have ee : eH (spIn t j s q) j g k = eH t j g k := by
      unfold eH
      rw [home_cg e1, e3, e4, e5, in_11 hk]
      by_cases h : g = s ∧ k % tN t 1 s = q
      · obtain ⟨rfl, h2⟩ := h
        have z := u6 g q (k % tN t 1 (g + 1)) hg hq m2 h6
        have eh : home t g k = 16 * g + 4 * q + k % tN t 1 (g + 1) := by unfold home; rw [h2]
        rw [eh, z.1, z.2, if_neg (by simp), if_neg (by simp)]
      · rw [if_neg h]
    rw [RLk_cg e2 (by rw [e0]), kk_cg e2, eb, ee]
    exact R
  · intro g k hg hk hb
    rw [e0] at hg
    rw [home_cg e1, e4] at hb
    have b2 := B.P (s := g + 1) (by omega)
    have m2 := Nat.mod_lt k (show tN t 1 (g + 1) > 0 by omega)
    have h : ¬ (g = s ∧ k % tN t 1 s = q) := by
      rintro ⟨rfl, h2⟩
      have z := u6 g q (k % tN t 1 (g + 1)) hg hq m2 h6
      have eh : home t g k = 16 * g + 4 * q + k % tN t 1 (g + 1) := by unfold home; rw [h2]
      rw [eh, z.1] at hb; omega
    rw [RLk_cg e2 (by rw [e0]), fk_cg e2, home_cg e1, e3, e4, in_11 hk, if_neg h]
    exact u4 g k hg hk hb
  · intro a k ha hk ht
    rw [e0] at ha
    have b2 := B.P (s := a) (by omega)
    have m2 := Nat.mod_lt k (show tN t 1 a > 0 by omega)
    rw [in_11 hk, in_L hk, inpS_cg e2 rfl, cnt_cg e2, e0]
    by_cases h : a = s ∧ k % tN t 1 s = q
    · rw [if_pos h, if_pos h]
      have h3 := I.2.2.1 k hk
      have h4 := I.many hk a ha
      exact ⟨I.2.2.2 a k ha hk, by omega⟩
    · rw [if_neg h, if_neg h]
      rw [e1, in_6, if_neg] at ht
      · exact u5 a k ha hk ht
      · intro z
        have e : a = s := by omega
        subst e
        exact h ⟨rfl, by omega⟩
  · intro a p d ha hp hd ht
    rw [e0] at ha
    rw [e1] at hp hd
    rw [e4, e5]
    rw [in_6] at ht
    split at ht
    · exact absurd ht (by decide)
    · exact u6 a p d ha hp hd ht
/-- a barrier goes into channel c, and the rows before which it stands are kept -/
theorem UI.bar {t t' : TS} {j s q d bb : Nat} {L : List (Nat × Nat)} (B : TB t) (I : IC t) (U : UI t j) (hs : s + 1 < tN t 0 0) (hq : q < tN t 1 s) (hd : d < tN t 1 (s + 1)) (h6 : tN t 6 (4 * s + q) ≠ 0) (hkm : ∀ k, k < 16 → k % tN t 1 s = q → tN t 11 (64 * j + (16 * s + k)) = tN t 3 (16 * s + k)) (h4 : tN t 4 (16 * s + 4 * q + d) = 0) (h5 : tN t 5 (16 * s + 4 * q + d) = 0)
    (hcs : (bb = 1 ∧ L = (tC t (16 * s + 4 * q + d)).map (fun r => (16 * s + 4 * q + d, r))) ∨ (bb = (tC t (16 * s + 4 * q + d)).length + 1 ∧ 1 < bb ∧ L = []))
    (e0 : tN t' 0 = tN t 0) (e1 : tN t' 1 = tN t 1) (e2 : tN t' 2 = tN t 2) (e3 : tN t' 3 = tN t 3) (e4 : tN t' 4 = va_up (tN t 4) (16 * s + 4 * q + d) bb) (e5 : tN t' 5 = tN t 5) (e6 : tN t' 6 = tN t 6) (e10 : tN t' 10 = tN t 10) (e11 : tN t' 11 = tN t 11) (eC : tC t' = tC t) (eL0 : tL t' 0 = tL t 0) (eL2 : tL t' 2 = tL t 2) (eK : tK t' j = tK t j ++ L) : UI t' j := by
  obtain ⟨u1, u2, u3, u4, u5, u6⟩ := U
  have b := B.S
  have bq := B.P (s := s) (by omega)
  have bd := B.P (s := s + 1) (by omega)
  generalize hc : 16 * s + 4 * q + d = c at h4 h5 hcs e4
  have hLm : ∀ p, p ∈ L → p.1 = c ∧ p.2 ∈ tC t c := fun p hp => by
    rcases hcs with ⟨_, e⟩ | ⟨_, _, e⟩
    · rw [e] at hp
      obtain ⟨r, hr, e'⟩ := List.mem_map.mp hp
      rw [← e']; exact ⟨rfl, hr⟩
    · rw [e] at hp; simp at hp
  have hom : ∀ g k, g + 1 < tN t 0 0 → home t g k = c → g = s ∧ k % tN t 1 s = q := fun g k hg e => by
    have hd' := home_d B (k := k) (show g < 3 by omega)
    have e' : g = s := by rw [e] at hd'; omega
    subst e'
    have m2 := Nat.mod_lt k (show tN t 1 (g + 1) > 0 by omega)
    have m3 := Nat.mod_lt k (show tN t 1 g > 0 by omega)
    unfold home at e
    exact ⟨rfl, by omega⟩
  refine ⟨by rw [e0, e1, e10]; exact u1, ?_, ?_, ?_, ?_, ?_⟩
  · intro p hp
    rw [eK] at hp
    rcases List.mem_append.mp hp with z | z
    · obtain ⟨g, hg, e⟩ := u2 p z
      exact ⟨g, by rw [e0]; exact hg, by rw [home_cg e1, e2]; exact e⟩
    · obtain ⟨g, hg, e⟩ := I.2.1 _ _ (hLm p z).2
      exact ⟨g, by rw [e0]; exact hg, by rw [home_cg e1, e2, (hLm p z).1]; exact e⟩
  · intro g k hg hk
    rw [e0] at hg
    have R := u3 g k hg hk
    have eb : bH t' j g k = bH t j g k := by unfold bH; rw [e1, e3, e6, e11]
    rw [RLk_cg e2 (by rw [e0]), kk_cg e2, eb, eK, kk_app]
    by_cases h : home t g k = c
    · obtain ⟨rfl, hkq⟩ := hom g k hg h
      have e : eH t j g k = tN t 3 (16 * (g + 1) + k) := by unfold eH; rw [h, h4, h5, if_neg (by simp)]
      rw [e] at R
      rcases hcs with ⟨z1, z2⟩ | ⟨z1, z3, z2⟩
      · have e' : eH t' j g k = tN t 3 (16 * g + k) := by unfold eH; rw [home_cg e1, h, e4, up_s, if_pos (Or.inl z1), e11, hkm k hk hkq]
        rw [e', z2, kk_map_s (by omega)]
        have R2 := I.1 g k hg hk
        rw [h] at R2
        exact R.cat R2
      · have e' : eH t' j g k = tN t 3 (16 * (g + 1) + k) := by unfold eH; rw [home_cg e1, h, e4, up_s, e5, h5, if_neg (by omega), e3]
        rw [e', z2]
        show RLk t k _ _ (kk t g k (tK t j) ++ [])
        rw [List.append_nil]; exact R
    · have e' : eH t' j g k = eH t j g k := by unfold eH; rw [home_cg e1, e4, up_ne h, e5, e11, e3]
      have eL : kk t g k L = [] := by
        rcases hcs with ⟨z1, z2⟩ | ⟨z1, z3, z2⟩
        · rw [z2]
          by_cases hg' : c / 16 = g
          · rw [kk_map_s hg']
            refine fk_none (fun r hr e => ?_)
            obtain ⟨g', hg'', e''⟩ := I.2.1 _ r hr
            have hd' := home_d B (k := tN t 2 r) (show g' < 3 by omega)
            have : g' = g := by rw [← e''] at hd'; omega
            rw [e, this] at e''; exact h e''.symm
          · exact kk_map_n hg' _
        · rw [z2]; rfl
      rw [e', eL, List.append_nil]; exact R
  · intro g k hg hk hb
    rw [e0] at hg
    rw [home_cg e1] at hb ⊢
    rw [RLk_cg e2 (by rw [e0]), fk_cg e2, e3, e11, eC]
    rw [e4] at hb ⊢
    by_cases h : home t g k = c
    · obtain ⟨rfl, hkq⟩ := hom g k hg h
      rw [h, up_s] at hb ⊢
      rcases hcs with ⟨z1, z2⟩ | ⟨z1, z3, z2⟩
      · omega
      · rw [z1, Nat.add_sub_cancel, List.take_length, hkm k hk hkq]
        have R2 := I.1 g k hg hk
        rw [h] at R2; exact R2
    · rw [up_ne h] at hb ⊢; exact u4 g k hg hk hb
  · intro a k ha hk ht
    rw [e0] at ha
    rw [e1, e6] at ht
    rw [e11, eL2, inpS_cg e2 eL0, cnt_cg e2, e0]
    exact u5 a k ha hk ht
  · intro a p x ha hp hx ht
    rw [e0] at ha
    rw [e1] at hp hx
    rw [e6] at ht
    have bp := B.P (s := a) (by omega)
    have bx := B.P (s := a + 1) (by omega)
    have hne : 16 * a + 4 * p + x ≠ c := fun e => by
      have h1 : a = s := by omega
      subst h1
      have h2 : p = q := by omega
      subst h2; exact h6 ht
    rw [e4, up_ne hne, e5]; exact u6 a p x ha hp hx ht
