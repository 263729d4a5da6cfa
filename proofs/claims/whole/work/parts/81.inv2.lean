/-! ===== invariants: what they say ===== -/
/-- rows go through in the order of the INPUT -/
def IC (t : TS) : Prop :=
  (∀ g k, g + 1 < tN t 0 0 → k < 16 → RLk t k (tN t 3 (16 * (g + 1) + k)) (tN t 3 (16 * g + k)) (fk t k (tC t (home t g k)))) ∧
  (∀ c r, r ∈ tC t c → ∃ g, g + 1 < tN t 0 0 ∧ c = home t g (tN t 2 r)) ∧
  (∀ k, k < 16 → tN t 3 k ≤ cnt t k (tN t 0 3)) ∧
  ∀ s k, s < tN t 0 0 → k < 16 → tL t 1 (16 * s + k) = inpS t k (tN t 3 (16 * s + k)) (tN t 0 3)
/-- of tasks, channels and marks -/
def IG (t : TS) : Prop :=
  (∀ c, tN t 4 c ≠ 0 → tN t 5 c = 0 ∧ tN t 0 5 ≠ 0) ∧ (∀ i, tN t 7 i ≠ 0 → tN t 6 i = 0 ∧ tN t 0 5 ≠ 0) ∧
  (tN t 0 5 = 0 → ∀ i, tN t 4 i = 0 ∧ tN t 5 i = 0 ∧ tN t 6 i = 0 ∧ tN t 7 i = 0) ∧
  (∀ j, j < tN t 0 4 → (tN t 9 j = 0 ↔ tN t 0 5 = j + 1)) ∧
  ∀ j, tN t 0 4 ≤ j → tK t j = [] ∧ (∀ i, i < 64 → tN t 11 (64 * j + i) = 0 ∧ tL t 2 (64 * j + i) = 0) ∧ ∀ c, c < 48 → tN t 12 (48 * j + c) = 0
def bH (t : TS) (j g k : Nat) : Nat := if tN t 6 (4 * (g + 1) + k % tN t 1 (g + 1)) = 0 then tN t 3 (16 * (g + 1) + k) else tN t 11 (64 * j + (16 * (g + 1) + k))
def eH (t : TS) (j g k : Nat) : Nat := if tN t 4 (home t g k) = 1 ∨ tN t 5 (home t g k) ≠ 0 then tN t 11 (64 * j + (16 * g + k)) else tN t 3 (16 * (g + 1) + k)
/-- the mark under way -/
def UI (t : TS) (j : Nat) : Prop :=
  (∀ s, s < tN t 0 0 → tN t 10 (4 * j + s) = tN t 1 s) ∧
  (∀ p, p ∈ tK t j → ∃ g, g + 1 < tN t 0 0 ∧ p.1 = home t g (tN t 2 p.2)) ∧
  (∀ g k, g + 1 < tN t 0 0 → k < 16 → RLk t k (bH t j g k) (eH t j g k) (kk t g k (tK t j))) ∧
  (∀ g k, g + 1 < tN t 0 0 → k < 16 → 1 < tN t 4 (home t g k) → RLk t k (tN t 3 (16 * (g + 1) + k)) (tN t 11 (64 * j + (16 * g + k))) (fk t k ((tC t (home t g k)).take (tN t 4 (home t g k) - 1)))) ∧
  (∀ s k, s < tN t 0 0 → k < 16 → tN t 6 (4 * s + k % tN t 1 s) ≠ 0 → tL t 2 (64 * j + (16 * s + k)) = inpS t k (tN t 11 (64 * j + (16 * s + k))) (tN t 0 3) ∧ tN t 11 (64 * j + (16 * s + k)) ≤ cnt t k (tN t 0 3)) ∧
  ∀ s q d, s + 1 < tN t 0 0 → q < tN t 1 s → d < tN t 1 (s + 1) → tN t 6 (4 * s + q) = 0 → tN t 4 (16 * s + 4 * q + d) = 0 ∧ tN t 5 (16 * s + 4 * q + d) = 0
/-- a whole mark -/
def WI (t : TS) (j : Nat) : Prop :=
  (∀ p, p ∈ tK t j → ∃ g, g + 1 < tN t 0 0 ∧ p.1 = 16 * g + 4 * (tN t 2 p.2 % tN t 10 (4 * j + g)) + tN t 2 p.2 % tN t 10 (4 * j + (g + 1))) ∧
  (∀ s, s < tN t 0 0 → 1 ≤ tN t 10 (4 * j + s) ∧ tN t 10 (4 * j + s) ≤ 4) ∧
  (∀ g k, g + 1 < tN t 0 0 → k < 16 → RLk t k (tN t 11 (64 * j + (16 * (g + 1) + k))) (tN t 11 (64 * j + (16 * g + k))) (kk t g k (tK t j))) ∧
  ∀ s k, s < tN t 0 0 → k < 16 → tL t 2 (64 * j + (16 * s + k)) = inpS t k (tN t 11 (64 * j + (16 * s + k))) (tN t 0 3) ∧ tN t 11 (64 * j + (16 * s + k)) ≤ cnt t k (tN t 0 3)
/-- all but what is between the coming of a barrier and what the task does then -/
def IB (t : TS) : Prop := TB t ∧ IC t ∧ IG t ∧ (∀ j, tN t 0 5 = j + 1 → UI t j) ∧ ∀ j, j < tN t 0 4 → tN t 9 j = 1 → WI t j
/-- who waits, but for task a of stage b -/
def IQ (t : TS) (no : Nat → Nat → Prop) : Prop :=
  (∀ s f q, s + 1 < tN t 0 0 → f < tN t 1 s → q < tN t 1 (s + 1) → ¬ no (s + 1) q → tN t 5 (16 * s + 4 * f + q) ≠ 0 → tN t 6 (4 * (s + 1) + q) = 0 → tN t 7 (4 * (s + 1) + q) ≠ 0) ∧
  ∀ s q, 1 ≤ s → s < tN t 0 0 → q < tN t 1 s → ¬ no s q → tN t 7 (4 * s + q) ≠ 0 → ¬ allC t s q
def IV (t : TS) : Prop := IB t ∧ IQ t (fun _ _ => False)
theorem home_d {t : TS} (B : TB t) {g k : Nat} (hg : g < 3) : home t g k / 16 = g := by
  have h1 := B.P (s := g) (by omega)
  have h2 := B.P (s := g + 1) (by omega)
  have := Nat.mod_lt k (show tN t 1 g > 0 by omega)
  have := Nat.mod_lt k (show tN t 1 (g + 1) > 0 by omega)
  unfold home
  omega
theorem home_inj {t : TS} (B : TB t) {g g' k k' : Nat} (hg : g < 3) (hg' : g' < 3) (h : home t g k = home t g' k') : g = g' ∧ k % tN t 1 g = k' % tN t 1 g ∧ k % tN t 1 (g + 1) = k' % tN t 1 (g + 1) := by
  have a := home_d B (k := k) hg
  have b := home_d B (k := k') hg'
  have e : g = g' := by rw [← a, ← b, h]
  subst e
  have h1 := B.P (s := g) (by omega)
  have h2 := B.P (s := g + 1) (by omega)
  have := Nat.mod_lt k (show tN t 1 g > 0 by omega)
  have := Nat.mod_lt k (show tN t 1 (g + 1) > 0 by omega)
  have := Nat.mod_lt k' (show tN t 1 g > 0 by omega)
  have := Nat.mod_lt k' (show tN t 1 (g + 1) > 0 by omega)
  unfold home at h
  omega
theorem home_cg {t t' : TS} (h : tN t' 1 = tN t 1) {g k : Nat} : home t' g k = home t g k := by unfold home; rw [h]
theorem inpN_cg {t t' : TS} (h : tN t' 2 = tN t 2) {k M : Nat} : ∀ n, inpN t' k M n = inpN t k M n
  | 0 => rfl
  | n + 1 => by unfold inpN; rw [inpN_cg h n, h]
theorem inpS_cg {t t' : TS} (h : tN t' 2 = tN t 2) (hL : tL t' 0 = tL t 0) {k M : Nat} : ∀ n, inpS t' k M n = inpS t k M n
  | 0 => rfl
  | n + 1 => by unfold inpS; rw [inpS_cg h hL n, inpN_cg h, h, hL]
theorem RLk_cg {t t' : TS} (h2 : tN t' 2 = tN t 2) (h3 : tN t' 0 3 = tN t 0 3) {k a b : Nat} {l : List Nat} : RLk t' k a b l ↔ RLk t k a b l := ⟨fun h => h.cg h2.symm h3.symm, fun h => h.cg h2 h3⟩
theorem IC.many {t : TS} (I : IC t) {k : Nat} (hk : k < 16) : ∀ s, s < tN t 0 0 → tN t 3 (16 * s + k) ≤ tN t 3 k
  | 0, _ => by rw [show 16 * 0 + k = k by omega]; exact Nat.le_refl _
  | s + 1, h => Nat.le_trans (I.1 s k h hk).le (IC.many I hk s (by omega))
theorem IC.mono {t : TS} (I : IC t) {k : Nat} (hk : k < 16) {s : Nat} : ∀ d, s + d < tN t 0 0 → tN t 3 (16 * (s + d) + k) ≤ tN t 3 (16 * s + k)
  | 0, _ => Nat.le_refl _
  | d + 1, h => Nat.le_trans (I.1 (s + d) k h hk).le (IC.mono I hk d (by omega))
theorem IC.row {t : TS} (I : IC t) (B : TB t) {c r : Nat} (h : r ∈ tC t c) : ∃ g, g + 1 < tN t 0 0 ∧ c = home t g (tN t 2 r) ∧ tN t 3 (16 * (g + 1) + tN t 2 r) ≤ cnt t (tN t 2 r) r ∧ cnt t (tN t 2 r) r < tN t 3 (16 * g + tN t 2 r) := by
  obtain ⟨g, hg, hc⟩ := I.2.1 c r h
  have := B.key r
  have R := (I.1 g (tN t 2 r) hg (by omega)).mem (fk_mem.mpr ⟨hc ▸ h, rfl⟩)
  exact ⟨g, hg, hc, R.2.2⟩
theorem IC.dj {t : TS} (I : IC t) (B : TB t) : DJ t := by
  refine ⟨fun c => nodup_fk (t := t) (fun k => ?_), fun c d z hc hd => ?_⟩
  · by_cases he : fk t k (tC t c) = []
    · rw [he]; exact List.nodup_nil
    · obtain ⟨r, hr⟩ := List.exists_mem_of_ne_nil _ he
      obtain ⟨h1, h2⟩ := fk_mem.mp hr
      obtain ⟨g, hg, hc⟩ := I.2.1 c r h1
      have := B.key r
      rw [h2] at hc this
      rw [hc]
      exact (I.1 g k hg (by omega)).nodup
  · obtain ⟨g, hg, e1, a1, a2⟩ := I.row B hc
    obtain ⟨g', hg', e2, b1, b2⟩ := I.row B hd
    have := B.key z
    have : g = g' := by
      rcases Nat.lt_trichotomy g g' with z1 | z1 | z1
      · have := IC.mono I (k := tN t 2 z) (by omega) (s := g + 1) (g' - (g + 1)) (by omega)
        rw [show g + 1 + (g' - (g + 1)) = g' by omega] at this; omega
      · exact z1
      · have := IC.mono I (k := tN t 2 z) (by omega) (s := g' + 1) (g - (g' + 1)) (by omega)
        rw [show g' + 1 + (g - (g' + 1)) = g by omega] at this; omega
    rw [e1, e2, this]
theorem IV.tg {t : TS} (V : IV t) : TG t := by
  obtain ⟨⟨B, I, Gg, U, Wm⟩, Q⟩ := V
  refine ⟨B, fun s f q hs1 hs hf hq r hr => ?_, fun c hc => (Gg.1 c hc).2, fun q hq => (Gg.2.1 q hq).2⟩
  obtain ⟨g, hg, e1, a1, a2⟩ := I.row B hr
  have b := B.S
  have hd := home_d B (k := tN t 2 r) (show g < 3 by omega)
  have hq4 := B.P (s := s) (by omega)
  have hf4 := B.P (s := s - 1) (by omega)
  have hg' : g + 1 = s := by rw [← e1] at hd; omega
  have := cnt_n (t := t) (k := tN t 2 r) r
  have := B.row hr
  have := B.fed
  rw [← hg']; omega
theorem IV.cg {t : TS} (V : IV t) : CG t := by
  have T := V.tg
  obtain ⟨⟨B, I, Gg, U, Wm⟩, Q⟩ := V
  refine ⟨T, I.dj B, I.2.1, fun c hc => (Gg.1 c hc).1, fun s q h1 hs hq hw => Q.2 s q h1 hs hq (fun z => z) hw, fun c r hr => ?_, I.2.2.1⟩
  obtain ⟨g, hg, e1, a1, a2⟩ := I.row B hr
  have := B.key r
  have := I.many (k := tN t 2 r) (by omega) g (by omega)
  show cnt t (tN t 2 r) r < tN t 3 (tN t 2 r)
  omega
theorem gl_no {t : TS} (B : TB t) (I : IC t) {g k : Nat} (hg : g + 1 < tN t 0 0) (hk : k < 16) : ∀ n, n ≤ 16 → fk t k (gl_ t g n) = if home t g k < 16 * g + n then fk t k (tC t (home t g k)) else []
  | 0, _ => by
    have b := B.S
    have := home_d B (k := k) (show g < 3 by omega)
    rw [if_neg (by omega)]; rfl
  | n + 1, hn => by
    have b := B.S
    have hd := home_d B (k := k) (show g < 3 by omega)
    show fk t k (gl_ t g n ++ tC t (16 * g + n)) = _
    rw [fk_app, gl_no B I hg hk n (by omega)]
    by_cases h1 : home t g k < 16 * g + n
    · rw [if_pos h1, if_pos (by omega), fk_none (l := tC t (16 * g + n)), List.append_nil]
      intro r hr e
      obtain ⟨g', hg', e'⟩ := I.2.1 _ r hr
      have hd' := home_d B (k := tN t 2 r) (show g' < 3 by omega)
      have : g' = g := by rw [← e'] at hd'; omega
      rw [e, this] at e'; omega
    · rw [if_neg h1, List.nil_append]
      by_cases h2 : home t g k = 16 * g + n
      · rw [if_pos (by omega), h2]
      · rw [if_neg (by omega)]
        refine fk_none (fun r hr e => ?_)
        obtain ⟨g', hg', e'⟩ := I.2.1 _ r hr
        have hd' := home_d B (k := tN t 2 r) (show g' < 3 by omega)
        have : g' = g := by rw [← e'] at hd'; omega
        rw [e, this] at e'; omega
theorem IV.ao {t : TS} (V : IV t) : AO t := by
  obtain ⟨⟨B, I, Gg, U, Wm⟩, Q⟩ := V
  have b := B.S
  refine ⟨fun g hg k hk => ?_, fun g hg x hx r hr => ?_, fun k hk => ?_, fun j hj h1 g hg k hk => ?_⟩
  · have R := I.1 g k hg hk
    have hd := home_d B (k := k) (show g < 3 by omega)
    have e := gl_no B I hg hk 16 (Nat.le_refl _)
    rw [if_pos (by omega)] at e
    have h1 := R.len
    have h2 := R.sum
    rw [kcN_fk, ksN_fk, e, I.2.2.2 g k (by omega) hk]
    refine ⟨?_, ?_⟩
    · show tN t 3 (16 * (g + 1) + k) + _ = _; omega
    · show tL t 1 (16 * (g + 1) + k) + _ = _; rw [I.2.2.2 (g + 1) k hg hk]; exact h2
  · obtain ⟨g', hg', e'⟩ := I.2.1 _ r hr
    have hd' := home_d B (k := tN t 2 r) (show g' < 3 by omega)
    have : g' = g := by rw [← e'] at hd'; omega
    rw [e', this]; rfl
  · have h3 := I.2.2.1 k hk
    have h4 := I.2.2.2 0 k (by omega) hk
    rw [show 16 * 0 + k = k by omega] at h4
    rw [inpN_eq]
    exact ⟨by omega, h4.symm⟩
  · obtain ⟨w1, w2, w3, w4⟩ := Wm j hj h1
    have R := w3 g k hg hk
    have h1 := R.len
    have h2 := R.sum
    rw [kcK_kk, ksK_kk, show 64 * j + 16 * g + 16 + k = 64 * j + (16 * (g + 1) + k) by omega, show 64 * j + 16 * g + k = 64 * j + (16 * g + k) by omega, (w4 g k (by omega) hk).1, (w4 (g + 1) k hg hk).1]
    exact ⟨by omega, h2⟩
