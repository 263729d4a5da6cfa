/-! ===== invariants: a new one; what about tells ===== -/
theorem nS_b {x : Int32} : 2 ≤ nS x ∧ nS x ≤ 4 := nS_le
theorem IV.new {x : Int32} : IV (spNew x) := by
  have n0 : ∀ i, tN (spNew x) 0 i = if i = 0 then nS x else if i = 1 then 5 else if i = 2 then 200 else 0 := fun i => rfl
  have n1 : ∀ i, tN (spNew x) 1 i = 1 := fun i => rfl
  have nz : ∀ k i, k ≠ 0 → k ≠ 1 → tN (spNew x) k i = 0 := fun k i h0 h1 => by
    show (if k = 0 then _ else if k = 1 then 1 else 0) = 0
    rw [if_neg h0, if_neg h1]
  have z5 : tN (spNew x) 0 5 = 0 := rfl
  have z4 : tN (spNew x) 0 4 = 0 := rfl
  have z3 : tN (spNew x) 0 3 = 0 := rfl
  have hC : ∀ c, tC (spNew x) c = [] := fun c => rfl
  have hK : ∀ c, tK (spNew x) c = [] := fun c => rfl
  refine ⟨⟨⟨nS_b, fun s _ => by rw [n1]; omega, ⟨show 1 ≤ 5 by decide, show 5 ≤ 20 by decide⟩, show 200 ≤ 200 by decide, show 0 ≤ 200 by decide, show 0 ≤ 8 by decide, show 0 ≤ 0 by decide, fun i => ?_, fun i => ?_, fun c => ?_, fun j => ?_, fun q => ?_, fun j => ?_, fun j => ?_, fun j => ?_, fun c => by rw [hC]; exact Nat.zero_le _, fun j => by rw [hK]; exact Nat.zero_le _, fun c r hr => by rw [hC] at hr; simp at hr, fun j q hq => by rw [hK] at hq; simp at hq⟩, ⟨fun g k hg hk => ?_, fun c r hr => by rw [hC] at hr; simp at hr, fun k hk => by rw [nz 3 k (by decide) (by decide)]; exact Nat.zero_le _, fun s k hs hk => ?_⟩, ⟨fun c hc => absurd (nz 4 c (by decide) (by decide)) hc, fun i hi => absurd (nz 7 i (by decide) (by decide)) hi, fun _ i => ⟨nz 4 i (by decide) (by decide), nz 5 i (by decide) (by decide), nz 6 i (by decide) (by decide), nz 7 i (by decide) (by decide)⟩, fun j hj => by rw [z4] at hj; omega, fun j _ => ⟨rfl, fun i _ => ⟨nz 11 _ (by decide) (by decide), rfl⟩, fun c _ => nz 12 _ (by decide) (by decide)⟩⟩, fun j hj => by rw [z5] at hj; omega, fun j hj => by rw [z4] at hj; omega⟩, IQ.z (fun i => nz 5 i (by decide) (by decide)) (fun i => nz 7 i (by decide) (by decide))⟩
  · rw [nz 2 i (by decide) (by decide)]; omega
  · rw [nz 3 i (by decide) (by decide)]; omega
  · rw [nz 4 c (by decide) (by decide)]; omega
  · rw [nz 5 j (by decide) (by decide), nz 6 j (by decide) (by decide), nz 7 j (by decide) (by decide), nz 12 j (by decide) (by decide)]; omega
  · rw [nz 8 q (by decide) (by decide)]; omega
  · rw [nz 9 j (by decide) (by decide)]; omega
  · rw [nz 10 j (by decide) (by decide)]; omega
  · rw [nz 11 j (by decide) (by decide)]; omega
  · rw [hC, nz 3 _ (by decide) (by decide), nz 3 _ (by decide) (by decide)]; rfl
  · rfl
theorem CU.new {x : Int32} (h0 : nI 0 = 0) : CU (spNew x) 0 := ⟨h0.symm, fun _ _ c => rfl⟩
/-- of the first n rows those that are READ, by KEY -/
def rdM (t : TS) (n : Nat) : Nat → Nat
  | 0 => 0
  | k + 1 => rdM t n k + min (tN t 3 k) (cnt t k n)
theorem rdM_next {t : TS} {n : Nat} : ∀ m, rdM t (n + 1) m = rdM t n m + (if tN t 2 n < m ∧ cnt t (tN t 2 n) n < tN t 3 (tN t 2 n) then 1 else 0)
  | 0 => by rw [if_neg (by omega)]; rfl
  | m + 1 => by
    show rdM t (n + 1) m + min (tN t 3 m) (cnt t m (n + 1)) = rdM t n m + min (tN t 3 m) (cnt t m n) + _
    rw [rdM_next m]
    have e : cnt t m (n + 1) = cnt t m n + (if tN t 2 n = m then 1 else 0) := rfl
    by_cases h : tN t 2 n = m
    · rw [if_pos h] at e
      rw [e, h, if_neg (by omega)]
      by_cases h2 : cnt t m n < tN t 3 m
      · rw [if_pos ⟨by omega, h2⟩]; omega
      · rw [if_neg (fun z => h2 z.2)]; omega
    · rw [if_neg h] at e
      rw [e]
      by_cases h2 : tN t 2 n < m ∧ cnt t (tN t 2 n) n < tN t 3 (tN t 2 n)
      · rw [if_pos h2, if_pos ⟨by omega, h2.2⟩]; omega
      · rw [if_neg h2, if_neg (fun z => h2 ⟨by omega, z.2⟩)]; omega
theorem rdC_M {t : TS} (B : TB t) : ∀ n, rdC t n = rdM t n 16
  | 0 => by
    have : ∀ m, rdM t 0 m = 0 := fun m => by
      induction m with
      | zero => rfl
      | succ m ih => show rdM t 0 m + min (tN t 3 m) (cnt t m 0) = 0; rw [ih]; simp [cnt]
    rw [this]; rfl
  | n + 1 => by
    show rdC t n + cif (isRd t n) 1 0 = _
    rw [rdC_M B n, rdM_next]
    have := B.key n
    by_cases h : isRd t n
    · rw [cif_t h, if_pos ⟨by omega, h⟩]
    · rw [cif_f h, if_neg (fun z => h z.2)]
theorem rdM_all {t : TS} {n : Nat} : ∀ m, (∀ k, k < m → tN t 3 k ≤ cnt t k n) → rdM t n m = msum t m
  | 0, _ => rfl
  | m + 1, h => by
    show rdM t n m + min (tN t 3 m) (cnt t m n) = msum t m + tN t 3 m
    rw [rdM_all m (fun k hk => h k (by omega))]
    have := h m (by omega)
    omega
theorem IV.rd {t : TS} (V : IV t) : rdC t (tN t 0 3) = msum t 16 := by rw [rdC_M V.1.1, rdM_all 16 V.1.2.1.2.2.1]
theorem hsum_0 {t : TS} {n : Nat} : ∀ d, (∀ c, n ≤ c → c < n + d → tC t c = []) → hsum t (n + d) = hsum t n
  | 0, _ => rfl
  | d + 1, h => by
    show hsum t (n + d) + (tC t (n + d)).length = _
    rw [hsum_0 d (fun c h1 h2 => h c h1 (by omega)), h (n + d) (by omega) (by omega)]; rfl
theorem IV.out {t : TS} (V : IV t) {c : Nat} (hc : 16 * (tN t 0 0 - 1) ≤ c) : tC t c = [] := by
  cases h : tC t c with
  | nil => rfl
  | cons r l =>
    obtain ⟨g, hg, e⟩ := V.1.2.1.2.1 c r (by rw [h]; exact List.mem_cons_self ..)
    have b := V.1.1.S
    have := home_d V.1.1 (k := tN t 2 r) (show g < 3 by omega)
    rw [← e] at this; omega
theorem IV.hs {t : TS} (V : IV t) : hsum t (16 * (tN t 0 0 - 1)) = hsum t 48 := by
  have b := V.1.1.S
  have := hsum_0 (t := t) (n := 16 * (tN t 0 0 - 1)) (48 - 16 * (tN t 0 0 - 1)) (fun c h1 _ => V.out h1)
  rw [show 16 * (tN t 0 0 - 1) + (48 - 16 * (tN t 0 0 - 1)) = 48 by omega] at this
  exact this.symm
