/-! ===== invariants: ranks ===== -/
theorem cntM {t : TS} {k n : Nat} : ∀ d, cnt t k n ≤ cnt t k (n + d)
  | 0 => Nat.le_refl _
  | d + 1 => by have := cntM (t := t) (k := k) (n := n) d; show _ ≤ cnt t k (n + d) + _; omega
theorem cntLE {t : TS} {k n m : Nat} (h : n ≤ m) : cnt t k n ≤ cnt t k m := by
  have := cntM (t := t) (k := k) (n := n) (m - n); rwa [show n + (m - n) = m by omega] at this
theorem cntLT {t : TS} {k r n : Nat} (h : r < n) (hk : tN t 2 r = k) : cnt t k r + 1 ≤ cnt t k n := by
  have h1 := cntLE (t := t) (k := k) (show r + 1 ≤ n from h)
  have h2 : cnt t k (r + 1) = cnt t k r + 1 := by show cnt t k r + (if tN t 2 r = k then 1 else 0) = _; rw [if_pos hk]
  omega
theorem cnt_n {t : TS} {k : Nat} : ∀ n, cnt t k n ≤ n
  | 0 => Nat.le_refl _
  | n + 1 => by have := cnt_n (t := t) (k := k) n; show cnt t k n + _ ≤ _; split <;> omega
theorem cnt_ex {t : TS} {k M : Nat} : ∀ n, M < cnt t k n → ∃ r, r < n ∧ tN t 2 r = k ∧ cnt t k r = M
  | 0, h => by simp [cnt] at h
  | n + 1, h => by
    by_cases h1 : M < cnt t k n
    · obtain ⟨r, a, b, c⟩ := cnt_ex n h1; exact ⟨r, by omega, b, c⟩
    · have h2 : cnt t k (n + 1) = cnt t k n + (if tN t 2 n = k then 1 else 0) := rfl
      by_cases h3 : tN t 2 n = k
      · rw [if_pos h3] at h2; exact ⟨n, by omega, h3, by omega⟩
      · rw [if_neg h3] at h2; omega
theorem inpN_eq {t : TS} {k M : Nat} : ∀ n, inpN t k M n = min M (cnt t k n)
  | 0 => by simp [inpN, cnt]
  | n + 1 => by
    unfold inpN cnt
    rw [inpN_eq n]
    by_cases h : tN t 2 n = k
    · by_cases h2 : min M (cnt t k n) < M
      · rw [if_pos ⟨h, h2⟩, if_pos h]; omega
      · rw [if_neg (fun z => h2 z.2), if_pos h]; omega
    · rw [if_neg (fun z => h z.1), if_neg h]; rfl
theorem inpS_big {t : TS} {k M M' : Nat} : ∀ n, cnt t k n ≤ M → cnt t k n ≤ M' → inpS t k M n = inpS t k M' n
  | 0, _, _ => rfl
  | n + 1, h, h' => by
    have e : cnt t k (n + 1) = cnt t k n + (if tN t 2 n = k then 1 else 0) := rfl
    unfold inpS
    rw [inpS_big (M := M) (M' := M') n (by omega) (by omega), inpN_eq, inpN_eq]
    by_cases hk : tN t 2 n = k
    · rw [if_pos hk] at e
      rw [if_pos ⟨hk, by omega⟩, if_pos ⟨hk, by omega⟩]
    · rw [if_neg (fun z => hk z.1), if_neg (fun z => hk z.1)]
theorem inpS_next {t : TS} {k r a : Nat} (hk : tN t 2 r = k) (ha : cnt t k r = a) : ∀ n, r < n → inpS t k (a + 1) n = inpS t k a n + tL t 0 r
  | 0, h => absurd h (Nat.not_lt_zero _)
  | n + 1, h => by
    by_cases e : r = n
    · subst e
      unfold inpS
      rw [inpN_eq, inpN_eq, if_pos ⟨hk, by omega⟩, if_neg (by omega), inpS_big (M := a + 1) (M' := a) r (by omega) (by omega), Int64.add_zero]
    · have ih := inpS_next hk ha n (by omega)
      have := cntLT (t := t) (show r < n by omega) hk
      unfold inpS
      rw [inpN_eq, inpN_eq, ih, if_neg (by omega), if_neg (by omega), Int64.add_zero, Int64.add_zero]
/-- rows of KEY k whose ranks are a .. b - 1, in order -/
def RLk (t : TS) (k : Nat) : Nat → Nat → List Nat → Prop
  | a, b, [] => a = b
  | a, b, r :: l => (r < tN t 0 3 ∧ tN t 2 r = k ∧ cnt t k r = a) ∧ RLk t k (a + 1) b l
theorem RLk.len {t : TS} {k : Nat} : ∀ {l : List Nat} {a b : Nat}, RLk t k a b l → b = a + l.length
  | [], a, b, h => by have h : a = b := h; simp [h]
  | r :: l, a, b, h => by have := h.2.len; rw [List.length_cons]; omega
theorem RLk.le {t : TS} {k a b : Nat} {l : List Nat} (h : RLk t k a b l) : a ≤ b := by have := h.len; omega
theorem RLk.cat {t : TS} {k : Nat} : ∀ {l l' : List Nat} {a b c : Nat}, RLk t k a b l → RLk t k b c l' → RLk t k a c (l ++ l')
  | [], l', a, b, c, h, h' => by have h : a = b := h; subst h; exact h'
  | r :: l, l', a, b, c, h, h' => ⟨h.1, h.2.cat h'⟩
theorem RLk.one {t : TS} {k r : Nat} (h1 : r < tN t 0 3) (h2 : tN t 2 r = k) : RLk t k (cnt t k r) (cnt t k r + 1) [r] := ⟨⟨h1, h2, rfl⟩, rfl⟩
theorem RLk.mem {t : TS} {k : Nat} : ∀ {l : List Nat} {a b r : Nat}, RLk t k a b l → r ∈ l → r < tN t 0 3 ∧ tN t 2 r = k ∧ a ≤ cnt t k r ∧ cnt t k r < b
  | [], a, b, r, h, hr => by simp at hr
  | x :: l, a, b, r, h, hr => by
    have h1 := h.2.le
    rcases List.mem_cons.mp hr with e | e
    · subst e; exact ⟨h.1.1, h.1.2.1, by have := h.1.2.2; omega, by have := h.1.2.2; omega⟩
    · obtain ⟨p, q, u, v⟩ := h.2.mem e; exact ⟨p, q, by omega, v⟩
theorem RLk.nodup {t : TS} {k : Nat} : ∀ {l : List Nat} {a b : Nat}, RLk t k a b l → l.Nodup
  | [], a, b, h => List.nodup_nil
  | x :: l, a, b, h => List.nodup_cons.mpr ⟨fun z => by have := (h.2.mem z).2.2.1; have := h.1.2.2; omega, h.2.nodup⟩
theorem RLk.cg {t t' : TS} (h2 : tN t' 2 = tN t 2) (h3 : tN t' 0 3 = tN t 0 3) {k : Nat} : ∀ {l : List Nat} {a b : Nat}, RLk t k a b l → RLk t' k a b l
  | [], a, b, h => h
  | x :: l, a, b, h => ⟨⟨by rw [h3]; exact h.1.1, by rw [h2]; exact h.1.2.1, by rw [cnt_cg h2]; exact h.1.2.2⟩, h.2.cg h2 h3⟩
theorem RLk.sum {t : TS} {k : Nat} : ∀ {l : List Nat} {a b : Nat}, RLk t k a b l → inpS t k a (tN t 0 3) + ksN t k l = inpS t k b (tN t 0 3)
  | [], a, b, h => by have h : a = b := h; subst h; simp [ksN]
  | x :: l, a, b, h => by
    have e := h.2.sum
    rw [inpS_next h.1.2.1 h.1.2.2 _ h.1.1] at e
    rw [← e]
    show _ + ((if tN t 2 x = k then tL t 0 x else 0) + ksN t k l) = _
    rw [if_pos h.1.2.1, Int64.add_assoc]
/-- the rows of KEY k of a list -/
def fk (t : TS) (k : Nat) (l : List Nat) : List Nat := l.filter (fun r => decide (tN t 2 r = k))
theorem fk_nil {t : TS} {k : Nat} : fk t k [] = [] := rfl
theorem fk_cons_s {t : TS} {k r : Nat} {l : List Nat} (h : tN t 2 r = k) : fk t k (r :: l) = r :: fk t k l := List.filter_cons_of_pos (by simp [h])
theorem fk_cons_n {t : TS} {k r : Nat} {l : List Nat} (h : tN t 2 r ≠ k) : fk t k (r :: l) = fk t k l := List.filter_cons_of_neg (by simp [h])
theorem fk_app {t : TS} {k : Nat} {l l' : List Nat} : fk t k (l ++ l') = fk t k l ++ fk t k l' := List.filter_append ..
theorem fk_mem {t : TS} {k r : Nat} {l : List Nat} : r ∈ fk t k l ↔ r ∈ l ∧ tN t 2 r = k := by unfold fk; rw [List.mem_filter, decide_eq_true_eq]
theorem fk_none {t : TS} {k : Nat} {l : List Nat} (h : ∀ r, r ∈ l → tN t 2 r ≠ k) : fk t k l = [] := List.filter_eq_nil_iff.mpr (fun r hr => by simp [h r hr])
theorem fk_cg {t t' : TS} (h2 : tN t' 2 = tN t 2) {k : Nat} {l : List Nat} : fk t' k l = fk t k l := by unfold fk; rw [h2]
theorem kcN_fk {t : TS} {k : Nat} : ∀ l : List Nat, kcN t k l = (fk t k l).length
  | [] => rfl
  | r :: l => by
    show (if tN t 2 r = k then 1 else 0) + kcN t k l = _
    rw [kcN_fk l]
    by_cases h : tN t 2 r = k
    · rw [if_pos h, fk_cons_s h, List.length_cons]; omega
    · rw [if_neg h, fk_cons_n h]; omega
theorem ksN_fk {t : TS} {k : Nat} : ∀ l : List Nat, ksN t k l = ksN t k (fk t k l)
  | [] => rfl
  | r :: l => by
    show (if tN t 2 r = k then tL t 0 r else 0) + ksN t k l = _
    rw [ksN_fk l]
    by_cases h : tN t 2 r = k
    · rw [fk_cons_s h]; rfl
    · rw [if_neg h, fk_cons_n h, Int64.zero_add]
theorem nodup_fk {t : TS} {l : List Nat} (h : ∀ k, (fk t k l).Nodup) : l.Nodup := by
  rw [List.nodup_iff_count]
  intro a
  have h1 := List.nodup_iff_count.mp (h (tN t 2 a)) a
  unfold fk at h1
  rwa [List.count_filter (by simp)] at h1
/-- the rows of KEY k kept for a gap -/
def kk (t : TS) (g k : Nat) (l : List (Nat × Nat)) : List Nat := (l.filter (fun p => decide (p.1 / 16 = g ∧ tN t 2 p.2 = k))).map (fun p => p.2)
theorem kk_app {t : TS} {g k : Nat} {l l' : List (Nat × Nat)} : kk t g k (l ++ l') = kk t g k l ++ kk t g k l' := by unfold kk; rw [List.filter_append, List.map_append]
theorem kk_s {t : TS} {g k : Nat} {p : Nat × Nat} (h : p.1 / 16 = g ∧ tN t 2 p.2 = k) : kk t g k [p] = [p.2] := by unfold kk; rw [List.filter_cons_of_pos (by simp [h])]; rfl
theorem kk_n {t : TS} {g k : Nat} {p : Nat × Nat} (h : ¬ (p.1 / 16 = g ∧ tN t 2 p.2 = k)) : kk t g k [p] = [] := by unfold kk; rw [List.filter_cons_of_neg (by rw [decide_eq_true_eq]; exact h)]; rfl
theorem kk_cg {t t' : TS} (h2 : tN t' 2 = tN t 2) {g k : Nat} {l : List (Nat × Nat)} : kk t' g k l = kk t g k l := by unfold kk; rw [h2]
theorem kk_map_s {t : TS} {g k c : Nat} (hc : c / 16 = g) : ∀ l : List Nat, kk t g k (l.map (fun r => (c, r))) = fk t k l
  | [] => rfl
  | r :: l => by
    have e : kk t g k ((r :: l).map (fun r => (c, r))) = kk t g k [(c, r)] ++ kk t g k (l.map (fun r => (c, r))) := by rw [← kk_app]; rfl
    rw [e, kk_map_s hc l]
    by_cases h : tN t 2 r = k
    · rw [kk_s ⟨hc, h⟩, fk_cons_s h]; rfl
    · rw [kk_n (fun z => h z.2), fk_cons_n h]; rfl
theorem kk_map_n {t : TS} {g k c : Nat} (hc : c / 16 ≠ g) : ∀ l : List Nat, kk t g k (l.map (fun r => (c, r))) = []
  | [] => rfl
  | r :: l => by
    have e : kk t g k ((r :: l).map (fun r => (c, r))) = kk t g k [(c, r)] ++ kk t g k (l.map (fun r => (c, r))) := by rw [← kk_app]; rfl
    rw [e, kk_map_n hc l, kk_n (fun z => hc z.1)]; rfl
theorem kcK_kk {t : TS} {g k : Nat} : ∀ l : List (Nat × Nat), kcK t g k l = (kk t g k l).length
  | [] => rfl
  | p :: l => by
    have e : kk t g k (p :: l) = kk t g k [p] ++ kk t g k l := by rw [← kk_app]; rfl
    show (if p.1 / 16 = g ∧ tN t 2 p.2 = k then 1 else 0) + kcK t g k l = _
    rw [kcK_kk l, e, List.length_append]
    by_cases h : p.1 / 16 = g ∧ tN t 2 p.2 = k
    · rw [if_pos h, kk_s h]; rfl
    · rw [if_neg h, kk_n h]; rfl
theorem ksK_kk {t : TS} {g k : Nat} : ∀ l : List (Nat × Nat), ksK t g k l = ksN t k (kk t g k l)
  | [] => rfl
  | p :: l => by
    have e : kk t g k (p :: l) = kk t g k [p] ++ kk t g k l := by rw [← kk_app]; rfl
    show (if p.1 / 16 = g ∧ tN t 2 p.2 = k then tL t 0 p.2 else 0) + ksK t g k l = _
    rw [ksK_kk l, e]
    by_cases h : p.1 / 16 = g ∧ tN t 2 p.2 = k
    · rw [if_pos h, kk_s h]
      show _ = (if tN t 2 p.2 = k then tL t 0 p.2 else 0) + _
      rw [if_pos h.2]; rfl
    · rw [if_neg h, kk_n h, Int64.zero_add]; rfl
