/-! ===== the class's picture of the state =====
the object at x, the reference at m .. m + 23, the marks from m + 24 on, 7 cells each.
what the class knows besides t: e: naturals 0 unread row + 1 (key), 1 loose (channel), 2 came (task), 3 loose channels (mark), 4 P then (4 mark + stage); ints 0 first came (task), 1 ended (mark) -/
abbrev ES : Type := (Nat → Nat → Nat) × (Nat → Nat → Int32)
def xN (e : ES) : Nat → Nat → Nat := e.1
def xI (e : ES) : Nat → Nat → Int32 := e.2
def vNs (e : ES) (j : Nat) (f : Nat → Nat) : ES := (va_up (xN e) j f, xI e)
def vN (e : ES) (j i v : Nat) : ES := vNs e j (va_up (xN e j) i v)
def vIs (e : ES) (j : Nat) (f : Nat → Int32) : ES := (xN e, va_up (xI e) j f)
def vI (e : ES) (j i : Nat) (v : Int32) : ES := vIs e j (va_up (xI e j) i v)
theorem xN_vN {e : ES} {j i v k l : Nat} : xN (vN e j i v) k l = if k = j ∧ l = i then v else xN e k l := by
  show va_up (xN e) j (va_up (xN e j) i v) k l = _
  unfold va_up
  by_cases h1 : k = j
  · subst h1
    by_cases h2 : l = i <;> simp [h2]
  · simp [h1]
theorem xI_vI {e : ES} {j i k l : Nat} {v : Int32} : xI (vI e j i v) k l = if k = j ∧ l = i then v else xI e k l := by
  show va_up (xI e) j (va_up (xI e j) i v) k l = _
  unfold va_up
  by_cases h1 : k = j
  · subst h1
    by_cases h2 : l = i <;> simp [h2]
  · simp [h1]
/-- the cells -/
def XL (x m S n : Nat) (h : AH) : Prop :=
  (2 ≤ S ∧ S ≤ 4 ∧ n ≤ 8 ∧ x + 20 * S ≤ m) ∧ hS h x = (0, 5) ∧ (hR h x 1 = some (x + 1) ∧ hS h (x + 1) = (1, 4)) ∧ (hR h x 2 = some (x + 2) ∧ X1L (x + 2) h) ∧ (hR h x 3 = some (x + 6) ∧ T3 (x + 6) h) ∧ (hR h x 6 = some (x + 9) ∧ hS h (x + 9) = (5, 8)) ∧ (hR h x 7 = some (x + 10) ∧ T3 (x + 10) h) ∧ hS h (x + 13) = (1, 200) ∧ (hR h x 4 = some (x + 14) ∧ hS h (x + 14) = (4, 16 * (S - 1))) ∧ (∀ c, c < 16 * (S - 1) → hR h (x + 14) c = some (x + 15 + c) ∧ hS h (x + 15 + c) = (0, 0) ∧ hR h (x + 15 + c) 1 = some (x + 13)) ∧ (hR h x 5 = some (x + 16 * S - 1) ∧ hS h (x + 16 * S - 1) = (6, 4 * S)) ∧ (∀ i, i < 4 * S → hR h (x + 16 * S - 1) i = some (x + 16 * S + i) ∧ hS h (x + 16 * S + i) = (0, 4)) ∧ (∀ j, j < 8 → hR h (x + 9) j = if j < n then some (m + 24 + 7 * j) else none) ∧ ∀ j, j < n → X2L (m + 24 + 7 * j) h
section XLs
variable {x m S n : Nat} {h : AH}
theorem XL.b (L : XL x m S n h) : 2 ≤ S ∧ S ≤ 4 ∧ n ≤ 8 ∧ x + 20 * S ≤ m := L.1
theorem XL.o (L : XL x m S n h) : hS h x = (0, 5) := L.2.1
theorem XL.r1 (L : XL x m S n h) : hR h x 1 = some (x + 1) := L.2.2.1.1
theorem XL.s1 (L : XL x m S n h) : hS h (x + 1) = (1, 4) := L.2.2.1.2
theorem XL.r2 (L : XL x m S n h) : hR h x 2 = some (x + 2) := L.2.2.2.1.1
theorem XL.I (L : XL x m S n h) : X1L (x + 2) h := L.2.2.2.1.2
theorem XL.r3 (L : XL x m S n h) : hR h x 3 = some (x + 6) := L.2.2.2.2.1.1
theorem XL.T (L : XL x m S n h) : T3 (x + 6) h := L.2.2.2.2.1.2
theorem XL.r6 (L : XL x m S n h) : hR h x 6 = some (x + 9) := L.2.2.2.2.2.1.1
theorem XL.s6 (L : XL x m S n h) : hS h (x + 9) = (5, 8) := L.2.2.2.2.2.1.2
theorem XL.r7 (L : XL x m S n h) : hR h x 7 = some (x + 10) := L.2.2.2.2.2.2.1.1
theorem XL.F (L : XL x m S n h) : T3 (x + 10) h := L.2.2.2.2.2.2.1.2
theorem XL.sb (L : XL x m S n h) : hS h (x + 13) = (1, 200) := L.2.2.2.2.2.2.2.1
theorem XL.r4 (L : XL x m S n h) : hR h x 4 = some (x + 14) := L.2.2.2.2.2.2.2.2.1.1
theorem XL.s4 (L : XL x m S n h) : hS h (x + 14) = (4, 16 * (S - 1)) := L.2.2.2.2.2.2.2.2.1.2
theorem XL.ch (L : XL x m S n h) {c : Nat} (hc : c < 16 * (S - 1)) : hR h (x + 14) c = some (x + 15 + c) ∧ hS h (x + 15 + c) = (0, 0) ∧ hR h (x + 15 + c) 1 = some (x + 13) := L.2.2.2.2.2.2.2.2.2.1 c hc
theorem XL.r5 (L : XL x m S n h) : hR h x 5 = some (x + 16 * S - 1) := L.2.2.2.2.2.2.2.2.2.2.1.1
theorem XL.s5 (L : XL x m S n h) : hS h (x + 16 * S - 1) = (6, 4 * S) := L.2.2.2.2.2.2.2.2.2.2.1.2
theorem XL.tk (L : XL x m S n h) {i : Nat} (hi : i < 4 * S) : hR h (x + 16 * S - 1) i = some (x + 16 * S + i) ∧ hS h (x + 16 * S + i) = (0, 4) := L.2.2.2.2.2.2.2.2.2.2.2.1 i hi
theorem XL.mk (L : XL x m S n h) {j : Nat} (hj : j < 8) : hR h (x + 9) j = if j < n then some (m + 24 + 7 * j) else none := L.2.2.2.2.2.2.2.2.2.2.2.2.1 j hj
theorem XL.M (L : XL x m S n h) {j : Nat} (hj : j < n) : X2L (m + 24 + 7 * j) h := L.2.2.2.2.2.2.2.2.2.2.2.2.2 j hj
theorem XL.fq {P : Nat → Prop} {h' : AH} (L : XL x m S n h) (f : Fq P h h') : XL x m S n h' := by
  unfold XL X1L T3 X2L T3; rw [f.2.1, f.2.2.1]; exact L
end XLs
def kO5 (t : TS) (f : Nat → Int32) : Prop := f 0 = nI (tN t 0 0) ∧ f 8 = nI (tN t 0 4) ∧ f 9 = nI (tN t 0 5) - 1 ∧ f 10 = tI t 0 1 ∧ f 11 = nI (tN t 0 1) ∧ f 12 = tI t 0 0 ∧ f 13 = nI (tN t 0 2)
def kCh (c : Nat) (t : TS) (e : ES) (f : Nat → Int32) : Prop := f 0 = nI c ∧ f 2 = fsI (tC t c) ∧ f 3 = lsI (tC t c) ∧ f 4 = nI (tC t c).length ∧ f 5 = nI (tN t 4 c) - 1 ∧ f 6 = nI (tN t 5 c) ∧ f 7 = nI (xN e 1 c)
def kTk (i : Nat) (t : TS) (e : ES) (f : Nat → Int32) : Prop := f 0 = nI (tN t 6 i) ∧ f 1 = nI (xN e 2 i) ∧ f 2 = xI e 0 i ∧ f 3 = nI (tN t 8 i)
def kMo (j : Nat) (t : TS) (e : ES) (f : Nat → Int32) : Prop := f 1 = tI t 2 j ∧ f 5 = nI (tK t j).length ∧ f 6 = nI (xN e 3 j) ∧ f 7 = nI (tN t 9 j) ∧ f 8 = xI e 1 j
theorem kCh.cg {c : Nat} {t t' : TS} {e e' : ES} {f : Nat → Int32} (k : kCh c t e f) (h1 : tC t' c = tC t c) (h2 : tN t' 4 c = tN t 4 c) (h3 : tN t' 5 c = tN t 5 c) (h4 : xN e' 1 c = xN e 1 c) : kCh c t' e' f := by
  unfold kCh; rw [h1, h2, h3, h4]; exact k
theorem kTk.cg {i : Nat} {t t' : TS} {e e' : ES} {f : Nat → Int32} (k : kTk i t e f) (h1 : tN t' 6 i = tN t 6 i) (h2 : tN t' 8 i = tN t 8 i) (h3 : xN e' 2 i = xN e 2 i) (h4 : xI e' 0 i = xI e 0 i) : kTk i t' e' f := by
  unfold kTk; rw [h1, h2, h3, h4]; exact k
theorem kMo.cg {j : Nat} {t t' : TS} {e e' : ES} {f : Nat → Int32} (k : kMo j t e f) (h1 : tI t' 2 j = tI t 2 j) (h2 : tK t' j = tK t j) (h3 : xN e' 3 j = xN e 3 j) (h4 : tN t' 9 j = tN t 9 j) (h5 : xI e' 1 j = xI e 1 j) : kMo j t' e' f := by
  unfold kMo; rw [h1, h2, h3, h4, h5]; exact k
/-- the class's object at x holds t, and e besides -/
def RX (x m : Nat) (t : TS) (e : ES) (h : AH) : Prop := XL x m (tN t 0 0) (tN t 0 4) h ∧ kO5 t (hI h x) ∧ kN 4 1 t (hI h (x + 1)) ∧ hI h (x + 2) 3 = nI (tN t 0 3) ∧ kN 200 2 t (hI h (x + 3)) ∧ kL 200 0 t (hL h (x + 4)) ∧ (∀ k, k < 16 → hI h (x + 5) k = nI (xN e 0 k) - 1) ∧ kN 64 3 t (hI h (x + 7)) ∧ kL 64 1 t (hL h (x + 8)) ∧ (∀ c, c < 16 * (tN t 0 0 - 1) → CHN (hI h (x + 13)) (tC t c)) ∧ (∀ c, c < 16 * (tN t 0 0 - 1) → kCh c t e (hI h (x + 15 + c))) ∧ (∀ i, i < 4 * tN t 0 0 → kTk i t e (hI h (x + 16 * tN t 0 0 + i))) ∧ (∀ j, j < tN t 0 4 → kMo j t e (hI h (m + 24 + 7 * j))) ∧ (∀ j, j < tN t 0 4 → ∀ i, i < (tK t j).length → hI h (m + 24 + 7 * j + 4) i = nI ((tK t j).getD i (0, 0)).2) ∧ (∀ j, j < tN t 0 4 → ∀ i, i < (tK t j).length → hI h (m + 24 + 7 * j + 5) i = nI ((tK t j).getD i (0, 0)).1) ∧ (∀ j, j < tN t 0 4 → ∀ i, i < 64 → hI h (m + 24 + 7 * j + 2) i = nI (tN t 11 (64 * j + i))) ∧ (∀ j, j < tN t 0 4 → ∀ i, i < 64 → hL h (m + 24 + 7 * j + 3) i = tL t 2 (64 * j + i)) ∧ (∀ j, j < tN t 0 4 → ∀ s, s < 4 → hI h (m + 24 + 7 * j + 6) s = nI (xN e 4 (4 * j + s)))
theorem RX.L {x m : Nat} {t : TS} {e : ES} {h : AH} (E : RX x m t e h) : XL x m (tN t 0 0) (tN t 0 4) h := E.1
theorem RX.k_ob {x m : Nat} {t : TS} {e : ES} {h : AH} (E : RX x m t e h) : kO5 t (hI h x) := E.2.1
theorem RX.k_P {x m : Nat} {t : TS} {e : ES} {h : AH} (E : RX x m t e h) : kN 4 1 t (hI h (x + 1)) := E.2.2.1
theorem RX.k_fed {x m : Nat} {t : TS} {e : ES} {h : AH} (E : RX x m t e h) : hI h (x + 2) 3 = nI (tN t 0 3) := E.2.2.2.1
theorem RX.k_key {x m : Nat} {t : TS} {e : ES} {h : AH} (E : RX x m t e h) : kN 200 2 t (hI h (x + 3)) := E.2.2.2.2.1
theorem RX.k_val {x m : Nat} {t : TS} {e : ES} {h : AH} (E : RX x m t e h) : kL 200 0 t (hL h (x + 4)) := E.2.2.2.2.2.1
theorem RX.k_unr {x m : Nat} {t : TS} {e : ES} {h : AH} (E : RX x m t e h) (k : Nat) (hk : k < 16) : hI h (x + 5) k = nI (xN e 0 k) - 1 := E.2.2.2.2.2.2.1 k hk
theorem RX.k_many {x m : Nat} {t : TS} {e : ES} {h : AH} (E : RX x m t e h) : kN 64 3 t (hI h (x + 7)) := E.2.2.2.2.2.2.2.1
theorem RX.k_sum {x m : Nat} {t : TS} {e : ES} {h : AH} (E : RX x m t e h) : kL 64 1 t (hL h (x + 8)) := E.2.2.2.2.2.2.2.2.1
theorem RX.k_beh {x m : Nat} {t : TS} {e : ES} {h : AH} (E : RX x m t e h) (c : Nat) (hc : c < 16 * (tN t 0 0 - 1)) : CHN (hI h (x + 13)) (tC t c) := E.2.2.2.2.2.2.2.2.2.1 c hc
theorem RX.k_ch {x m : Nat} {t : TS} {e : ES} {h : AH} (E : RX x m t e h) (c : Nat) (hc : c < 16 * (tN t 0 0 - 1)) : kCh c t e (hI h (x + 15 + c)) := E.2.2.2.2.2.2.2.2.2.2.1 c hc
theorem RX.k_tk {x m : Nat} {t : TS} {e : ES} {h : AH} (E : RX x m t e h) (i : Nat) (hi : i < 4 * tN t 0 0) : kTk i t e (hI h (x + 16 * tN t 0 0 + i)) := E.2.2.2.2.2.2.2.2.2.2.2.1 i hi
theorem RX.k_mo {x m : Nat} {t : TS} {e : ES} {h : AH} (E : RX x m t e h) (j : Nat) (hj : j < tN t 0 4) : kMo j t e (hI h (m + 24 + 7 * j)) := E.2.2.2.2.2.2.2.2.2.2.2.2.1 j hj
theorem RX.k_mr {x m : Nat} {t : TS} {e : ES} {h : AH} (E : RX x m t e h) (j : Nat) (hj : j < tN t 0 4) : ∀ i, i < (tK t j).length → hI h (m + 24 + 7 * j + 4) i = nI ((tK t j).getD i (0, 0)).2 := E.2.2.2.2.2.2.2.2.2.2.2.2.2.1 j hj
theorem RX.k_mf {x m : Nat} {t : TS} {e : ES} {h : AH} (E : RX x m t e h) (j : Nat) (hj : j < tN t 0 4) : ∀ i, i < (tK t j).length → hI h (m + 24 + 7 * j + 5) i = nI ((tK t j).getD i (0, 0)).1 := E.2.2.2.2.2.2.2.2.2.2.2.2.2.2.1 j hj
theorem RX.k_mt {x m : Nat} {t : TS} {e : ES} {h : AH} (E : RX x m t e h) (j : Nat) (hj : j < tN t 0 4) : ∀ i, i < 64 → hI h (m + 24 + 7 * j + 2) i = nI (tN t 11 (64 * j + i)) := E.2.2.2.2.2.2.2.2.2.2.2.2.2.2.2.1 j hj
theorem RX.k_ms {x m : Nat} {t : TS} {e : ES} {h : AH} (E : RX x m t e h) (j : Nat) (hj : j < tN t 0 4) : ∀ i, i < 64 → hL h (m + 24 + 7 * j + 3) i = tL t 2 (64 * j + i) := E.2.2.2.2.2.2.2.2.2.2.2.2.2.2.2.2.1 j hj
theorem RX.k_mw {x m : Nat} {t : TS} {e : ES} {h : AH} (E : RX x m t e h) (j : Nat) (hj : j < tN t 0 4) : ∀ s, s < 4 → hI h (m + 24 + 7 * j + 6) s = nI (xN e 4 (4 * j + s)) := E.2.2.2.2.2.2.2.2.2.2.2.2.2.2.2.2.2 j hj
theorem RX.S {x m : Nat} {t : TS} {e : ES} {h : AH} (E : RX x m t e h) : hI h x 0 = nI (tN t 0 0) := E.k_ob.1
theorem RX.marks {x m : Nat} {t : TS} {e : ES} {h : AH} (E : RX x m t e h) : hI h x 8 = nI (tN t 0 4) := E.k_ob.2.1
theorem RX.uw {x m : Nat} {t : TS} {e : ES} {h : AH} (E : RX x m t e h) : hI h x 9 = nI (tN t 0 5) - 1 := E.k_ob.2.2.1
theorem RX.turns {x m : Nat} {t : TS} {e : ES} {h : AH} (E : RX x m t e h) : hI h x 10 = tI t 0 1 := E.k_ob.2.2.2.1
theorem RX.cap {x m : Nat} {t : TS} {e : ES} {h : AH} (E : RX x m t e h) : hI h x 11 = nI (tN t 0 1) := E.k_ob.2.2.2.2.1
theorem RX.bnd {x m : Nat} {t : TS} {e : ES} {h : AH} (E : RX x m t e h) : hI h x 12 = tI t 0 0 := E.k_ob.2.2.2.2.2.1
theorem RX.lim {x m : Nat} {t : TS} {e : ES} {h : AH} (E : RX x m t e h) : hI h x 13 = nI (tN t 0 2) := E.k_ob.2.2.2.2.2.2
theorem RX.p_turns {x m : Nat} {t : TS} {e : ES} {h : AH} (E : RX x m t e h) (v : Int32) : RX x m (uI t 0 1 v) (e) (pI h x 10 v) := by
  have b := E.L.b
  refine ⟨E.L, ?_, ?_, ?_, ?_, ?_, ?_, ?_, ?_, ?_, ?_, ?_, ?_, ?_, ?_, ?_, ?_, ?_⟩
  · rw [hI_eq]
    obtain ⟨e1, e2, e3, e4, e5, e6, e7⟩ := E.k_ob
    refine ⟨?_, ?_, ?_, ?_, ?_, ?_, ?_⟩ <;> simp [va_up, tN_uN, tI_uI, tN_uI, tI_uN] <;> assumption
  · rw [hI_ne (by omega)]; exact E.k_P
  · rw [hI_ne (by omega)]; exact E.k_fed
  · rw [hI_ne (by omega)]; exact E.k_key
  · exact E.k_val
  · intro k hk
    have hk : k < 16 := hk
    rw [hI_ne (by omega)]; exact E.k_unr k hk
  · rw [hI_ne (by omega)]; exact E.k_many
  · exact E.k_sum
  · intro c hc
    have hc : c < 16 * (tN t 0 0 - 1) := hc
    rw [hI_ne (by omega)]; exact E.k_beh c hc
  · intro c hc
    have hc : c < 16 * (tN t 0 0 - 1) := hc
    rw [hI_ne (by omega)]; exact E.k_ch c hc
  · intro i hi
    have hi : i < 4 * tN t 0 0 := hi
    show kTk i (uI t 0 1 v) (e) (hI (pI h x 10 v) (x + 16 * tN t 0 0 + i)); rw [hI_ne (by omega)]; exact E.k_tk i hi
  · intro j hj
    have hj : j < tN t 0 4 := hj
    rw [hI_ne (by omega)]; exact E.k_mo j hj
  · intro j hj
    have hj : j < tN t 0 4 := hj
    rw [hI_ne (by omega)]; exact E.k_mr j hj
  · intro j hj
    have hj : j < tN t 0 4 := hj
    rw [hI_ne (by omega)]; exact E.k_mf j hj
  · intro j hj
    have hj : j < tN t 0 4 := hj
    rw [hI_ne (by omega)]; exact E.k_mt j hj
  · intro j hj
    have hj : j < tN t 0 4 := hj
    exact E.k_ms j hj
  · intro j hj
    have hj : j < tN t 0 4 := hj
    rw [hI_ne (by omega)]; exact E.k_mw j hj
theorem RX.p_bnd {x m : Nat} {t : TS} {e : ES} {h : AH} (E : RX x m t e h) (v : Int32) : RX x m (uI t 0 0 v) (e) (pI h x 12 v) := by
  have b := E.L.b
  refine ⟨E.L, ?_, ?_, ?_, ?_, ?_, ?_, ?_, ?_, ?_, ?_, ?_, ?_, ?_, ?_, ?_, ?_, ?_⟩
  · rw [hI_eq]
    obtain ⟨e1, e2, e3, e4, e5, e6, e7⟩ := E.k_ob
    refine ⟨?_, ?_, ?_, ?_, ?_, ?_, ?_⟩ <;> simp [va_up, tN_uN, tI_uI, tN_uI, tI_uN] <;> assumption
  · rw [hI_ne (by omega)]; exact E.k_P
  · rw [hI_ne (by omega)]; exact E.k_fed
  · rw [hI_ne (by omega)]; exact E.k_key
  · exact E.k_val
  · intro k hk
    have hk : k < 16 := hk
    rw [hI_ne (by omega)]; exact E.k_unr k hk
  · rw [hI_ne (by omega)]; exact E.k_many
  · exact E.k_sum
  · intro c hc
    have hc : c < 16 * (tN t 0 0 - 1) := hc
    rw [hI_ne (by omega)]; exact E.k_beh c hc
  · intro c hc
    have hc : c < 16 * (tN t 0 0 - 1) := hc
    rw [hI_ne (by omega)]; exact E.k_ch c hc
  · intro i hi
    have hi : i < 4 * tN t 0 0 := hi
    show kTk i (uI t 0 0 v) (e) (hI (pI h x 12 v) (x + 16 * tN t 0 0 + i)); rw [hI_ne (by omega)]; exact E.k_tk i hi
  · intro j hj
    have hj : j < tN t 0 4 := hj
    rw [hI_ne (by omega)]; exact E.k_mo j hj
  · intro j hj
    have hj : j < tN t 0 4 := hj
    rw [hI_ne (by omega)]; exact E.k_mr j hj
  · intro j hj
    have hj : j < tN t 0 4 := hj
    rw [hI_ne (by omega)]; exact E.k_mf j hj
  · intro j hj
    have hj : j < tN t 0 4 := hj
    rw [hI_ne (by omega)]; exact E.k_mt j hj
  · intro j hj
    have hj : j < tN t 0 4 := hj
    exact E.k_ms j hj
  · intro j hj
    have hj : j < tN t 0 4 := hj
    rw [hI_ne (by omega)]; exact E.k_mw j hj
theorem RX.p_cap {x m : Nat} {t : TS} {e : ES} {h : AH} (E : RX x m t e h) (v : Nat) : RX x m (uN t 0 1 v) (e) (pI h x 11 (nI v)) := by
  have b := E.L.b
  refine ⟨E.L, ?_, ?_, ?_, ?_, ?_, ?_, ?_, ?_, ?_, ?_, ?_, ?_, ?_, ?_, ?_, ?_, ?_⟩
  · rw [hI_eq]
    obtain ⟨e1, e2, e3, e4, e5, e6, e7⟩ := E.k_ob
    refine ⟨?_, ?_, ?_, ?_, ?_, ?_, ?_⟩ <;> simp [va_up, tN_uN, tI_uI, tN_uI, tI_uN] <;> assumption
  · rw [hI_ne (by omega)]; exact E.k_P
  · rw [hI_ne (by omega)]; exact E.k_fed
  · rw [hI_ne (by omega)]; exact E.k_key
  · exact E.k_val
  · intro k hk
    have hk : k < 16 := hk
    rw [hI_ne (by omega)]; exact E.k_unr k hk
  · rw [hI_ne (by omega)]; exact E.k_many
  · exact E.k_sum
  · intro c hc
    have hc : c < 16 * (tN t 0 0 - 1) := hc
    rw [hI_ne (by omega)]; exact E.k_beh c hc
  · intro c hc
    have hc : c < 16 * (tN t 0 0 - 1) := hc
    rw [hI_ne (by omega)]; exact E.k_ch c hc
  · intro i hi
    have hi : i < 4 * tN t 0 0 := hi
    show kTk i (uN t 0 1 v) (e) (hI (pI h x 11 (nI v)) (x + 16 * tN t 0 0 + i)); rw [hI_ne (by omega)]; exact E.k_tk i hi
  · intro j hj
    have hj : j < tN t 0 4 := hj
    rw [hI_ne (by omega)]; exact E.k_mo j hj
  · intro j hj
    have hj : j < tN t 0 4 := hj
    rw [hI_ne (by omega)]; exact E.k_mr j hj
  · intro j hj
    have hj : j < tN t 0 4 := hj
    rw [hI_ne (by omega)]; exact E.k_mf j hj
  · intro j hj
    have hj : j < tN t 0 4 := hj
    rw [hI_ne (by omega)]; exact E.k_mt j hj
  · intro j hj
    have hj : j < tN t 0 4 := hj
    exact E.k_ms j hj
  · intro j hj
    have hj : j < tN t 0 4 := hj
    rw [hI_ne (by omega)]; exact E.k_mw j hj
theorem RX.p_lim {x m : Nat} {t : TS} {e : ES} {h : AH} (E : RX x m t e h) (v : Nat) : RX x m (uN t 0 2 v) (e) (pI h x 13 (nI v)) := by
  have b := E.L.b
  refine ⟨E.L, ?_, ?_, ?_, ?_, ?_, ?_, ?_, ?_, ?_, ?_, ?_, ?_, ?_, ?_, ?_, ?_, ?_⟩
  · rw [hI_eq]
    obtain ⟨e1, e2, e3, e4, e5, e6, e7⟩ := E.k_ob
    refine ⟨?_, ?_, ?_, ?_, ?_, ?_, ?_⟩ <;> simp [va_up, tN_uN, tI_uI, tN_uI, tI_uN] <;> assumption
  · rw [hI_ne (by omega)]; exact E.k_P
  · rw [hI_ne (by omega)]; exact E.k_fed
  · rw [hI_ne (by omega)]; exact E.k_key
  · exact E.k_val
  · intro k hk
    have hk : k < 16 := hk
    rw [hI_ne (by omega)]; exact E.k_unr k hk
  · rw [hI_ne (by omega)]; exact E.k_many
  · exact E.k_sum
  · intro c hc
    have hc : c < 16 * (tN t 0 0 - 1) := hc
    rw [hI_ne (by omega)]; exact E.k_beh c hc
  · intro c hc
    have hc : c < 16 * (tN t 0 0 - 1) := hc
    rw [hI_ne (by omega)]; exact E.k_ch c hc
  · intro i hi
    have hi : i < 4 * tN t 0 0 := hi
    show kTk i (uN t 0 2 v) (e) (hI (pI h x 13 (nI v)) (x + 16 * tN t 0 0 + i)); rw [hI_ne (by omega)]; exact E.k_tk i hi
  · intro j hj
    have hj : j < tN t 0 4 := hj
    rw [hI_ne (by omega)]; exact E.k_mo j hj
  · intro j hj
    have hj : j < tN t 0 4 := hj
    rw [hI_ne (by omega)]; exact E.k_mr j hj
  · intro j hj
    have hj : j < tN t 0 4 := hj
    rw [hI_ne (by omega)]; exact E.k_mf j hj
  · intro j hj
    have hj : j < tN t 0 4 := hj
    rw [hI_ne (by omega)]; exact E.k_mt j hj
  · intro j hj
    have hj : j < tN t 0 4 := hj
    exact E.k_ms j hj
  · intro j hj
    have hj : j < tN t 0 4 := hj
    rw [hI_ne (by omega)]; exact E.k_mw j hj
theorem RX.p_uw {x m : Nat} {t : TS} {e : ES} {h : AH} (E : RX x m t e h) (v : Nat) {z : Int32} (hz : z = nI v - 1) : RX x m (uN t 0 5 v) (e) (pI h x 9 z) := by
  have b := E.L.b
  refine ⟨E.L, ?_, ?_, ?_, ?_, ?_, ?_, ?_, ?_, ?_, ?_, ?_, ?_, ?_, ?_, ?_, ?_, ?_⟩
  · rw [hI_eq, hz]
    obtain ⟨e1, e2, e3, e4, e5, e6, e7⟩ := E.k_ob
    refine ⟨?_, ?_, ?_, ?_, ?_, ?_, ?_⟩ <;> simp [va_up, tN_uN, tI_uI, tN_uI, tI_uN] <;> assumption
  · rw [hI_ne (by omega)]; exact E.k_P
  · rw [hI_ne (by omega)]; exact E.k_fed
  · rw [hI_ne (by omega)]; exact E.k_key
  · exact E.k_val
  · intro k hk
    have hk : k < 16 := hk
    rw [hI_ne (by omega)]; exact E.k_unr k hk
  · rw [hI_ne (by omega)]; exact E.k_many
  · exact E.k_sum
  · intro c hc
    have hc : c < 16 * (tN t 0 0 - 1) := hc
    rw [hI_ne (by omega)]; exact E.k_beh c hc
  · intro c hc
    have hc : c < 16 * (tN t 0 0 - 1) := hc
    rw [hI_ne (by omega)]; exact E.k_ch c hc
  · intro i hi
    have hi : i < 4 * tN t 0 0 := hi
    show kTk i (uN t 0 5 v) (e) (hI (pI h x 9 z) (x + 16 * tN t 0 0 + i)); rw [hI_ne (by omega)]; exact E.k_tk i hi
  · intro j hj
    have hj : j < tN t 0 4 := hj
    rw [hI_ne (by omega)]; exact E.k_mo j hj
  · intro j hj
    have hj : j < tN t 0 4 := hj
    rw [hI_ne (by omega)]; exact E.k_mr j hj
  · intro j hj
    have hj : j < tN t 0 4 := hj
    rw [hI_ne (by omega)]; exact E.k_mf j hj
  · intro j hj
    have hj : j < tN t 0 4 := hj
    rw [hI_ne (by omega)]; exact E.k_mt j hj
  · intro j hj
    have hj : j < tN t 0 4 := hj
    exact E.k_ms j hj
  · intro j hj
    have hj : j < tN t 0 4 := hj
    rw [hI_ne (by omega)]; exact E.k_mw j hj
theorem RX.p_P {x m : Nat} {t : TS} {e : ES} {h : AH} (E : RX x m t e h) (i0 v : Nat) : RX x m (uN t 1 i0 v) (e) (pI h (x + 1) i0 (nI v)) := by
  have b := E.L.b
  refine ⟨E.L, ?_, ?_, ?_, ?_, ?_, ?_, ?_, ?_, ?_, ?_, ?_, ?_, ?_, ?_, ?_, ?_, ?_⟩
  · rw [hI_ne (by omega)]; exact E.k_ob
  · rw [hI_eq]; exact kN_put E.k_P
  · rw [hI_ne (by omega)]; exact E.k_fed
  · rw [hI_ne (by omega)]; exact E.k_key
  · exact E.k_val
  · intro k hk
    have hk : k < 16 := hk
    rw [hI_ne (by omega)]; exact E.k_unr k hk
  · rw [hI_ne (by omega)]; exact E.k_many
  · exact E.k_sum
  · intro c hc
    have hc : c < 16 * (tN t 0 0 - 1) := hc
    rw [hI_ne (by omega)]; exact E.k_beh c hc
  · intro c hc
    have hc : c < 16 * (tN t 0 0 - 1) := hc
    rw [hI_ne (by omega)]; exact E.k_ch c hc
  · intro i hi
    have hi : i < 4 * tN t 0 0 := hi
    show kTk i (uN t 1 i0 v) (e) (hI (pI h (x + 1) i0 (nI v)) (x + 16 * tN t 0 0 + i)); rw [hI_ne (by omega)]; exact E.k_tk i hi
  · intro j hj
    have hj : j < tN t 0 4 := hj
    rw [hI_ne (by omega)]; exact E.k_mo j hj
  · intro j hj
    have hj : j < tN t 0 4 := hj
    rw [hI_ne (by omega)]; exact E.k_mr j hj
  · intro j hj
    have hj : j < tN t 0 4 := hj
    rw [hI_ne (by omega)]; exact E.k_mf j hj
  · intro j hj
    have hj : j < tN t 0 4 := hj
    rw [hI_ne (by omega)]; exact E.k_mt j hj
  · intro j hj
    have hj : j < tN t 0 4 := hj
    exact E.k_ms j hj
  · intro j hj
    have hj : j < tN t 0 4 := hj
    rw [hI_ne (by omega)]; exact E.k_mw j hj
theorem RX.p_fed {x m : Nat} {t : TS} {e : ES} {h : AH} (E : RX x m t e h) (v : Nat) : RX x m (uN t 0 3 v) (e) (pI h (x + 2) 3 (nI v)) := by
  have b := E.L.b
  refine ⟨E.L, ?_, ?_, ?_, ?_, ?_, ?_, ?_, ?_, ?_, ?_, ?_, ?_, ?_, ?_, ?_, ?_, ?_⟩
  · rw [hI_ne (by omega)]; exact E.k_ob
  · rw [hI_ne (by omega)]; exact E.k_P
  · rw [hI_eq, up_s]; rfl
  · rw [hI_ne (by omega)]; exact E.k_key
  · exact E.k_val
  · intro k hk
    have hk : k < 16 := hk
    rw [hI_ne (by omega)]; exact E.k_unr k hk
  · rw [hI_ne (by omega)]; exact E.k_many
  · exact E.k_sum
  · intro c hc
    have hc : c < 16 * (tN t 0 0 - 1) := hc
    rw [hI_ne (by omega)]; exact E.k_beh c hc
  · intro c hc
    have hc : c < 16 * (tN t 0 0 - 1) := hc
    rw [hI_ne (by omega)]; exact E.k_ch c hc
  · intro i hi
    have hi : i < 4 * tN t 0 0 := hi
    show kTk i (uN t 0 3 v) (e) (hI (pI h (x + 2) 3 (nI v)) (x + 16 * tN t 0 0 + i)); rw [hI_ne (by omega)]; exact E.k_tk i hi
  · intro j hj
    have hj : j < tN t 0 4 := hj
    rw [hI_ne (by omega)]; exact E.k_mo j hj
  · intro j hj
    have hj : j < tN t 0 4 := hj
    rw [hI_ne (by omega)]; exact E.k_mr j hj
  · intro j hj
    have hj : j < tN t 0 4 := hj
    rw [hI_ne (by omega)]; exact E.k_mf j hj
  · intro j hj
    have hj : j < tN t 0 4 := hj
    rw [hI_ne (by omega)]; exact E.k_mt j hj
  · intro j hj
    have hj : j < tN t 0 4 := hj
    exact E.k_ms j hj
  · intro j hj
    have hj : j < tN t 0 4 := hj
    rw [hI_ne (by omega)]; exact E.k_mw j hj
theorem RX.p_key {x m : Nat} {t : TS} {e : ES} {h : AH} (E : RX x m t e h) (i0 v : Nat) : RX x m (uN t 2 i0 v) (e) (pI h (x + 3) i0 (nI v)) := by
  have b := E.L.b
  refine ⟨E.L, ?_, ?_, ?_, ?_, ?_, ?_, ?_, ?_, ?_, ?_, ?_, ?_, ?_, ?_, ?_, ?_, ?_⟩
  · rw [hI_ne (by omega)]; exact E.k_ob
  · rw [hI_ne (by omega)]; exact E.k_P
  · rw [hI_ne (by omega)]; exact E.k_fed
  · rw [hI_eq]; exact kN_put E.k_key
  · exact E.k_val
  · intro k hk
    have hk : k < 16 := hk
    rw [hI_ne (by omega)]; exact E.k_unr k hk
  · rw [hI_ne (by omega)]; exact E.k_many
  · exact E.k_sum
  · intro c hc
    have hc : c < 16 * (tN t 0 0 - 1) := hc
    rw [hI_ne (by omega)]; exact E.k_beh c hc
  · intro c hc
    have hc : c < 16 * (tN t 0 0 - 1) := hc
    rw [hI_ne (by omega)]; exact E.k_ch c hc
  · intro i hi
    have hi : i < 4 * tN t 0 0 := hi
    show kTk i (uN t 2 i0 v) (e) (hI (pI h (x + 3) i0 (nI v)) (x + 16 * tN t 0 0 + i)); rw [hI_ne (by omega)]; exact E.k_tk i hi
  · intro j hj
    have hj : j < tN t 0 4 := hj
    rw [hI_ne (by omega)]; exact E.k_mo j hj
  · intro j hj
    have hj : j < tN t 0 4 := hj
    rw [hI_ne (by omega)]; exact E.k_mr j hj
  · intro j hj
    have hj : j < tN t 0 4 := hj
    rw [hI_ne (by omega)]; exact E.k_mf j hj
  · intro j hj
    have hj : j < tN t 0 4 := hj
    rw [hI_ne (by omega)]; exact E.k_mt j hj
  · intro j hj
    have hj : j < tN t 0 4 := hj
    exact E.k_ms j hj
  · intro j hj
    have hj : j < tN t 0 4 := hj
    rw [hI_ne (by omega)]; exact E.k_mw j hj
theorem RX.p_val {x m : Nat} {t : TS} {e : ES} {h : AH} (E : RX x m t e h) (i : Nat) (v : Int64) : RX x m (uL t 0 i v) (e) (pL h (x + 4) i v) := by
  have b := E.L.b
  refine ⟨E.L, ?_, ?_, ?_, ?_, ?_, ?_, ?_, ?_, ?_, ?_, ?_, ?_, ?_, ?_, ?_, ?_, ?_⟩
  · exact E.k_ob
  · exact E.k_P
  · exact E.k_fed
  · exact E.k_key
  · rw [hL_eq]; exact kL_put E.k_val
  · intro k hk
    have hk : k < 16 := hk
    exact E.k_unr k hk
  · exact E.k_many
  · rw [hL_ne (by omega)]; exact E.k_sum
  · intro c hc
    have hc : c < 16 * (tN t 0 0 - 1) := hc
    exact E.k_beh c hc
  · intro c hc
    have hc : c < 16 * (tN t 0 0 - 1) := hc
    exact E.k_ch c hc
  · intro i hi
    have hi : i < 4 * tN t 0 0 := hi
    exact E.k_tk i hi
  · intro j hj
    have hj : j < tN t 0 4 := hj
    exact E.k_mo j hj
  · intro j hj
    have hj : j < tN t 0 4 := hj
    exact E.k_mr j hj
  · intro j hj
    have hj : j < tN t 0 4 := hj
    exact E.k_mf j hj
  · intro j hj
    have hj : j < tN t 0 4 := hj
    exact E.k_mt j hj
  · intro j hj
    have hj : j < tN t 0 4 := hj
    rw [hL_ne (by omega)]; exact E.k_ms j hj
  · intro j hj
    have hj : j < tN t 0 4 := hj
    exact E.k_mw j hj
theorem RX.p_unr {x m : Nat} {t : TS} {e : ES} {h : AH} (E : RX x m t e h) (q v : Nat) {z : Int32} (hz : z = nI v - 1) : RX x m (t) (vN e 0 q v) (pI h (x + 5) q z) := by
  have b := E.L.b
  refine ⟨E.L, ?_, ?_, ?_, ?_, ?_, ?_, ?_, ?_, ?_, ?_, ?_, ?_, ?_, ?_, ?_, ?_, ?_⟩
  · rw [hI_ne (by omega)]; exact E.k_ob
  · rw [hI_ne (by omega)]; exact E.k_P
  · rw [hI_ne (by omega)]; exact E.k_fed
  · rw [hI_ne (by omega)]; exact E.k_key
  · exact E.k_val
  · intro k hk
    rw [hI_eq, xN_vN]
    unfold va_up
    by_cases hq : k = q
    · rw [if_pos hq, if_pos ⟨rfl, hq⟩]; exact hz
    · rw [if_neg hq, if_neg (fun z => hq z.2)]; exact E.k_unr k hk
  · rw [hI_ne (by omega)]; exact E.k_many
  · exact E.k_sum
  · intro c hc
    have hc : c < 16 * (tN t 0 0 - 1) := hc
    rw [hI_ne (by omega)]; exact E.k_beh c hc
  · intro c hc
    have hc : c < 16 * (tN t 0 0 - 1) := hc
    rw [hI_ne (by omega)]; exact E.k_ch c hc
  · intro i hi
    have hi : i < 4 * tN t 0 0 := hi
    show kTk i (t) (vN e 0 q v) (hI (pI h (x + 5) q z) (x + 16 * tN t 0 0 + i)); rw [hI_ne (by omega)]; exact E.k_tk i hi
  · intro j hj
    have hj : j < tN t 0 4 := hj
    rw [hI_ne (by omega)]; exact E.k_mo j hj
  · intro j hj
    have hj : j < tN t 0 4 := hj
    rw [hI_ne (by omega)]; exact E.k_mr j hj
  · intro j hj
    have hj : j < tN t 0 4 := hj
    rw [hI_ne (by omega)]; exact E.k_mf j hj
  · intro j hj
    have hj : j < tN t 0 4 := hj
    rw [hI_ne (by omega)]; exact E.k_mt j hj
  · intro j hj
    have hj : j < tN t 0 4 := hj
    exact E.k_ms j hj
  · intro j hj
    have hj : j < tN t 0 4 := hj
    rw [hI_ne (by omega)]; exact E.k_mw j hj
theorem RX.p_many {x m : Nat} {t : TS} {e : ES} {h : AH} (E : RX x m t e h) (i0 v : Nat) : RX x m (uN t 3 i0 v) (e) (pI h (x + 7) i0 (nI v)) := by
  have b := E.L.b
  refine ⟨E.L, ?_, ?_, ?_, ?_, ?_, ?_, ?_, ?_, ?_, ?_, ?_, ?_, ?_, ?_, ?_, ?_, ?_⟩
  · rw [hI_ne (by omega)]; exact E.k_ob
  · rw [hI_ne (by omega)]; exact E.k_P
  · rw [hI_ne (by omega)]; exact E.k_fed
  · rw [hI_ne (by omega)]; exact E.k_key
  · exact E.k_val
  · intro k hk
    have hk : k < 16 := hk
    rw [hI_ne (by omega)]; exact E.k_unr k hk
  · rw [hI_eq]; exact kN_put E.k_many
  · exact E.k_sum
  · intro c hc
    have hc : c < 16 * (tN t 0 0 - 1) := hc
    rw [hI_ne (by omega)]; exact E.k_beh c hc
  · intro c hc
    have hc : c < 16 * (tN t 0 0 - 1) := hc
    rw [hI_ne (by omega)]; exact E.k_ch c hc
  · intro i hi
    have hi : i < 4 * tN t 0 0 := hi
    show kTk i (uN t 3 i0 v) (e) (hI (pI h (x + 7) i0 (nI v)) (x + 16 * tN t 0 0 + i)); rw [hI_ne (by omega)]; exact E.k_tk i hi
  · intro j hj
    have hj : j < tN t 0 4 := hj
    rw [hI_ne (by omega)]; exact E.k_mo j hj
  · intro j hj
    have hj : j < tN t 0 4 := hj
    rw [hI_ne (by omega)]; exact E.k_mr j hj
  · intro j hj
    have hj : j < tN t 0 4 := hj
    rw [hI_ne (by omega)]; exact E.k_mf j hj
  · intro j hj
    have hj : j < tN t 0 4 := hj
    rw [hI_ne (by omega)]; exact E.k_mt j hj
  · intro j hj
    have hj : j < tN t 0 4 := hj
    exact E.k_ms j hj
  · intro j hj
    have hj : j < tN t 0 4 := hj
    rw [hI_ne (by omega)]; exact E.k_mw j hj
theorem RX.p_sum {x m : Nat} {t : TS} {e : ES} {h : AH} (E : RX x m t e h) (i : Nat) (v : Int64) : RX x m (uL t 1 i v) (e) (pL h (x + 8) i v) := by
  have b := E.L.b
  refine ⟨E.L, ?_, ?_, ?_, ?_, ?_, ?_, ?_, ?_, ?_, ?_, ?_, ?_, ?_, ?_, ?_, ?_, ?_⟩
  · exact E.k_ob
  · exact E.k_P
  · exact E.k_fed
  · exact E.k_key
  · rw [hL_ne (by omega)]; exact E.k_val
  · intro k hk
    have hk : k < 16 := hk
    exact E.k_unr k hk
  · exact E.k_many
  · rw [hL_eq]; exact kL_put E.k_sum
  · intro c hc
    have hc : c < 16 * (tN t 0 0 - 1) := hc
    exact E.k_beh c hc
  · intro c hc
    have hc : c < 16 * (tN t 0 0 - 1) := hc
    exact E.k_ch c hc
  · intro i hi
    have hi : i < 4 * tN t 0 0 := hi
    exact E.k_tk i hi
  · intro j hj
    have hj : j < tN t 0 4 := hj
    exact E.k_mo j hj
  · intro j hj
    have hj : j < tN t 0 4 := hj
    exact E.k_mr j hj
  · intro j hj
    have hj : j < tN t 0 4 := hj
    exact E.k_mf j hj
  · intro j hj
    have hj : j < tN t 0 4 := hj
    exact E.k_mt j hj
  · intro j hj
    have hj : j < tN t 0 4 := hj
    rw [hL_ne (by omega)]; exact E.k_ms j hj
  · intro j hj
    have hj : j < tN t 0 4 := hj
    exact E.k_mw j hj
theorem RX.p_bar {x m : Nat} {t : TS} {e : ES} {h : AH} (E : RX x m t e h) {c : Nat} (hc : c < 16 * (tN t 0 0 - 1)) (v : Nat) {z : Int32} (hz : z = nI v - 1) : RX x m (uN t 4 c v) (e) (pI h (x + 15 + c) 5 z) := by
  have b := E.L.b
  refine ⟨E.L, ?_, ?_, ?_, ?_, ?_, ?_, ?_, ?_, ?_, ?_, ?_, ?_, ?_, ?_, ?_, ?_, ?_⟩
  · rw [hI_ne (by omega)]; exact E.k_ob
  · rw [hI_ne (by omega)]; exact E.k_P
  · rw [hI_ne (by omega)]; exact E.k_fed
  · rw [hI_ne (by omega)]; exact E.k_key
  · exact E.k_val
  · intro k hk
    have hk : k < 16 := hk
    rw [hI_ne (by omega)]; exact E.k_unr k hk
  · rw [hI_ne (by omega)]; exact E.k_many
  · exact E.k_sum
  · intro c hc
    have hc : c < 16 * (tN t 0 0 - 1) := hc
    rw [hI_ne (by omega)]; exact E.k_beh c hc
  · intro c' hc'
    have hc' : c' < 16 * (tN t 0 0 - 1) := hc'
    have K := E.k_ch c' hc'
    by_cases q : c' = c
    · subst q
      rw [hI_eq]
      obtain ⟨e1, e2, e3, e4, e5, e6, e7⟩ := K
      refine ⟨?_, ?_, ?_, ?_, ?_, ?_, ?_⟩ <;> simp [va_up, tN_uN, xN_vN, tC_uN] <;> assumption
    · rw [hI_ne (by omega)]
      exact K.cg rfl (by rw [tN_uN, if_neg (fun z => q z.2)]) rfl rfl
  · intro i hi
    have hi : i < 4 * tN t 0 0 := hi
    show kTk i (uN t 4 c v) (e) (hI (pI h (x + 15 + c) 5 z) (x + 16 * tN t 0 0 + i)); rw [hI_ne (by omega)]; exact E.k_tk i hi
  · intro j hj
    have hj : j < tN t 0 4 := hj
    rw [hI_ne (by omega)]; exact E.k_mo j hj
  · intro j hj
    have hj : j < tN t 0 4 := hj
    rw [hI_ne (by omega)]; exact E.k_mr j hj
  · intro j hj
    have hj : j < tN t 0 4 := hj
    rw [hI_ne (by omega)]; exact E.k_mf j hj
  · intro j hj
    have hj : j < tN t 0 4 := hj
    rw [hI_ne (by omega)]; exact E.k_mt j hj
  · intro j hj
    have hj : j < tN t 0 4 := hj
    exact E.k_ms j hj
  · intro j hj
    have hj : j < tN t 0 4 := hj
    rw [hI_ne (by omega)]; exact E.k_mw j hj
theorem RX.p_came {x m : Nat} {t : TS} {e : ES} {h : AH} (E : RX x m t e h) {c : Nat} (hc : c < 16 * (tN t 0 0 - 1)) (v : Nat) : RX x m (uN t 5 c v) (e) (pI h (x + 15 + c) 6 (nI v)) := by
  have b := E.L.b
  refine ⟨E.L, ?_, ?_, ?_, ?_, ?_, ?_, ?_, ?_, ?_, ?_, ?_, ?_, ?_, ?_, ?_, ?_, ?_⟩
  · rw [hI_ne (by omega)]; exact E.k_ob
  · rw [hI_ne (by omega)]; exact E.k_P
  · rw [hI_ne (by omega)]; exact E.k_fed
  · rw [hI_ne (by omega)]; exact E.k_key
  · exact E.k_val
  · intro k hk
    have hk : k < 16 := hk
    rw [hI_ne (by omega)]; exact E.k_unr k hk
  · rw [hI_ne (by omega)]; exact E.k_many
  · exact E.k_sum
  · intro c hc
    have hc : c < 16 * (tN t 0 0 - 1) := hc
    rw [hI_ne (by omega)]; exact E.k_beh c hc
  · intro c' hc'
    have hc' : c' < 16 * (tN t 0 0 - 1) := hc'
    have K := E.k_ch c' hc'
    by_cases q : c' = c
    · subst q
      rw [hI_eq]
      obtain ⟨e1, e2, e3, e4, e5, e6, e7⟩ := K
      refine ⟨?_, ?_, ?_, ?_, ?_, ?_, ?_⟩ <;> simp [va_up, tN_uN, xN_vN, tC_uN] <;> assumption
    · rw [hI_ne (by omega)]
      exact K.cg rfl rfl (by rw [tN_uN, if_neg (fun z => q z.2)]) rfl
  · intro i hi
    have hi : i < 4 * tN t 0 0 := hi
    show kTk i (uN t 5 c v) (e) (hI (pI h (x + 15 + c) 6 (nI v)) (x + 16 * tN t 0 0 + i)); rw [hI_ne (by omega)]; exact E.k_tk i hi
  · intro j hj
    have hj : j < tN t 0 4 := hj
    rw [hI_ne (by omega)]; exact E.k_mo j hj
  · intro j hj
    have hj : j < tN t 0 4 := hj
    rw [hI_ne (by omega)]; exact E.k_mr j hj
  · intro j hj
    have hj : j < tN t 0 4 := hj
    rw [hI_ne (by omega)]; exact E.k_mf j hj
  · intro j hj
    have hj : j < tN t 0 4 := hj
    rw [hI_ne (by omega)]; exact E.k_mt j hj
  · intro j hj
    have hj : j < tN t 0 4 := hj
    exact E.k_ms j hj
  · intro j hj
    have hj : j < tN t 0 4 := hj
    rw [hI_ne (by omega)]; exact E.k_mw j hj
theorem RX.p_loose {x m : Nat} {t : TS} {e : ES} {h : AH} (E : RX x m t e h) {c : Nat} (hc : c < 16 * (tN t 0 0 - 1)) (v : Nat) : RX x m (t) (vN e 1 c v) (pI h (x + 15 + c) 7 (nI v)) := by
  have b := E.L.b
  refine ⟨E.L, ?_, ?_, ?_, ?_, ?_, ?_, ?_, ?_, ?_, ?_, ?_, ?_, ?_, ?_, ?_, ?_, ?_⟩
  · rw [hI_ne (by omega)]; exact E.k_ob
  · rw [hI_ne (by omega)]; exact E.k_P
  · rw [hI_ne (by omega)]; exact E.k_fed
  · rw [hI_ne (by omega)]; exact E.k_key
  · exact E.k_val
  · intro k hk
    have hk : k < 16 := hk
    rw [hI_ne (by omega)]; exact E.k_unr k hk
  · rw [hI_ne (by omega)]; exact E.k_many
  · exact E.k_sum
  · intro c hc
    have hc : c < 16 * (tN t 0 0 - 1) := hc
    rw [hI_ne (by omega)]; exact E.k_beh c hc
  · intro c' hc'
    have hc' : c' < 16 * (tN t 0 0 - 1) := hc'
    have K := E.k_ch c' hc'
    by_cases q : c' = c
    · subst q
      rw [hI_eq]
      obtain ⟨e1, e2, e3, e4, e5, e6, e7⟩ := K
      refine ⟨?_, ?_, ?_, ?_, ?_, ?_, ?_⟩ <;> simp [va_up, tN_uN, xN_vN, tC_uN] <;> assumption
    · rw [hI_ne (by omega)]
      exact K.cg rfl rfl rfl (by rw [xN_vN, if_neg (fun z => q z.2)])
  · intro i hi
    have hi : i < 4 * tN t 0 0 := hi
    show kTk i (t) (vN e 1 c v) (hI (pI h (x + 15 + c) 7 (nI v)) (x + 16 * tN t 0 0 + i)); rw [hI_ne (by omega)]; exact E.k_tk i hi
  · intro j hj
    have hj : j < tN t 0 4 := hj
    rw [hI_ne (by omega)]; exact E.k_mo j hj
  · intro j hj
    have hj : j < tN t 0 4 := hj
    rw [hI_ne (by omega)]; exact E.k_mr j hj
  · intro j hj
    have hj : j < tN t 0 4 := hj
    rw [hI_ne (by omega)]; exact E.k_mf j hj
  · intro j hj
    have hj : j < tN t 0 4 := hj
    rw [hI_ne (by omega)]; exact E.k_mt j hj
  · intro j hj
    have hj : j < tN t 0 4 := hj
    exact E.k_ms j hj
  · intro j hj
    have hj : j < tN t 0 4 := hj
    rw [hI_ne (by omega)]; exact E.k_mw j hj
theorem RX.p_took {x m : Nat} {t : TS} {e : ES} {h : AH} (E : RX x m t e h) {i : Nat} (hi : i < 4 * tN t 0 0) (v : Nat) : RX x m (uN t 6 i v) (e) (pI h (x + 16 * tN t 0 0 + i) 0 (nI v)) := by
  have b := E.L.b
  refine ⟨E.L, ?_, ?_, ?_, ?_, ?_, ?_, ?_, ?_, ?_, ?_, ?_, ?_, ?_, ?_, ?_, ?_, ?_⟩
  · rw [hI_ne (by omega)]; exact E.k_ob
  · rw [hI_ne (by omega)]; exact E.k_P
  · rw [hI_ne (by omega)]; exact E.k_fed
  · rw [hI_ne (by omega)]; exact E.k_key
  · exact E.k_val
  · intro k hk
    have hk : k < 16 := hk
    rw [hI_ne (by omega)]; exact E.k_unr k hk
  · rw [hI_ne (by omega)]; exact E.k_many
  · exact E.k_sum
  · intro c hc
    have hc : c < 16 * (tN t 0 0 - 1) := hc
    rw [hI_ne (by omega)]; exact E.k_beh c hc
  · intro c hc
    have hc : c < 16 * (tN t 0 0 - 1) := hc
    rw [hI_ne (by omega)]; exact E.k_ch c hc
  · intro i' hi'
    have hi' : i' < 4 * tN t 0 0 := hi'
    show kTk i' (uN t 6 i v) (e) (hI (pI h (x + 16 * tN t 0 0 + i) 0 (nI v)) (x + 16 * tN t 0 0 + i'))
    have K := E.k_tk i' hi'
    by_cases q : i' = i
    · subst q
      rw [hI_eq]
      obtain ⟨e1, e2, e3, e4⟩ := K
      refine ⟨?_, ?_, ?_, ?_⟩ <;> simp [va_up, tN_uN, xN_vN, xI_vI] <;> assumption
    · rw [hI_ne (by omega)]
      exact K.cg (by rw [tN_uN, if_neg (fun z => q z.2)]) rfl rfl rfl
  · intro j hj
    have hj : j < tN t 0 4 := hj
    rw [hI_ne (by omega)]; exact E.k_mo j hj
  · intro j hj
    have hj : j < tN t 0 4 := hj
    rw [hI_ne (by omega)]; exact E.k_mr j hj
  · intro j hj
    have hj : j < tN t 0 4 := hj
    rw [hI_ne (by omega)]; exact E.k_mf j hj
  · intro j hj
    have hj : j < tN t 0 4 := hj
    rw [hI_ne (by omega)]; exact E.k_mt j hj
  · intro j hj
    have hj : j < tN t 0 4 := hj
    exact E.k_ms j hj
  · intro j hj
    have hj : j < tN t 0 4 := hj
    rw [hI_ne (by omega)]; exact E.k_mw j hj
theorem RX.p_cm {x m : Nat} {t : TS} {e : ES} {h : AH} (E : RX x m t e h) {i : Nat} (hi : i < 4 * tN t 0 0) (v : Nat) : RX x m (t) (vN e 2 i v) (pI h (x + 16 * tN t 0 0 + i) 1 (nI v)) := by
  have b := E.L.b
  refine ⟨E.L, ?_, ?_, ?_, ?_, ?_, ?_, ?_, ?_, ?_, ?_, ?_, ?_, ?_, ?_, ?_, ?_, ?_⟩
  · rw [hI_ne (by omega)]; exact E.k_ob
  · rw [hI_ne (by omega)]; exact E.k_P
  · rw [hI_ne (by omega)]; exact E.k_fed
  · rw [hI_ne (by omega)]; exact E.k_key
  · exact E.k_val
  · intro k hk
    have hk : k < 16 := hk
    rw [hI_ne (by omega)]; exact E.k_unr k hk
  · rw [hI_ne (by omega)]; exact E.k_many
  · exact E.k_sum
  · intro c hc
    have hc : c < 16 * (tN t 0 0 - 1) := hc
    rw [hI_ne (by omega)]; exact E.k_beh c hc
  · intro c hc
    have hc : c < 16 * (tN t 0 0 - 1) := hc
    rw [hI_ne (by omega)]; exact E.k_ch c hc
  · intro i' hi'
    have hi' : i' < 4 * tN t 0 0 := hi'
    show kTk i' (t) (vN e 2 i v) (hI (pI h (x + 16 * tN t 0 0 + i) 1 (nI v)) (x + 16 * tN t 0 0 + i'))
    have K := E.k_tk i' hi'
    by_cases q : i' = i
    · subst q
      rw [hI_eq]
      obtain ⟨e1, e2, e3, e4⟩ := K
      refine ⟨?_, ?_, ?_, ?_⟩ <;> simp [va_up, tN_uN, xN_vN, xI_vI] <;> assumption
    · rw [hI_ne (by omega)]
      exact K.cg rfl rfl (by rw [xN_vN, if_neg (fun z => q z.2)]) rfl
  · intro j hj
    have hj : j < tN t 0 4 := hj
    rw [hI_ne (by omega)]; exact E.k_mo j hj
  · intro j hj
    have hj : j < tN t 0 4 := hj
    rw [hI_ne (by omega)]; exact E.k_mr j hj
  · intro j hj
    have hj : j < tN t 0 4 := hj
    rw [hI_ne (by omega)]; exact E.k_mf j hj
  · intro j hj
    have hj : j < tN t 0 4 := hj
    rw [hI_ne (by omega)]; exact E.k_mt j hj
  · intro j hj
    have hj : j < tN t 0 4 := hj
    exact E.k_ms j hj
  · intro j hj
    have hj : j < tN t 0 4 := hj
    rw [hI_ne (by omega)]; exact E.k_mw j hj
theorem RX.p_fc {x m : Nat} {t : TS} {e : ES} {h : AH} (E : RX x m t e h) {i : Nat} (hi : i < 4 * tN t 0 0) (v : Int32) : RX x m (t) (vI e 0 i v) (pI h (x + 16 * tN t 0 0 + i) 2 v) := by
  have b := E.L.b
  refine ⟨E.L, ?_, ?_, ?_, ?_, ?_, ?_, ?_, ?_, ?_, ?_, ?_, ?_, ?_, ?_, ?_, ?_, ?_⟩
  · rw [hI_ne (by omega)]; exact E.k_ob
  · rw [hI_ne (by omega)]; exact E.k_P
  · rw [hI_ne (by omega)]; exact E.k_fed
  · rw [hI_ne (by omega)]; exact E.k_key
  · exact E.k_val
  · intro k hk
    have hk : k < 16 := hk
    rw [hI_ne (by omega)]; exact E.k_unr k hk
  · rw [hI_ne (by omega)]; exact E.k_many
  · exact E.k_sum
  · intro c hc
    have hc : c < 16 * (tN t 0 0 - 1) := hc
    rw [hI_ne (by omega)]; exact E.k_beh c hc
  · intro c hc
    have hc : c < 16 * (tN t 0 0 - 1) := hc
    rw [hI_ne (by omega)]; exact E.k_ch c hc
  · intro i' hi'
    have hi' : i' < 4 * tN t 0 0 := hi'
    show kTk i' (t) (vI e 0 i v) (hI (pI h (x + 16 * tN t 0 0 + i) 2 v) (x + 16 * tN t 0 0 + i'))
    have K := E.k_tk i' hi'
    by_cases q : i' = i
    · subst q
      rw [hI_eq]
      obtain ⟨e1, e2, e3, e4⟩ := K
      refine ⟨?_, ?_, ?_, ?_⟩ <;> simp [va_up, tN_uN, xN_vN, xI_vI] <;> assumption
    · rw [hI_ne (by omega)]
      exact K.cg rfl rfl rfl (by rw [xI_vI, if_neg (fun z => q z.2)])
  · intro j hj
    have hj : j < tN t 0 4 := hj
    rw [hI_ne (by omega)]; exact E.k_mo j hj
  · intro j hj
    have hj : j < tN t 0 4 := hj
    rw [hI_ne (by omega)]; exact E.k_mr j hj
  · intro j hj
    have hj : j < tN t 0 4 := hj
    rw [hI_ne (by omega)]; exact E.k_mf j hj
  · intro j hj
    have hj : j < tN t 0 4 := hj
    rw [hI_ne (by omega)]; exact E.k_mt j hj
  · intro j hj
    have hj : j < tN t 0 4 := hj
    exact E.k_ms j hj
  · intro j hj
    have hj : j < tN t 0 4 := hj
    rw [hI_ne (by omega)]; exact E.k_mw j hj
theorem RX.p_next {x m : Nat} {t : TS} {e : ES} {h : AH} (E : RX x m t e h) {i : Nat} (hi : i < 4 * tN t 0 0) (v : Nat) : RX x m (uN t 8 i v) (e) (pI h (x + 16 * tN t 0 0 + i) 3 (nI v)) := by
  have b := E.L.b
  refine ⟨E.L, ?_, ?_, ?_, ?_, ?_, ?_, ?_, ?_, ?_, ?_, ?_, ?_, ?_, ?_, ?_, ?_, ?_⟩
  · rw [hI_ne (by omega)]; exact E.k_ob
  · rw [hI_ne (by omega)]; exact E.k_P
  · rw [hI_ne (by omega)]; exact E.k_fed
  · rw [hI_ne (by omega)]; exact E.k_key
  · exact E.k_val
  · intro k hk
    have hk : k < 16 := hk
    rw [hI_ne (by omega)]; exact E.k_unr k hk
  · rw [hI_ne (by omega)]; exact E.k_many
  · exact E.k_sum
  · intro c hc
    have hc : c < 16 * (tN t 0 0 - 1) := hc
    rw [hI_ne (by omega)]; exact E.k_beh c hc
  · intro c hc
    have hc : c < 16 * (tN t 0 0 - 1) := hc
    rw [hI_ne (by omega)]; exact E.k_ch c hc
  · intro i' hi'
    have hi' : i' < 4 * tN t 0 0 := hi'
    show kTk i' (uN t 8 i v) (e) (hI (pI h (x + 16 * tN t 0 0 + i) 3 (nI v)) (x + 16 * tN t 0 0 + i'))
    have K := E.k_tk i' hi'
    by_cases q : i' = i
    · subst q
      rw [hI_eq]
      obtain ⟨e1, e2, e3, e4⟩ := K
      refine ⟨?_, ?_, ?_, ?_⟩ <;> simp [va_up, tN_uN, xN_vN, xI_vI] <;> assumption
    · rw [hI_ne (by omega)]
      exact K.cg rfl (by rw [tN_uN, if_neg (fun z => q z.2)]) rfl rfl
  · intro j hj
    have hj : j < tN t 0 4 := hj
    rw [hI_ne (by omega)]; exact E.k_mo j hj
  · intro j hj
    have hj : j < tN t 0 4 := hj
    rw [hI_ne (by omega)]; exact E.k_mr j hj
  · intro j hj
    have hj : j < tN t 0 4 := hj
    rw [hI_ne (by omega)]; exact E.k_mf j hj
  · intro j hj
    have hj : j < tN t 0 4 := hj
    rw [hI_ne (by omega)]; exact E.k_mt j hj
  · intro j hj
    have hj : j < tN t 0 4 := hj
    exact E.k_ms j hj
  · intro j hj
    have hj : j < tN t 0 4 := hj
    rw [hI_ne (by omega)]; exact E.k_mw j hj
theorem RX.p_stat {x m : Nat} {t : TS} {e : ES} {h : AH} (E : RX x m t e h) {j : Nat} (hj : j < tN t 0 4) (v : Nat) : RX x m (uN t 9 j v) (e) (pI h (m + 24 + 7 * j) 7 (nI v)) := by
  have b := E.L.b
  refine ⟨E.L, ?_, ?_, ?_, ?_, ?_, ?_, ?_, ?_, ?_, ?_, ?_, ?_, ?_, ?_, ?_, ?_, ?_⟩
  · rw [hI_ne (by omega)]; exact E.k_ob
  · rw [hI_ne (by omega)]; exact E.k_P
  · rw [hI_ne (by omega)]; exact E.k_fed
  · rw [hI_ne (by omega)]; exact E.k_key
  · exact E.k_val
  · intro k hk
    have hk : k < 16 := hk
    rw [hI_ne (by omega)]; exact E.k_unr k hk
  · rw [hI_ne (by omega)]; exact E.k_many
  · exact E.k_sum
  · intro c hc
    have hc : c < 16 * (tN t 0 0 - 1) := hc
    rw [hI_ne (by omega)]; exact E.k_beh c hc
  · intro c hc
    have hc : c < 16 * (tN t 0 0 - 1) := hc
    rw [hI_ne (by omega)]; exact E.k_ch c hc
  · intro i hi
    have hi : i < 4 * tN t 0 0 := hi
    show kTk i (uN t 9 j v) (e) (hI (pI h (m + 24 + 7 * j) 7 (nI v)) (x + 16 * tN t 0 0 + i)); rw [hI_ne (by omega)]; exact E.k_tk i hi
  · intro j' hj'
    have hj' : j' < tN t 0 4 := hj'
    have K := E.k_mo j' hj'
    by_cases q : j' = j
    · subst q
      rw [hI_eq]
      obtain ⟨e1, e2, e3, e4, e5⟩ := K
      refine ⟨?_, ?_, ?_, ?_, ?_⟩ <;> simp [va_up, tN_uN, xN_vN, xI_vI, tI_uN, tK_uN] <;> assumption
    · rw [hI_ne (by omega)]
      exact K.cg rfl rfl rfl (by rw [tN_uN, if_neg (fun z => q z.2)]) rfl
  · intro j hj
    have hj : j < tN t 0 4 := hj
    rw [hI_ne (by omega)]; exact E.k_mr j hj
  · intro j hj
    have hj : j < tN t 0 4 := hj
    rw [hI_ne (by omega)]; exact E.k_mf j hj
  · intro j hj
    have hj : j < tN t 0 4 := hj
    rw [hI_ne (by omega)]; exact E.k_mt j hj
  · intro j hj
    have hj : j < tN t 0 4 := hj
    exact E.k_ms j hj
  · intro j hj
    have hj : j < tN t 0 4 := hj
    rw [hI_ne (by omega)]; exact E.k_mw j hj
theorem RX.p_ended {x m : Nat} {t : TS} {e : ES} {h : AH} (E : RX x m t e h) {j : Nat} (hj : j < tN t 0 4) (v : Int32) : RX x m (t) (vI e 1 j v) (pI h (m + 24 + 7 * j) 8 v) := by
  have b := E.L.b
  refine ⟨E.L, ?_, ?_, ?_, ?_, ?_, ?_, ?_, ?_, ?_, ?_, ?_, ?_, ?_, ?_, ?_, ?_, ?_⟩
  · rw [hI_ne (by omega)]; exact E.k_ob
  · rw [hI_ne (by omega)]; exact E.k_P
  · rw [hI_ne (by omega)]; exact E.k_fed
  · rw [hI_ne (by omega)]; exact E.k_key
  · exact E.k_val
  · intro k hk
    have hk : k < 16 := hk
    rw [hI_ne (by omega)]; exact E.k_unr k hk
  · rw [hI_ne (by omega)]; exact E.k_many
  · exact E.k_sum
  · intro c hc
    have hc : c < 16 * (tN t 0 0 - 1) := hc
    rw [hI_ne (by omega)]; exact E.k_beh c hc
  · intro c hc
    have hc : c < 16 * (tN t 0 0 - 1) := hc
    rw [hI_ne (by omega)]; exact E.k_ch c hc
  · intro i hi
    have hi : i < 4 * tN t 0 0 := hi
    show kTk i (t) (vI e 1 j v) (hI (pI h (m + 24 + 7 * j) 8 v) (x + 16 * tN t 0 0 + i)); rw [hI_ne (by omega)]; exact E.k_tk i hi
  · intro j' hj'
    have hj' : j' < tN t 0 4 := hj'
    have K := E.k_mo j' hj'
    by_cases q : j' = j
    · subst q
      rw [hI_eq]
      obtain ⟨e1, e2, e3, e4, e5⟩ := K
      refine ⟨?_, ?_, ?_, ?_, ?_⟩ <;> simp [va_up, tN_uN, xN_vN, xI_vI, tI_uN, tK_uN] <;> assumption
    · rw [hI_ne (by omega)]
      exact K.cg rfl rfl rfl rfl (by rw [xI_vI, if_neg (fun z => q z.2)])
  · intro j hj
    have hj : j < tN t 0 4 := hj
    rw [hI_ne (by omega)]; exact E.k_mr j hj
  · intro j hj
    have hj : j < tN t 0 4 := hj
    rw [hI_ne (by omega)]; exact E.k_mf j hj
  · intro j hj
    have hj : j < tN t 0 4 := hj
    rw [hI_ne (by omega)]; exact E.k_mt j hj
  · intro j hj
    have hj : j < tN t 0 4 := hj
    exact E.k_ms j hj
  · intro j hj
    have hj : j < tN t 0 4 := hj
    rw [hI_ne (by omega)]; exact E.k_mw j hj
theorem RX.p_ln {x m : Nat} {t : TS} {e : ES} {h : AH} (E : RX x m t e h) {j : Nat} (hj : j < tN t 0 4) (v : Nat) : RX x m (t) (vN e 3 j v) (pI h (m + 24 + 7 * j) 6 (nI v)) := by
  have b := E.L.b
  refine ⟨E.L, ?_, ?_, ?_, ?_, ?_, ?_, ?_, ?_, ?_, ?_, ?_, ?_, ?_, ?_, ?_, ?_, ?_⟩
  · rw [hI_ne (by omega)]; exact E.k_ob
  · rw [hI_ne (by omega)]; exact E.k_P
  · rw [hI_ne (by omega)]; exact E.k_fed
  · rw [hI_ne (by omega)]; exact E.k_key
  · exact E.k_val
  · intro k hk
    have hk : k < 16 := hk
    rw [hI_ne (by omega)]; exact E.k_unr k hk
  · rw [hI_ne (by omega)]; exact E.k_many
  · exact E.k_sum
  · intro c hc
    have hc : c < 16 * (tN t 0 0 - 1) := hc
    rw [hI_ne (by omega)]; exact E.k_beh c hc
  · intro c hc
    have hc : c < 16 * (tN t 0 0 - 1) := hc
    rw [hI_ne (by omega)]; exact E.k_ch c hc
  · intro i hi
    have hi : i < 4 * tN t 0 0 := hi
    show kTk i (t) (vN e 3 j v) (hI (pI h (m + 24 + 7 * j) 6 (nI v)) (x + 16 * tN t 0 0 + i)); rw [hI_ne (by omega)]; exact E.k_tk i hi
  · intro j' hj'
    have hj' : j' < tN t 0 4 := hj'
    have K := E.k_mo j' hj'
    by_cases q : j' = j
    · subst q
      rw [hI_eq]
      obtain ⟨e1, e2, e3, e4, e5⟩ := K
      refine ⟨?_, ?_, ?_, ?_, ?_⟩ <;> simp [va_up, tN_uN, xN_vN, xI_vI, tI_uN, tK_uN] <;> assumption
    · rw [hI_ne (by omega)]
      exact K.cg rfl rfl (by rw [xN_vN, if_neg (fun z => q z.2)]) rfl rfl
  · intro j hj
    have hj : j < tN t 0 4 := hj
    rw [hI_ne (by omega)]; exact E.k_mr j hj
  · intro j hj
    have hj : j < tN t 0 4 := hj
    rw [hI_ne (by omega)]; exact E.k_mf j hj
  · intro j hj
    have hj : j < tN t 0 4 := hj
    rw [hI_ne (by omega)]; exact E.k_mt j hj
  · intro j hj
    have hj : j < tN t 0 4 := hj
    exact E.k_ms j hj
  · intro j hj
    have hj : j < tN t 0 4 := hj
    rw [hI_ne (by omega)]; exact E.k_mw j hj
theorem RX.c_bar {x m : Nat} {t : TS} {e : ES} {h : AH} (E : RX x m t e h) (f : Nat → Nat) (hf : ∀ c, c < 16 * (tN t 0 0 - 1) → f c = tN t 4 c) : RX x m (uNs t 4 f) (e) h := by
  refine ⟨E.L, ?_, ?_, ?_, ?_, ?_, ?_, ?_, ?_, ?_, ?_, ?_, ?_, ?_, ?_, ?_, ?_, ?_⟩
  · exact E.k_ob
  · exact E.k_P
  · exact E.k_fed
  · exact E.k_key
  · exact E.k_val
  · exact E.k_unr
  · exact E.k_many
  · exact E.k_sum
  · exact E.k_beh
  · intro c hc
    exact (E.k_ch c hc).cg rfl (hf c hc) rfl rfl
  · exact E.k_tk
  · exact E.k_mo
  · exact E.k_mr
  · exact E.k_mf
  · exact E.k_mt
  · exact E.k_ms
  · exact E.k_mw
theorem RX.c_came {x m : Nat} {t : TS} {e : ES} {h : AH} (E : RX x m t e h) (f : Nat → Nat) (hf : ∀ c, c < 16 * (tN t 0 0 - 1) → f c = tN t 5 c) : RX x m (uNs t 5 f) (e) h := by
  refine ⟨E.L, ?_, ?_, ?_, ?_, ?_, ?_, ?_, ?_, ?_, ?_, ?_, ?_, ?_, ?_, ?_, ?_, ?_⟩
  · exact E.k_ob
  · exact E.k_P
  · exact E.k_fed
  · exact E.k_key
  · exact E.k_val
  · exact E.k_unr
  · exact E.k_many
  · exact E.k_sum
  · exact E.k_beh
  · intro c hc
    exact (E.k_ch c hc).cg rfl rfl (hf c hc) rfl
  · exact E.k_tk
  · exact E.k_mo
  · exact E.k_mr
  · exact E.k_mf
  · exact E.k_mt
  · exact E.k_ms
  · exact E.k_mw
theorem RX.c_loose {x m : Nat} {t : TS} {e : ES} {h : AH} (E : RX x m t e h) (f : Nat → Nat) (hf : ∀ c, c < 16 * (tN t 0 0 - 1) → f c = xN e 1 c) : RX x m (t) (vNs e 1 f) h := by
  refine ⟨E.L, ?_, ?_, ?_, ?_, ?_, ?_, ?_, ?_, ?_, ?_, ?_, ?_, ?_, ?_, ?_, ?_, ?_⟩
  · exact E.k_ob
  · exact E.k_P
  · exact E.k_fed
  · exact E.k_key
  · exact E.k_val
  · exact E.k_unr
  · exact E.k_many
  · exact E.k_sum
  · exact E.k_beh
  · intro c hc
    exact (E.k_ch c hc).cg rfl rfl rfl (hf c hc)
  · exact E.k_tk
  · exact E.k_mo
  · exact E.k_mr
  · exact E.k_mf
  · exact E.k_mt
  · exact E.k_ms
  · exact E.k_mw
theorem RX.c_C {x m : Nat} {t : TS} {e : ES} {h : AH} (E : RX x m t e h) (f : Nat → List Nat) (hf : ∀ c, c < 16 * (tN t 0 0 - 1) → f c = tC t c) : RX x m (uCs t f) (e) h := by
  refine ⟨E.L, ?_, ?_, ?_, ?_, ?_, ?_, ?_, ?_, ?_, ?_, ?_, ?_, ?_, ?_, ?_, ?_, ?_⟩
  · exact E.k_ob
  · exact E.k_P
  · exact E.k_fed
  · exact E.k_key
  · exact E.k_val
  · exact E.k_unr
  · exact E.k_many
  · exact E.k_sum
  · intro c hc
    show CHN _ (f c)
    rw [hf c hc]; exact E.k_beh c hc
  · intro c hc
    exact (E.k_ch c hc).cg (hf c hc) rfl rfl rfl
  · exact E.k_tk
  · exact E.k_mo
  · exact E.k_mr
  · exact E.k_mf
  · exact E.k_mt
  · exact E.k_ms
  · exact E.k_mw
theorem RX.c_took {x m : Nat} {t : TS} {e : ES} {h : AH} (E : RX x m t e h) (f : Nat → Nat) (hf : ∀ i, i < 4 * tN t 0 0 → f i = tN t 6 i) : RX x m (uNs t 6 f) (e) h := by
  refine ⟨E.L, ?_, ?_, ?_, ?_, ?_, ?_, ?_, ?_, ?_, ?_, ?_, ?_, ?_, ?_, ?_, ?_, ?_⟩
  · exact E.k_ob
  · exact E.k_P
  · exact E.k_fed
  · exact E.k_key
  · exact E.k_val
  · exact E.k_unr
  · exact E.k_many
  · exact E.k_sum
  · exact E.k_beh
  · exact E.k_ch
  · intro i hi
    exact (E.k_tk i hi).cg (hf i hi) rfl rfl rfl
  · exact E.k_mo
  · exact E.k_mr
  · exact E.k_mf
  · exact E.k_mt
  · exact E.k_ms
  · exact E.k_mw
theorem RX.c_next {x m : Nat} {t : TS} {e : ES} {h : AH} (E : RX x m t e h) (f : Nat → Nat) (hf : ∀ i, i < 4 * tN t 0 0 → f i = tN t 8 i) : RX x m (uNs t 8 f) (e) h := by
  refine ⟨E.L, ?_, ?_, ?_, ?_, ?_, ?_, ?_, ?_, ?_, ?_, ?_, ?_, ?_, ?_, ?_, ?_, ?_⟩
  · exact E.k_ob
  · exact E.k_P
  · exact E.k_fed
  · exact E.k_key
  · exact E.k_val
  · exact E.k_unr
  · exact E.k_many
  · exact E.k_sum
  · exact E.k_beh
  · exact E.k_ch
  · intro i hi
    exact (E.k_tk i hi).cg rfl (hf i hi) rfl rfl
  · exact E.k_mo
  · exact E.k_mr
  · exact E.k_mf
  · exact E.k_mt
  · exact E.k_ms
  · exact E.k_mw
theorem RX.c_cm {x m : Nat} {t : TS} {e : ES} {h : AH} (E : RX x m t e h) (f : Nat → Nat) (hf : ∀ i, i < 4 * tN t 0 0 → f i = xN e 2 i) : RX x m (t) (vNs e 2 f) h := by
  refine ⟨E.L, ?_, ?_, ?_, ?_, ?_, ?_, ?_, ?_, ?_, ?_, ?_, ?_, ?_, ?_, ?_, ?_, ?_⟩
  · exact E.k_ob
  · exact E.k_P
  · exact E.k_fed
  · exact E.k_key
  · exact E.k_val
  · exact E.k_unr
  · exact E.k_many
  · exact E.k_sum
  · exact E.k_beh
  · exact E.k_ch
  · intro i hi
    exact (E.k_tk i hi).cg rfl rfl (hf i hi) rfl
  · exact E.k_mo
  · exact E.k_mr
  · exact E.k_mf
  · exact E.k_mt
  · exact E.k_ms
  · exact E.k_mw
theorem RX.c_fc {x m : Nat} {t : TS} {e : ES} {h : AH} (E : RX x m t e h) (f : Nat → Int32) (hf : ∀ i, i < 4 * tN t 0 0 → f i = xI e 0 i) : RX x m (t) (vIs e 0 f) h := by
  refine ⟨E.L, ?_, ?_, ?_, ?_, ?_, ?_, ?_, ?_, ?_, ?_, ?_, ?_, ?_, ?_, ?_, ?_, ?_⟩
  · exact E.k_ob
  · exact E.k_P
  · exact E.k_fed
  · exact E.k_key
  · exact E.k_val
  · exact E.k_unr
  · exact E.k_many
  · exact E.k_sum
  · exact E.k_beh
  · exact E.k_ch
  · intro i hi
    exact (E.k_tk i hi).cg rfl rfl rfl (hf i hi)
  · exact E.k_mo
  · exact E.k_mr
  · exact E.k_mf
  · exact E.k_mt
  · exact E.k_ms
  · exact E.k_mw
/-- cells that the picture does not look at may change -/
theorem RX.fq {x m : Nat} {t : TS} {e : ES} {h : AH} {P : Nat → Prop} {h' : AH} (E : RX x m t e h) (f : Fq P h h') (hp : ∀ a, P a → (a = x + 10 ∨ a = x + 11 ∨ a = x + 12) ∨ (m ≤ a ∧ a < m + 24)) : RX x m t e h' := by
  have b := E.L.b
  have g : ∀ a, ¬ ((a = x + 10 ∨ a = x + 11 ∨ a = x + 12) ∨ (m ≤ a ∧ a < m + 24)) → hI h' a = hI h a ∧ hL h' a = hL h a := fun a ha => f.2.2.2 a (fun z => ha (hp a z))
  refine ⟨E.L.fq f, ?_, ?_, ?_, ?_, ?_, ?_, ?_, ?_, ?_, ?_, ?_, ?_, ?_, ?_, ?_, ?_, ?_⟩
  · rw [(g (x) (by omega)).1]; exact E.k_ob
  · rw [(g (x + 1) (by omega)).1]; exact E.k_P
  · rw [(g (x + 2) (by omega)).1]; exact E.k_fed
  · rw [(g (x + 3) (by omega)).1]; exact E.k_key
  · rw [(g (x + 4) (by omega)).2]; exact E.k_val
  · intro k hk; rw [(g (x + 5) (by omega)).1]; exact E.k_unr k hk
  · rw [(g (x + 7) (by omega)).1]; exact E.k_many
  · rw [(g (x + 8) (by omega)).2]; exact E.k_sum
  · intro c hc; rw [(g (x + 13) (by omega)).1]; exact E.k_beh c hc
  · intro c hc; rw [(g (x + 15 + c) (by omega)).1]; exact E.k_ch c hc
  · intro i hi; rw [(g (x + 16 * tN t 0 0 + i) (by omega)).1]; exact E.k_tk i hi
  · intro j hj; rw [(g (m + 24 + 7 * j) (by omega)).1]; exact E.k_mo j hj
  · intro j hj; rw [(g (m + 24 + 7 * j + 4) (by omega)).1]; exact E.k_mr j hj
  · intro j hj; rw [(g (m + 24 + 7 * j + 5) (by omega)).1]; exact E.k_mf j hj
  · intro j hj; rw [(g (m + 24 + 7 * j + 2) (by omega)).1]; exact E.k_mt j hj
  · intro j hj; rw [(g (m + 24 + 7 * j + 3) (by omega)).2]; exact E.k_ms j hj
  · intro j hj; rw [(g (m + 24 + 7 * j + 6) (by omega)).1]; exact E.k_mw j hj
theorem RX.g_tally {x m : Nat} {t : TS} {e : ES} {h : AH} {h' : AH} (E : RX x m t e h) {p : Nat → Nat} {q : Nat → Int64} (h1 : ∀ i, i < 64 → hI h' (x + 7) i = nI (p i)) (h2 : ∀ i, i < 64 → hL h' (x + 8) i = q i) (f : Fq (fun z => z = x + 7 ∨ z = x + 8) h h') : RX x m (uLs (uNs t 3 p) 1 q) (e) h' := by
  have b := E.L.b
  have g : ∀ a, ¬ (a = x + 7 ∨ a = x + 8) → hI h' a = hI h a ∧ hL h' a = hL h a := f.2.2.2
  refine ⟨E.L.fq f, ?_, ?_, ?_, ?_, ?_, ?_, ?_, ?_, ?_, ?_, ?_, ?_, ?_, ?_, ?_, ?_, ?_⟩
  · rw [(g (x) (by omega)).1]; exact E.k_ob
  · rw [(g (x + 1) (by omega)).1]; exact E.k_P
  · rw [(g (x + 2) (by omega)).1]; exact E.k_fed
  · rw [(g (x + 3) (by omega)).1]; exact E.k_key
  · rw [(g (x + 4) (by omega)).2]; exact E.k_val
  · intro k hk
    have hk : k < 16 := hk
    first | (rw [(g (x + 5) (by omega)).1]; exact E.k_unr k hk) | (show hI h' (x + 5) k = nI (xN (e) 0 k) - 1; rw [(g (x + 5) (by omega)).1]; exact E.k_unr k hk)
  · exact h1
  · exact h2
  · intro c hc
    have hc : c < 16 * (tN t 0 0 - 1) := hc
    first | (rw [(g (x + 13) (by omega)).1]; exact E.k_beh c hc) | (show CHN (hI h' (x + 13)) (tC (uLs (uNs t 3 p) 1 q) c); rw [(g (x + 13) (by omega)).1]; exact E.k_beh c hc)
  · intro c hc
    have hc : c < 16 * (tN t 0 0 - 1) := hc
    first | (rw [(g (x + 15 + c) (by omega)).1]; exact E.k_ch c hc) | (show kCh c (uLs (uNs t 3 p) 1 q) (e) (hI h' (x + 15 + c)); rw [(g (x + 15 + c) (by omega)).1]; exact E.k_ch c hc)
  · intro i hi
    have hi : i < 4 * tN t 0 0 := hi
    first | (rw [(g (x + 16 * tN t 0 0 + i) (by omega)).1]; exact E.k_tk i hi) | (show kTk i (uLs (uNs t 3 p) 1 q) (e) (hI h' (x + 16 * tN t 0 0 + i)); rw [(g (x + 16 * tN t 0 0 + i) (by omega)).1]; exact E.k_tk i hi)
  · intro j hj
    have hj : j < tN t 0 4 := hj
    first | (rw [(g (m + 24 + 7 * j) (by omega)).1]; exact E.k_mo j hj) | (show kMo j (uLs (uNs t 3 p) 1 q) (e) (hI h' (m + 24 + 7 * j)); rw [(g (m + 24 + 7 * j) (by omega)).1]; exact E.k_mo j hj)
  · intro j hj
    have hj : j < tN t 0 4 := hj
    first | (rw [(g (m + 24 + 7 * j + 4) (by omega)).1]; exact E.k_mr j hj) | (show ∀ i, i < (tK (uLs (uNs t 3 p) 1 q) j).length → hI h' (m + 24 + 7 * j + 4) i = nI ((tK (uLs (uNs t 3 p) 1 q) j).getD i (0, 0)).2; rw [(g (m + 24 + 7 * j + 4) (by omega)).1]; exact E.k_mr j hj)
  · intro j hj
    have hj : j < tN t 0 4 := hj
    first | (rw [(g (m + 24 + 7 * j + 5) (by omega)).1]; exact E.k_mf j hj) | (show ∀ i, i < (tK (uLs (uNs t 3 p) 1 q) j).length → hI h' (m + 24 + 7 * j + 5) i = nI ((tK (uLs (uNs t 3 p) 1 q) j).getD i (0, 0)).1; rw [(g (m + 24 + 7 * j + 5) (by omega)).1]; exact E.k_mf j hj)
  · intro j hj
    have hj : j < tN t 0 4 := hj
    first | (rw [(g (m + 24 + 7 * j + 2) (by omega)).1]; exact E.k_mt j hj) | (show ∀ i, i < 64 → hI h' (m + 24 + 7 * j + 2) i = nI (tN (uLs (uNs t 3 p) 1 q) 11 (64 * j + i)); rw [(g (m + 24 + 7 * j + 2) (by omega)).1]; exact E.k_mt j hj)
  · intro j hj
    have hj : j < tN t 0 4 := hj
    first | (rw [(g (m + 24 + 7 * j + 3) (by omega)).2]; exact E.k_ms j hj) | (show ∀ i, i < 64 → hL h' (m + 24 + 7 * j + 3) i = tL (uLs (uNs t 3 p) 1 q) 2 (64 * j + i); rw [(g (m + 24 + 7 * j + 3) (by omega)).2]; exact E.k_ms j hj)
  · intro j hj
    have hj : j < tN t 0 4 := hj
    first | (rw [(g (m + 24 + 7 * j + 6) (by omega)).1]; exact E.k_mw j hj) | (show ∀ s, s < 4 → hI h' (m + 24 + 7 * j + 6) s = nI (xN (e) 4 (4 * j + s)); rw [(g (m + 24 + 7 * j + 6) (by omega)).1]; exact E.k_mw j hj)
theorem RX.g_unr {x m : Nat} {t : TS} {e : ES} {h : AH} {h' : AH} (E : RX x m t e h) {p : Nat → Nat} (h1 : ∀ k, k < 16 → hI h' (x + 5) k = nI (p k) - 1) (f : Fq (fun z => z = x + 5) h h') : RX x m (t) (vNs e 0 p) h' := by
  have b := E.L.b
  have g : ∀ a, ¬ (a = x + 5) → hI h' a = hI h a ∧ hL h' a = hL h a := f.2.2.2
  refine ⟨E.L.fq f, ?_, ?_, ?_, ?_, ?_, ?_, ?_, ?_, ?_, ?_, ?_, ?_, ?_, ?_, ?_, ?_, ?_⟩
  · rw [(g (x) (by omega)).1]; exact E.k_ob
  · rw [(g (x + 1) (by omega)).1]; exact E.k_P
  · rw [(g (x + 2) (by omega)).1]; exact E.k_fed
  · rw [(g (x + 3) (by omega)).1]; exact E.k_key
  · rw [(g (x + 4) (by omega)).2]; exact E.k_val
  · exact h1
  · rw [(g (x + 7) (by omega)).1]; exact E.k_many
  · rw [(g (x + 8) (by omega)).2]; exact E.k_sum
  · intro c hc
    have hc : c < 16 * (tN t 0 0 - 1) := hc
    first | (rw [(g (x + 13) (by omega)).1]; exact E.k_beh c hc) | (show CHN (hI h' (x + 13)) (tC (t) c); rw [(g (x + 13) (by omega)).1]; exact E.k_beh c hc)
  · intro c hc
    have hc : c < 16 * (tN t 0 0 - 1) := hc
    first | (rw [(g (x + 15 + c) (by omega)).1]; exact E.k_ch c hc) | (show kCh c (t) (vNs e 0 p) (hI h' (x + 15 + c)); rw [(g (x + 15 + c) (by omega)).1]; exact E.k_ch c hc)
  · intro i hi
    have hi : i < 4 * tN t 0 0 := hi
    first | (rw [(g (x + 16 * tN t 0 0 + i) (by omega)).1]; exact E.k_tk i hi) | (show kTk i (t) (vNs e 0 p) (hI h' (x + 16 * tN t 0 0 + i)); rw [(g (x + 16 * tN t 0 0 + i) (by omega)).1]; exact E.k_tk i hi)
  · intro j hj
    have hj : j < tN t 0 4 := hj
    first | (rw [(g (m + 24 + 7 * j) (by omega)).1]; exact E.k_mo j hj) | (show kMo j (t) (vNs e 0 p) (hI h' (m + 24 + 7 * j)); rw [(g (m + 24 + 7 * j) (by omega)).1]; exact E.k_mo j hj)
  · intro j hj
    have hj : j < tN t 0 4 := hj
    first | (rw [(g (m + 24 + 7 * j + 4) (by omega)).1]; exact E.k_mr j hj) | (show ∀ i, i < (tK (t) j).length → hI h' (m + 24 + 7 * j + 4) i = nI ((tK (t) j).getD i (0, 0)).2; rw [(g (m + 24 + 7 * j + 4) (by omega)).1]; exact E.k_mr j hj)
  · intro j hj
    have hj : j < tN t 0 4 := hj
    first | (rw [(g (m + 24 + 7 * j + 5) (by omega)).1]; exact E.k_mf j hj) | (show ∀ i, i < (tK (t) j).length → hI h' (m + 24 + 7 * j + 5) i = nI ((tK (t) j).getD i (0, 0)).1; rw [(g (m + 24 + 7 * j + 5) (by omega)).1]; exact E.k_mf j hj)
  · intro j hj
    have hj : j < tN t 0 4 := hj
    first | (rw [(g (m + 24 + 7 * j + 2) (by omega)).1]; exact E.k_mt j hj) | (show ∀ i, i < 64 → hI h' (m + 24 + 7 * j + 2) i = nI (tN (t) 11 (64 * j + i)); rw [(g (m + 24 + 7 * j + 2) (by omega)).1]; exact E.k_mt j hj)
  · intro j hj
    have hj : j < tN t 0 4 := hj
    first | (rw [(g (m + 24 + 7 * j + 3) (by omega)).2]; exact E.k_ms j hj) | (show ∀ i, i < 64 → hL h' (m + 24 + 7 * j + 3) i = tL (t) 2 (64 * j + i); rw [(g (m + 24 + 7 * j + 3) (by omega)).2]; exact E.k_ms j hj)
  · intro j hj
    have hj : j < tN t 0 4 := hj
    first | (rw [(g (m + 24 + 7 * j + 6) (by omega)).1]; exact E.k_mw j hj) | (show ∀ s, s < 4 → hI h' (m + 24 + 7 * j + 6) s = nI (xN (vNs e 0 p) 4 (4 * j + s)); rw [(g (m + 24 + 7 * j + 6) (by omega)).1]; exact E.k_mw j hj)
theorem RX.g_save {x m : Nat} {t : TS} {e : ES} {h : AH} {h' : AH} (E : RX x m t e h) {j : Nat} (hj : j < tN t 0 4) {p : Nat → Nat} {q : Nat → Int64} (h1 : ∀ i, i < 64 → hI h' (m + 24 + 7 * j + 2) i = nI (p (64 * j + i))) (h2 : ∀ i, i < 64 → hL h' (m + 24 + 7 * j + 3) i = q (64 * j + i)) (h3 : ∀ i, ¬ (64 * j ≤ i ∧ i < 64 * j + 64) → p i = tN t 11 i ∧ q i = tL t 2 i) (f : Fq (fun z => z = m + 24 + 7 * j + 2 ∨ z = m + 24 + 7 * j + 3) h h') : RX x m (uLs (uNs t 11 p) 2 q) (e) h' := by
  have b := E.L.b
  have g : ∀ a, ¬ (a = m + 24 + 7 * j + 2 ∨ a = m + 24 + 7 * j + 3) → hI h' a = hI h a ∧ hL h' a = hL h a := f.2.2.2
  refine ⟨E.L.fq f, ?_, ?_, ?_, ?_, ?_, ?_, ?_, ?_, ?_, ?_, ?_, ?_, ?_, ?_, ?_, ?_, ?_⟩
  · rw [(g (x) (by omega)).1]; exact E.k_ob
  · rw [(g (x + 1) (by omega)).1]; exact E.k_P
  · rw [(g (x + 2) (by omega)).1]; exact E.k_fed
  · rw [(g (x + 3) (by omega)).1]; exact E.k_key
  · rw [(g (x + 4) (by omega)).2]; exact E.k_val
  · intro k hk
    have hk : k < 16 := hk
    first | (rw [(g (x + 5) (by omega)).1]; exact E.k_unr k hk) | (show hI h' (x + 5) k = nI (xN (e) 0 k) - 1; rw [(g (x + 5) (by omega)).1]; exact E.k_unr k hk)
  · rw [(g (x + 7) (by omega)).1]; exact E.k_many
  · rw [(g (x + 8) (by omega)).2]; exact E.k_sum
  · intro c hc
    have hc : c < 16 * (tN t 0 0 - 1) := hc
    first | (rw [(g (x + 13) (by omega)).1]; exact E.k_beh c hc) | (show CHN (hI h' (x + 13)) (tC (uLs (uNs t 11 p) 2 q) c); rw [(g (x + 13) (by omega)).1]; exact E.k_beh c hc)
  · intro c hc
    have hc : c < 16 * (tN t 0 0 - 1) := hc
    first | (rw [(g (x + 15 + c) (by omega)).1]; exact E.k_ch c hc) | (show kCh c (uLs (uNs t 11 p) 2 q) (e) (hI h' (x + 15 + c)); rw [(g (x + 15 + c) (by omega)).1]; exact E.k_ch c hc)
  · intro i hi
    have hi : i < 4 * tN t 0 0 := hi
    first | (rw [(g (x + 16 * tN t 0 0 + i) (by omega)).1]; exact E.k_tk i hi) | (show kTk i (uLs (uNs t 11 p) 2 q) (e) (hI h' (x + 16 * tN t 0 0 + i)); rw [(g (x + 16 * tN t 0 0 + i) (by omega)).1]; exact E.k_tk i hi)
  · intro j hj
    have hj : j < tN t 0 4 := hj
    first | (rw [(g (m + 24 + 7 * j) (by omega)).1]; exact E.k_mo j hj) | (show kMo j (uLs (uNs t 11 p) 2 q) (e) (hI h' (m + 24 + 7 * j)); rw [(g (m + 24 + 7 * j) (by omega)).1]; exact E.k_mo j hj)
  · intro j hj
    have hj : j < tN t 0 4 := hj
    first | (rw [(g (m + 24 + 7 * j + 4) (by omega)).1]; exact E.k_mr j hj) | (show ∀ i, i < (tK (uLs (uNs t 11 p) 2 q) j).length → hI h' (m + 24 + 7 * j + 4) i = nI ((tK (uLs (uNs t 11 p) 2 q) j).getD i (0, 0)).2; rw [(g (m + 24 + 7 * j + 4) (by omega)).1]; exact E.k_mr j hj)
  · intro j hj
    have hj : j < tN t 0 4 := hj
    first | (rw [(g (m + 24 + 7 * j + 5) (by omega)).1]; exact E.k_mf j hj) | (show ∀ i, i < (tK (uLs (uNs t 11 p) 2 q) j).length → hI h' (m + 24 + 7 * j + 5) i = nI ((tK (uLs (uNs t 11 p) 2 q) j).getD i (0, 0)).1; rw [(g (m + 24 + 7 * j + 5) (by omega)).1]; exact E.k_mf j hj)
  · intro j' hj' i hi
    have hj' : j' < tN t 0 4 := hj'
    show hI h' (m + 24 + 7 * j' + 2) i = nI (p (64 * j' + i))
    by_cases q0 : j' = j
    · subst q0; exact h1 i hi
    · rw [(g (m + 24 + 7 * j' + 2) (by omega)).1, (h3 (64 * j' + i) (by omega)).1]; exact E.k_mt j' hj' i hi
  · intro j' hj' i hi
    have hj' : j' < tN t 0 4 := hj'
    show hL h' (m + 24 + 7 * j' + 3) i = q (64 * j' + i)
    by_cases q0 : j' = j
    · subst q0; exact h2 i hi
    · rw [(g (m + 24 + 7 * j' + 3) (by omega)).2, (h3 (64 * j' + i) (by omega)).2]; exact E.k_ms j' hj' i hi
  · intro j hj
    have hj : j < tN t 0 4 := hj
    first | (rw [(g (m + 24 + 7 * j + 6) (by omega)).1]; exact E.k_mw j hj) | (show ∀ s, s < 4 → hI h' (m + 24 + 7 * j + 6) s = nI (xN (e) 4 (4 * j + s)); rw [(g (m + 24 + 7 * j + 6) (by omega)).1]; exact E.k_mw j hj)
theorem RX.g_keep {x m : Nat} {t : TS} {e : ES} {h : AH} {h' : AH} (E : RX x m t e h) {j c r : Nat} (hj : j < tN t 0 4) (hI0 : hI h' (m + 24 + 7 * j) = va_up (hI h (m + 24 + 7 * j)) 5 (nI ((tK t j).length + 1))) (hI4 : hI h' (m + 24 + 7 * j + 4) = va_up (hI h (m + 24 + 7 * j + 4)) (tK t j).length (nI r)) (hI5 : hI h' (m + 24 + 7 * j + 5) = va_up (hI h (m + 24 + 7 * j + 5)) (tK t j).length (nI c)) (hLs : hL h' = hL h) (f : Fq (fun z => z = m + 24 + 7 * j ∨ z = m + 24 + 7 * j + 4 ∨ z = m + 24 + 7 * j + 5) h h') : RX x m (uK t j (tK t j ++ [(c, r)])) (e) h' := by
  have b := E.L.b
  have g : ∀ a, ¬ (a = m + 24 + 7 * j ∨ a = m + 24 + 7 * j + 4 ∨ a = m + 24 + 7 * j + 5) → hI h' a = hI h a ∧ hL h' a = hL h a := f.2.2.2
  refine ⟨E.L.fq f, ?_, ?_, ?_, ?_, ?_, ?_, ?_, ?_, ?_, ?_, ?_, ?_, ?_, ?_, ?_, ?_, ?_⟩
  · rw [(g (x) (by omega)).1]; exact E.k_ob
  · rw [(g (x + 1) (by omega)).1]; exact E.k_P
  · rw [(g (x + 2) (by omega)).1]; exact E.k_fed
  · rw [(g (x + 3) (by omega)).1]; exact E.k_key
  · rw [(g (x + 4) (by omega)).2]; exact E.k_val
  · intro k hk
    have hk : k < 16 := hk
    first | (rw [(g (x + 5) (by omega)).1]; exact E.k_unr k hk) | (show hI h' (x + 5) k = nI (xN (e) 0 k) - 1; rw [(g (x + 5) (by omega)).1]; exact E.k_unr k hk)
  · rw [(g (x + 7) (by omega)).1]; exact E.k_many
  · rw [(g (x + 8) (by omega)).2]; exact E.k_sum
  · intro c hc
    have hc : c < 16 * (tN t 0 0 - 1) := hc
    first | (rw [(g (x + 13) (by omega)).1]; exact E.k_beh c hc) | (show CHN (hI h' (x + 13)) (tC (uK t j (tK t j ++ [(c, r)])) c); rw [(g (x + 13) (by omega)).1]; exact E.k_beh c hc)
  · intro c hc
    have hc : c < 16 * (tN t 0 0 - 1) := hc
    first | (rw [(g (x + 15 + c) (by omega)).1]; exact E.k_ch c hc) | (show kCh c (uK t j (tK t j ++ [(c, r)])) (e) (hI h' (x + 15 + c)); rw [(g (x + 15 + c) (by omega)).1]; exact E.k_ch c hc)
  · intro i hi
    have hi : i < 4 * tN t 0 0 := hi
    first | (rw [(g (x + 16 * tN t 0 0 + i) (by omega)).1]; exact E.k_tk i hi) | (show kTk i (uK t j (tK t j ++ [(c, r)])) (e) (hI h' (x + 16 * tN t 0 0 + i)); rw [(g (x + 16 * tN t 0 0 + i) (by omega)).1]; exact E.k_tk i hi)
  · intro j' hj'
    have hj' : j' < tN t 0 4 := hj'
    have K := E.k_mo j' hj'
    by_cases q : j' = j
    · subst q
      rw [hI0]
      obtain ⟨e1, e2, e3, e4, e5⟩ := K
      refine ⟨?_, ?_, ?_, ?_, ?_⟩ <;> simp [va_up, tN_uK, tI_uK, tK_uK] <;> assumption
    · rw [(g (m + 24 + 7 * j') (by omega)).1]
      exact K.cg rfl (by rw [tK_uK, if_neg q]) rfl rfl rfl
  · intro j' hj' i hi
    have hj' : j' < tN t 0 4 := hj'
    rw [tK_uK] at hi ⊢
    by_cases q : j' = j
    · subst q
      rw [if_pos rfl] at hi ⊢
      rw [hI4]
      rw [List.length_append] at hi
      by_cases e2 : i < (tK t j').length
      · rw [up_ne (by omega), E.k_mr j' hj' i e2]; congr 1; simp [List.getD_eq_getElem?_getD, List.getElem?_append_left e2]
      · have e3 : i = (tK t j').length := (by simp at hi; omega)
        subst e3
        rw [up_s]; simp [List.getD_eq_getElem?_getD]
    · rw [if_neg q] at hi ⊢
      rw [(g (m + 24 + 7 * j' + 4) (by omega)).1]
      exact E.k_mr j' hj' i hi
  · intro j' hj' i hi
    have hj' : j' < tN t 0 4 := hj'
    rw [tK_uK] at hi ⊢
    by_cases q : j' = j
    · subst q
      rw [if_pos rfl] at hi ⊢
      rw [hI5]
      rw [List.length_append] at hi
      by_cases e2 : i < (tK t j').length
      · rw [up_ne (by omega), E.k_mf j' hj' i e2]; congr 1; simp [List.getD_eq_getElem?_getD, List.getElem?_append_left e2]
      · have e3 : i = (tK t j').length := (by simp at hi; omega)
        subst e3
        rw [up_s]; simp [List.getD_eq_getElem?_getD]
    · rw [if_neg q] at hi ⊢
      rw [(g (m + 24 + 7 * j' + 5) (by omega)).1]
      exact E.k_mf j' hj' i hi
  · intro j hj
    have hj : j < tN t 0 4 := hj
    first | (rw [(g (m + 24 + 7 * j + 2) (by omega)).1]; exact E.k_mt j hj) | (show ∀ i, i < 64 → hI h' (m + 24 + 7 * j + 2) i = nI (tN (uK t j (tK t j ++ [(c, r)])) 11 (64 * j + i)); rw [(g (m + 24 + 7 * j + 2) (by omega)).1]; exact E.k_mt j hj)
  · intro j hj
    have hj : j < tN t 0 4 := hj
    first | (rw [(g (m + 24 + 7 * j + 3) (by omega)).2]; exact E.k_ms j hj) | (show ∀ i, i < 64 → hL h' (m + 24 + 7 * j + 3) i = tL (uK t j (tK t j ++ [(c, r)])) 2 (64 * j + i); rw [(g (m + 24 + 7 * j + 3) (by omega)).2]; exact E.k_ms j hj)
  · intro j hj
    have hj : j < tN t 0 4 := hj
    first | (rw [(g (m + 24 + 7 * j + 6) (by omega)).1]; exact E.k_mw j hj) | (show ∀ s, s < 4 → hI h' (m + 24 + 7 * j + 6) s = nI (xN (e) 4 (4 * j + s)); rw [(g (m + 24 + 7 * j + 6) (by omega)).1]; exact E.k_mw j hj)
theorem RX.g_chan {x m : Nat} {t : TS} {e : ES} {h : AH} {h' : AH} (E : RX x m t e h) {c : Nat} (hc : c < 16 * (tN t 0 0 - 1)) {l : List Nat} {bb : Nat} (k1 : kCh c (uN (uC t c l) 4 c bb) e (hI h' (x + 15 + c))) (k2 : CHN (hI h' (x + 13)) l) (k3 : ∀ d, d < 16 * (tN t 0 0 - 1) → d ≠ c → CHN (hI h' (x + 13)) (tC t d)) (f : Fq (fun z => z = x + 15 + c ∨ z = x + 13) h h') : RX x m (uN (uC t c l) 4 c bb) (e) h' := by
  have b := E.L.b
  have g : ∀ a, ¬ (a = x + 15 + c ∨ a = x + 13) → hI h' a = hI h a ∧ hL h' a = hL h a := f.2.2.2
  refine ⟨E.L.fq f, ?_, ?_, ?_, ?_, ?_, ?_, ?_, ?_, ?_, ?_, ?_, ?_, ?_, ?_, ?_, ?_, ?_⟩
  · rw [(g (x) (by omega)).1]; exact E.k_ob
  · rw [(g (x + 1) (by omega)).1]; exact E.k_P
  · rw [(g (x + 2) (by omega)).1]; exact E.k_fed
  · rw [(g (x + 3) (by omega)).1]; exact E.k_key
  · rw [(g (x + 4) (by omega)).2]; exact E.k_val
  · intro k hk
    have hk : k < 16 := hk
    first | (rw [(g (x + 5) (by omega)).1]; exact E.k_unr k hk) | (show hI h' (x + 5) k = nI (xN (e) 0 k) - 1; rw [(g (x + 5) (by omega)).1]; exact E.k_unr k hk)
  · rw [(g (x + 7) (by omega)).1]; exact E.k_many
  · rw [(g (x + 8) (by omega)).2]; exact E.k_sum
  · intro d hd
    have hd : d < 16 * (tN t 0 0 - 1) := hd
    show CHN _ (tC (uC t c l) d)
    rw [tC_uC]
    by_cases q : d = c
    · rw [if_pos q]; exact k2
    · rw [if_neg q]; exact k3 d hd q
  · intro d hd
    have hd : d < 16 * (tN t 0 0 - 1) := hd
    by_cases q : d = c
    · subst q; exact k1
    · rw [(g (x + 15 + d) (by omega)).1]
      exact (E.k_ch d hd).cg (by show tC (uC t c l) d = _; rw [tC_uC, if_neg q]) (by rw [tN_uN, if_neg (fun z => q z.2)]; rfl) rfl rfl
  · intro i hi
    have hi : i < 4 * tN t 0 0 := hi
    first | (rw [(g (x + 16 * tN t 0 0 + i) (by omega)).1]; exact E.k_tk i hi) | (show kTk i (uN (uC t c l) 4 c bb) (e) (hI h' (x + 16 * tN t 0 0 + i)); rw [(g (x + 16 * tN t 0 0 + i) (by omega)).1]; exact E.k_tk i hi)
  · intro j hj
    have hj : j < tN t 0 4 := hj
    first | (rw [(g (m + 24 + 7 * j) (by omega)).1]; exact E.k_mo j hj) | (show kMo j (uN (uC t c l) 4 c bb) (e) (hI h' (m + 24 + 7 * j)); rw [(g (m + 24 + 7 * j) (by omega)).1]; exact E.k_mo j hj)
  · intro j hj
    have hj : j < tN t 0 4 := hj
    first | (rw [(g (m + 24 + 7 * j + 4) (by omega)).1]; exact E.k_mr j hj) | (show ∀ i, i < (tK (uN (uC t c l) 4 c bb) j).length → hI h' (m + 24 + 7 * j + 4) i = nI ((tK (uN (uC t c l) 4 c bb) j).getD i (0, 0)).2; rw [(g (m + 24 + 7 * j + 4) (by omega)).1]; exact E.k_mr j hj)
  · intro j hj
    have hj : j < tN t 0 4 := hj
    first | (rw [(g (m + 24 + 7 * j + 5) (by omega)).1]; exact E.k_mf j hj) | (show ∀ i, i < (tK (uN (uC t c l) 4 c bb) j).length → hI h' (m + 24 + 7 * j + 5) i = nI ((tK (uN (uC t c l) 4 c bb) j).getD i (0, 0)).1; rw [(g (m + 24 + 7 * j + 5) (by omega)).1]; exact E.k_mf j hj)
  · intro j hj
    have hj : j < tN t 0 4 := hj
    first | (rw [(g (m + 24 + 7 * j + 2) (by omega)).1]; exact E.k_mt j hj) | (show ∀ i, i < 64 → hI h' (m + 24 + 7 * j + 2) i = nI (tN (uN (uC t c l) 4 c bb) 11 (64 * j + i)); rw [(g (m + 24 + 7 * j + 2) (by omega)).1]; exact E.k_mt j hj)
  · intro j hj
    have hj : j < tN t 0 4 := hj
    first | (rw [(g (m + 24 + 7 * j + 3) (by omega)).2]; exact E.k_ms j hj) | (show ∀ i, i < 64 → hL h' (m + 24 + 7 * j + 3) i = tL (uN (uC t c l) 4 c bb) 2 (64 * j + i); rw [(g (m + 24 + 7 * j + 3) (by omega)).2]; exact E.k_ms j hj)
  · intro j hj
    have hj : j < tN t 0 4 := hj
    first | (rw [(g (m + 24 + 7 * j + 6) (by omega)).1]; exact E.k_mw j hj) | (show ∀ s, s < 4 → hI h' (m + 24 + 7 * j + 6) s = nI (xN (e) 4 (4 * j + s)); rw [(g (m + 24 + 7 * j + 6) (by omega)).1]; exact E.k_mw j hj)
