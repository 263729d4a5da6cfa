/-! ===== what the calls do to the state ===== -/
theorem uNs_comm {t : TS} {j k : Nat} {f g : Nat → Nat} (h : j ≠ k) : uNs (uNs t j f) k g = uNs (uNs t k g) j f := by
  show (va_up (va_up (tN t) j f) k g, _) = (va_up (va_up (tN t) k g) j f, _)
  congr 1
  funext i
  unfold va_up
  by_cases h1 : i = j
  · subst h1; simp [h]
  · by_cases h2 : i = k
    · subst h2; simp [h1]
    · simp [h1, h2]
theorem uNs_same {t : TS} {j : Nat} {f g : Nat → Nat} : uNs (uNs t j f) j g = uNs t j g := by
  show (va_up (va_up (tN t) j f) j g, _) = (va_up (tN t) j g, _)
  congr 1
  funext i
  unfold va_up
  by_cases h1 : i = j <;> simp [h1]
theorem uNs_id {t : TS} {j : Nat} : uNs t j (tN t j) = t := by
  show (va_up (tN t) j (tN t j), tI t, tL t, tC t, tK t) = t
  have e : va_up (tN t) j (tN t j) = tN t := by
    funext i
    unfold va_up
    by_cases h1 : i = j
    · subst h1; simp
    · simp [h1]
  rw [e]; rfl
theorem uN_uNs {t : TS} {j i v : Nat} {f : Nat → Nat} : uN (uNs t j f) j i v = uNs t j (va_up f i v) := by
  unfold uN
  rw [tN_uNs_s, uNs_same]
/-- the mark under way ends -/
def spEnd (t : TS) (how : Nat) : TS :=
  uNs (uNs (uNs (uNs (uN (uI (uN t 9 (tN t 0 5 - 1) how) 3 (tN t 0 5 - 1) (tI t 0 1 - tI t 2 (tN t 0 5 - 1))) 0 5 0) 4 (fun _ => 0)) 5 (fun _ => 0)) 6 (fun _ => 0)) 7 (fun _ => 0)
def spKeep (t : TS) (c r : Nat) : TS := if tN t 0 2 < (tK t (tN t 0 5 - 1)).length + 1 then spEnd t 2 else uK t (tN t 0 5 - 1) (tK t (tN t 0 5 - 1) ++ [(c, r)])
def spKeepL (c : Nat) : List Nat → TS → TS
  | [], t => t
  | r :: rs, t => if tN t 0 5 = 0 then t else spKeepL c rs (spKeep t c r)
/-- MANY and SUM of a task's KEYS are kept -/
def spSave (t : TS) (j s q : Nat) : TS :=
  uLs (uNs t 11 (fun i => if 64 * j + 16 * s ≤ i ∧ i < 64 * j + 16 * s + 16 ∧ (i - (64 * j + 16 * s)) % tN t 1 s = q then tN t 3 (i - 64 * j) else tN t 11 i)) 2 (fun i => if 64 * j + 16 * s ≤ i ∧ i < 64 * j + 16 * s + 16 ∧ (i - (64 * j + 16 * s)) % tN t 1 s = q then tL t 1 (i - 64 * j) else tL t 2 i)
/-- the barrier comes into one channel -/
def spBar (t : TS) (j c lo : Nat) : TS := uN (uN t 4 c (if lo = 0 then (tC t c).length + 1 else 1)) 12 (48 * j + c) (if tN t 12 (48 * j + c) = 0 ∧ lo = 0 then 0 else 1)
def spTo (j s q lo : Nat) : Nat → Nat → TS → TS
  | 0, _, t => t
  | n + 1, d, t => if tN t 0 5 = 0 then t else spTo j s q lo n (d + 1) (if lo = 0 then spBar t j (16 * s + 4 * q + d) lo else spKeepL (16 * s + 4 * q + d) (tC t (16 * s + 4 * q + d)) (spBar t j (16 * s + 4 * q + d) lo))
def spPart (t : TS) (s q lo : Nat) : TS :=
  if s + 1 < tN t 0 0 then spTo (tN t 0 5 - 1) s q lo (tN t 1 (s + 1)) 0 (spSave (uN (uN t 6 (4 * s + q) 1) 7 (4 * s + q) 0) (tN t 0 5 - 1) s q) else spSave (uN (uN t 6 (4 * s + q) 1) 7 (4 * s + q) 0) (tN t 0 5 - 1) s q
def allC (t : TS) (s q : Nat) : Prop := ∀ f, f < tN t 1 (s - 1) → tN t 5 (16 * (s - 1) + 4 * f + q) = 1
def allW (t : TS) : Prop := ∀ s, s < tN t 0 0 → ∀ q, q < tN t 1 s → tN t 6 (4 * s + q) = 1 ∧ (s = 0 ∨ allC t s q)
noncomputable def spSettle (t : TS) : TS := cif (tN t 0 5 ≠ 0 ∧ allW t) (spEnd t 1) t
noncomputable def spCame1 (t : TS) (s q c : Nat) : TS :=
  cif (tN t 6 (4 * s + q) = 0) (cif (tN t 12 (48 * (tN t 0 5 - 1) + c) ≠ 0 ∨ tI t 0 0 = 0) (spPart t s q 1) (cif (allC t s q) (spPart t s q 0) (cif (tN t 7 (4 * s + q) = 0) (uI (uN t 7 (4 * s + q) 1) 1 (4 * s + q) (tI t 0 1)) t))) t
noncomputable def spCame (t : TS) (s q c : Nat) : TS := spSettle (spCame1 (uN (uN t 5 c 1) 4 c 0) s q c)
/-- how many of the first n INPUT rows have KEY k -/
def cnt (t : TS) (k : Nat) : Nat → Nat
  | 0 => 0
  | n + 1 => cnt t k n + (if tN t 2 n = k then 1 else 0)
def isRd (t : TS) (r : Nat) : Prop := cnt t (tN t 2 r) r < tN t 3 (tN t 2 r)
def spTake (t : TS) (s r : Nat) : TS := uL (uN t 3 (16 * s + tN t 2 r) (tN t 3 (16 * s + tN t 2 r) + 1)) 1 (16 * s + tN t 2 r) (tL t 1 (16 * s + tN t 2 r) + tL t 0 r)
def spPut (t : TS) (c r : Nat) : TS := uC t c (tC t c ++ [r])
/-- the first row at or behind r that task q of stage 0 would take (n rows are left) -/
noncomputable def fstU (t : TS) (q : Nat) : Nat → Nat → Nat
  | 0, r => r
  | n + 1, r => cif (tN t 2 r % tN t 1 0 = q ∧ ¬ isRd t r) r (fstU t q n (r + 1))
noncomputable def spSource (t : TS) (q : Nat) : Nat × TS :=
  if fstU t q (tN t 0 3) 0 = tN t 0 3 then (0, t)
  else if tN t 0 1 ≤ (tC t (4 * q + tN t 2 (fstU t q (tN t 0 3) 0) % tN t 1 1)).length then (0, t)
  else (1, spPut (spTake t 0 (fstU t q (tN t 0 3) 0)) (4 * q + tN t 2 (fstU t q (tN t 0 3) 0) % tN t 1 1) (fstU t q (tN t 0 3) 0))
def shut (t : TS) (s q c : Nat) : Prop := tN t 0 5 ≠ 0 ∧ tN t 7 (4 * s + q) ≠ 0 ∧ tN t 5 c ≠ 0
/-- the channel to which a row goes from task q of stage s -/
def outC (t : TS) (s q r : Nat) : Nat := 16 * s + 4 * q + tN t 2 r % tN t 1 (s + 1)
def spOff (t : TS) (c : Nat) : TS := uN (uC t c (tC t c).tail) 4 c (if 1 < tN t 4 c then tN t 4 c - 1 else tN t 4 c)
noncomputable def spKept (t : TS) (s q c r : Nat) : TS := cif (tN t 0 5 ≠ 0 ∧ tN t 6 (4 * s + q) ≠ 0 ∧ tN t 5 c = 0) (spKeep (uN t 12 (48 * (tN t 0 5 - 1) + c) 1) c r) t
noncomputable def spTakeFrom (t : TS) (s q f : Nat) : Option TS :=
  cif (tC t (16 * (s - 1) + 4 * f + q) = [] ∨ shut t s q (16 * (s - 1) + 4 * f + q)) none
   (cif (s + 1 < tN t 0 0 ∧ tN t 0 1 ≤ (tC t (outC t s q ((tC t (16 * (s - 1) + 4 * f + q)).headD 0))).length) none
    (some (cif (s + 1 < tN t 0 0)
      (spPut (spKept (uN (spTake (spOff t (16 * (s - 1) + 4 * f + q)) s ((tC t (16 * (s - 1) + 4 * f + q)).headD 0)) 8 (4 * s + q) ((f + 1) % tN t 1 (s - 1))) s q (16 * (s - 1) + 4 * f + q) ((tC t (16 * (s - 1) + 4 * f + q)).headD 0)) (outC t s q ((tC t (16 * (s - 1) + 4 * f + q)).headD 0)) ((tC t (16 * (s - 1) + 4 * f + q)).headD 0))
      (spKept (uN (spTake (spOff t (16 * (s - 1) + 4 * f + q)) s ((tC t (16 * (s - 1) + 4 * f + q)).headD 0)) 8 (4 * s + q) ((f + 1) % tN t 1 (s - 1))) s q (16 * (s - 1) + 4 * f + q) ((tC t (16 * (s - 1) + 4 * f + q)).headD 0)))))
/-- the first channel with the barrier at its front, from f on (n are left) -/
def fstB (t : TS) (s q : Nat) : Nat → Nat → Option Nat
  | 0, _ => none
  | n + 1, f => if tN t 4 (16 * (s - 1) + 4 * f + q) = 1 then some f else fstB t s q n (f + 1)
noncomputable def spRows (t : TS) (s q a : Nat) : Nat → Nat → Nat × TS
  | 0, _ => (0, t)
  | n + 1, i => match spTakeFrom t s q ((a + i) % tN t 1 (s - 1)) with
    | some t' => (1, t')
    | none => spRows t s q a n (i + 1)
noncomputable def spTurn1 (t : TS) (s q : Nat) : Nat × TS :=
  match fstB t s q (tN t 1 (s - 1)) 0 with
  | some f => (2, spCame t s q (16 * (s - 1) + 4 * f + q))
  | none => cif (tN t 7 (4 * s + q) ≠ 0 ∧ tI t 0 0 ≠ -1 ∧ ¬ tI t 0 1 - tI t 1 (4 * s + q) < tI t 0 0) (3, spSettle (spPart t s q 1)) (spRows t s q (tN t 8 (4 * s + q)) (tN t 1 (s - 1)) 0)
noncomputable def spTurn (t : TS) (s q : Nat) : Nat × TS := if s = 0 then spSource (uI t 0 1 (tI t 0 1 + 1)) q else spTurn1 (uI t 0 1 (tI t 0 1 + 1)) s q
