/-! ===== the reference: its constructor ===== -/
/-- the number of stages that is asked for, brought between 2 and 4 -/
def nS (x : Int32) : Nat := if x < nI 2 then 2 else if nI 4 < x then 4 else x.toNatClampNeg
def spNew (x : Int32) : TS := (fun j i => if j = 0 then (if i = 0 then nS x else if i = 1 then 5 else if i = 2 then 200 else 0) else if j = 1 then 1 else 0, fun _ _ => 0, fun _ _ => 0, fun _ => [], fun _ => [])
theorem nS_le {x : Int32} : 2 ≤ nS x ∧ nS x ≤ 4 := by
  unfold nS
  split
  · omega
  · rename_i h
    split
    · omega
    · rename_i h2
      obtain ⟨j, h3, h4, rfl⟩ := inR_of (x := x) (a := 2) (b := 4) (by decide) ⟨Int32.not_lt.mp h, Int32.not_lt.mp h2⟩
      rw [nI_clamp (by omega)]
      omega
theorem nS_v {x : Int32} (h : ¬ x < nI 2) (h2 : ¬ nI 4 < x) : nI (nS x) = x := by
  obtain ⟨j, h3, h4, rfl⟩ := inR_of (x := x) (a := 2) (b := 4) (by decide) ⟨Int32.not_lt.mp h, Int32.not_lt.mp h2⟩
  unfold nS
  rw [if_neg h, if_neg h2, nI_clamp (by omega)]
abbrev CL : Type := List (Nat × Nat × Nat × (Nat → Int32))
/-- an object of class ci at m and the arrays of its fields, made one after another; below m all is as in h0 -/
def RP (ci : Nat) (h0 : AH) (m : Nat) (L : CL) (f : Nat → Int32) (h : AH) : Prop :=
  hS h m = (0, ci) ∧ hN h = m + 1 + L.length ∧ (∀ i k kd n g, L[i]? = some (k, kd, n, g) → hR h m k = some (m + 1 + i) ∧ hS h (m + 1 + i) = (kd, n) ∧ hI h (m + 1 + i) = g ∧ hL h (m + 1 + i) = fun _ => 0) ∧ hI h m = f ∧ ∀ a, a < m → hS h a = hS h0 a ∧ hI h a = hI h0 a ∧ hR h a = hR h0 a ∧ hL h a = hL h0 a
theorem hI_newf {h : AH} {sh : Nat × Nat} {b : Nat} : hI (hnew h sh) b = if b = hN h then (fun _ => 0) else hI h b := rfl
theorem hL_newf {h : AH} {sh : Nat × Nat} {b : Nat} : hL (hnew h sh) b = if b = hN h then (fun _ => 0) else hL h b := rfl
theorem hR_newf {h : AH} {sh : Nat × Nat} {b : Nat} : hR (hnew h sh) b = if b = hN h then (fun _ => none) else hR h b := rfl
theorem hR_pRf {h : AH} {a b k : Nat} {v : Option Nat} : hR (pR h a k v) b = if b = a then va_up (hR h a) k v else hR h b := rfl
theorem hI_pIf {h : AH} {a b k : Nat} {v : Int32} : hI (pI h a k v) b = if b = a then va_up (hI h a) k v else hI h b := rfl
theorem RP.add {ci : Nat} {h0 : AH} {m : Nat} {L : CL} {f : Nat → Int32} {h h1 : AH} (P : RP ci h0 m L f h) {k kd n : Nat} {g : Nat → Int32} (hk : ∀ q ∈ L, q.1 ≠ k) (e1 : hS h1 = hS (hnew h (kd, n))) (e2 : ∀ a, a ≠ hN h → hI h1 a = hI h a) (e3 : hI h1 (hN h) = g) (e4 : hR h1 = hR (hnew h (kd, n))) (e5 : hL h1 = hL (hnew h (kd, n))) (e6 : hN h1 = hN h + 1) : RP ci h0 m (L ++ [(k, kd, n, g)]) f (pR h1 m k (some (hN h))) := by
  obtain ⟨p1, p2, p3, p4, p5⟩ := P
  refine ⟨?_, ?_, fun i k' kd' n' g' hi => ?_, ?_, fun a ha => ?_⟩
  · rw [hS_pR, e1, hS_new, if_neg (by omega)]; exact p1
  · rw [hN_pR, e6, p2, List.length_append]; rfl
  · rw [hR_pRf, if_pos rfl, hS_pR, hI_pR, hL_pR, e1, e4, e5, hS_new, hR_newf, hL_newf, if_neg (by omega : ¬ m = hN h)]
    rcases Nat.lt_or_ge i L.length with hl | hl
    · rw [List.getElem?_append_left hl] at hi
      obtain ⟨q1, q2, q3, q4⟩ := p3 i k' kd' n' g' hi
      have hne : k' ≠ k := hk _ (List.mem_of_getElem? hi)
      rw [up_ne hne, if_neg (by omega), if_neg (by omega), e2 _ (by omega)]
      exact ⟨q1, q2, q3, q4⟩
    · rw [List.getElem?_append_right hl] at hi
      have hi0 : i - L.length = 0 := by
        rcases Nat.eq_zero_or_pos (i - L.length) with z | z
        · exact z
        · rw [List.getElem?_eq_none (by simp; omega)] at hi; cases hi
      rw [hi0] at hi
      cases hi
      have e : m + 1 + i = hN h := by omega
      rw [up_s, e, if_pos rfl, if_pos rfl, e3]
      exact ⟨rfl, rfl, rfl, rfl⟩
  · rw [hI_pR, e2 _ (by omega)]; exact p4
  · rw [hS_pR, hI_pR, hL_pR, hR_pRf, if_neg (by omega), e1, e4, e5, hS_new, if_neg (by omega), hR_newf, if_neg (by omega), hL_newf, if_neg (by omega), e2 _ (by omega)]
    exact p5 a ha
theorem RP.add0 {ci : Nat} {h0 : AH} {m : Nat} {L : CL} {f : Nat → Int32} {h : AH} (P : RP ci h0 m L f h) {k kd n : Nat} (hk : ∀ q ∈ L, q.1 ≠ k) : RP ci h0 m (L ++ [(k, kd, n, fun _ => 0)]) f (pR (hnew h (kd, n)) m k (some (hN h))) :=
  P.add hk rfl (fun a ha => by rw [hI_newf, if_neg ha]) (by rw [hI_newf, if_pos rfl]) rfl rfl rfl
theorem RP.put {ci : Nat} {h0 : AH} {m : Nat} {L : CL} {f : Nat → Int32} {h : AH} (P : RP ci h0 m L f h) {k : Nat} {v : Int32} : RP ci h0 m L (va_up f k v) (pI h m k v) := by
  obtain ⟨p1, p2, p3, p4, p5⟩ := P
  refine ⟨p1, p2, fun i k' kd' n' g' hi => ?_, ?_, fun a ha => ?_⟩
  · rw [hI_ne (by omega)]; exact p3 i k' kd' n' g' hi
  · rw [hI_eq, p4]
  · rw [hI_ne (by omega)]; exact p5 a ha
theorem RP.to {ci : Nat} {h0 : AH} {m : Nat} {L : CL} {f : Nat → Int32} {h : AH} {G : GP} {F : FX} {M : MD} {cells slots : Nat} {Q : State → Prop} {pc : Nat} {lv : List (Option Value)} {st : List Value} (P : RP ci h0 m L f h) (k : ∀ h', RP ci h0 m L f h' → WA G F M h' cells slots Q pc lv st) : WA G F M h cells slots Q pc lv st := k h P
abbrev z0 : Nat → Int32 := fun _ => 0
abbrev w1_ : Nat → Int32 := va_up (va_up (va_up (va_up z0 0 (nI 1)) 1 (nI 1)) 2 (nI 1)) 3 (nI 1)
abbrev CL6 (g : Nat → Int32) : CL := [(1, 1, 4, w1_), (6, 1, 200, z0), (7, 2, 200, z0), (8, 1, 64, z0), (9, 2, 64, z0), (10, 1, 9600, z0), (11, 1, 48, z0), (12, 1, 48, g), (13, 3, 48, z0), (14, 3, 16, z0), (15, 3, 16, z0), (16, 1, 16, z0), (17, 1, 16, z0), (21, 1, 8, z0), (22, 1, 8, z0), (23, 1, 8, z0), (24, 1, 32, z0), (25, 1, 512, z0), (26, 2, 512, z0), (27, 1, 8, z0), (28, 1, 1600, z0), (29, 1, 1600, z0), (30, 3, 384, z0)]
theorem RP.wb {h0 : AH} {m : Nat} {g f : Nat → Int32} {h : AH} (P : RP 6 h0 m (CL6 g) f h) {k : Nat} {v : Int32} : RP 6 h0 m (CL6 (va_up g k v)) f (pI h (m + 8) k v) := by
  obtain ⟨p1, p2, p3, p4, p5⟩ := P
  refine ⟨p1, p2, fun i k' kd' n' g' hi => ?_, ?_, fun a ha => ?_⟩
  · rcases Nat.lt_trichotomy i 7 with z | z | z
    · rw [hI_ne (by omega)]
      refine p3 i k' kd' n' g' ?_
      rw [← hi]
      match i, z with
      | 0, _ => rfl
      | 1, _ => rfl
      | 2, _ => rfl
      | 3, _ => rfl
      | 4, _ => rfl
      | 5, _ => rfl
      | 6, _ => rfl
    · subst z
      cases hi
      have q := p3 7 12 1 48 g rfl
      rw [show m + 1 + 7 = m + 8 by omega] at q ⊢
      rw [hI_eq, q.2.2.1]
      exact ⟨q.1, q.2.1, rfl, q.2.2.2⟩
    · rw [hI_ne (by omega)]
      refine p3 i k' kd' n' g' ?_
      rw [← hi]
      obtain ⟨j, rfl⟩ : ∃ j, i = j + 8 := ⟨i - 8, by omega⟩
      rfl
  · rw [hI_ne (by omega)]; exact p4
  · rw [hI_ne (by omega)]; exact p5 a ha
theorem RP.rm {h0 : AH} {m : Nat} {g : Nat → Int32} {h : AH} {x : Int32} (P : RP 6 h0 m (CL6 g) (va_up (va_up (va_up (va_up z0 2 (nI 5)) 4 (nI 200)) 20 (-1)) 0 (nI (nS x))) h) (hg : ∀ c, c < 48 → g c = -1) : RM m (spNew x) h := by
  obtain ⟨p1, p2, p3, p4, p5⟩ := P
  have q (i k kd n : Nat) (g' : Nat → Int32) (hi : (CL6 g)[i]? = some (k, kd, n, g')) : hR h m k = some (m + (i + 1)) ∧ hS h (m + (i + 1)) = (kd, n) ∧ hI h (m + (i + 1)) = g' ∧ hL h (m + (i + 1)) = fun _ => 0 := by
    have := p3 i k kd n g' hi
    rw [show m + 1 + i = m + (i + 1) by omega] at this
    exact this
  have r0 := q 0 _ _ _ _ rfl
  have r1 := q 1 _ _ _ _ rfl
  have r2 := q 2 _ _ _ _ rfl
  have r3 := q 3 _ _ _ _ rfl
  have r4 := q 4 _ _ _ _ rfl
  have r5 := q 5 _ _ _ _ rfl
  have r6 := q 6 _ _ _ _ rfl
  have r7 := q 7 _ _ _ _ rfl
  have r8 := q 8 _ _ _ _ rfl
  have r9 := q 9 _ _ _ _ rfl
  have r10 := q 10 _ _ _ _ rfl
  have r11 := q 11 _ _ _ _ rfl
  have r12 := q 12 _ _ _ _ rfl
  have r13 := q 13 _ _ _ _ rfl
  have r14 := q 14 _ _ _ _ rfl
  have r15 := q 15 _ _ _ _ rfl
  have r16 := q 16 _ _ _ _ rfl
  have r17 := q 17 _ _ _ _ rfl
  have r18 := q 18 _ _ _ _ rfl
  have r19 := q 19 _ _ _ _ rfl
  have r20 := q 20 _ _ _ _ rfl
  have r21 := q 21 _ _ _ _ rfl
  have r22 := q 22 _ _ _ _ rfl
  refine ⟨⟨p1, ⟨r0.1, r0.2.1⟩, ⟨r1.1, r1.2.1⟩, ⟨r2.1, r2.2.1⟩, ⟨r3.1, r3.2.1⟩, ⟨r4.1, r4.2.1⟩, ⟨r5.1, r5.2.1⟩, ⟨r6.1, r6.2.1⟩, ⟨r7.1, r7.2.1⟩, ⟨r8.1, r8.2.1⟩, ⟨r9.1, r9.2.1⟩, ⟨r10.1, r10.2.1⟩, ⟨r11.1, r11.2.1⟩, ⟨r12.1, r12.2.1⟩, ⟨r13.1, r13.2.1⟩, ⟨r14.1, r14.2.1⟩, ⟨r15.1, r15.2.1⟩, ⟨r16.1, r16.2.1⟩, ⟨r17.1, r17.2.1⟩, ⟨r18.1, r18.2.1⟩, ⟨r19.1, r19.2.1⟩, ⟨r20.1, r20.2.1⟩, ⟨r21.1, r21.2.1⟩, ⟨r22.1, r22.2.1⟩⟩, ?_, ?_, ?_, ?_, ?_, ?_, ?_, ?_, ?_, ?_, ?_, ?_, ?_, ?_, ?_, ?_, ?_, ?_, ?_, ?_, ?_, ?_, ?_, ?_⟩
  · rw [p4]; exact ⟨rfl, rfl, rfl, rfl, rfl, rfl, rfl, (show (-1 : Int32) = nI 0 - 1 by decide)⟩
  · rw [r0.2.2.1]
    intro i hi
    match i, hi with
    | 0, _ => rfl
    | 1, _ => rfl
    | 2, _ => rfl
    | 3, _ => rfl
  · rw [r1.2.2.1]; intro i hi; rfl
  · rw [r2.2.2.2]; intro i hi; rfl
  · rw [r3.2.2.1]; intro i hi; rfl
  · rw [r4.2.2.2]; intro i hi; rfl
  · intro c hc i hi; exact absurd hi (Nat.not_lt_zero _)
  · rw [r6.2.2.1]; intro c hc; rfl
  · rw [r7.2.2.1]; intro c hc; rw [hg c hc]; show -1 = nI 0 - 1; decide
  · rw [r8.2.2.1]; intro i hi; rfl
  · rw [r9.2.2.1]; intro i hi; rfl
  · rw [r10.2.2.1]; intro i hi; rfl
  · rw [r11.2.2.1]; intro i hi; rfl
  · rw [r12.2.2.1]; intro i hi; rfl
  · rw [r13.2.2.1]; intro i hi; rfl
  · rw [r14.2.2.1]; intro i hi; rfl
  · rw [r15.2.2.1]; intro i hi; rfl
  · rw [r16.2.2.1]; intro i hi; rfl
  · rw [r17.2.2.1]; intro i hi; rfl
  · rw [r18.2.2.2]; intro i hi; rfl
  · rw [r19.2.2.1]; intro j hj; rfl
  · intro c hc i hi; exact absurd hi (Nat.not_lt_zero _)
  · intro c hc i hi; exact absurd hi (Nat.not_lt_zero _)
  · rw [r22.2.2.1]; intro i hi; rfl
theorem ini6_l {G : GP} {F : FX} {m : Nat} {h0 : AH} {x : Int32} {f : Nat → Int32} {Q : State → Prop} (C : CX G F mX6_init (Rm 1 23 15012)) (kk : ∀ h g x2, RP 6 h0 m (CL6 g) f h → (∀ c, c < 48 → g c = -1) → WA G F mX6_init h 23 15012 Q 272 [some (.ref m), some (.int x), some (.int x2)] []) :
    ∀ (n i : Nat) (h : AH) (g : Nat → Int32), i + n = 48 → RP 6 h0 m (CL6 g) f h → (∀ c, c < i → g c = -1) → WA G F mX6_init h 23 15012 Q 253 [some (.ref m), some (.int x), some (.int (nI i))] [] := by
  intro n
  induction n with
  | zero =>
    intro i h g hi P hg
    refine r_iload_n (pc := 253) C dX6_init_253 rfl rfl ?_
    refine r_bipush (pc := 254) (v := (nI 48)) C dX6_init_254 (by decide) ?_
    refine n_icmp_ge (pc := 256) (tgt := 272) C (by omega) (by omega) dX6_init_256 (by decide) (fun c256 => ?_) (fun c256 => absurd c256 (by omega))
    exact kk h g _ P (fun c hc => hg c (by omega))
  | succ n ih =>
    intro i h g hi P hg
    obtain ⟨p1, p2, p3, p4, p5⟩ := id P
    refine r_iload_n (pc := 253) C dX6_init_253 rfl rfl ?_
    refine r_bipush (pc := 254) (v := (nI 48)) C dX6_init_254 (by decide) ?_
    refine n_icmp_ge (pc := 256) (tgt := 272) C (by omega) (by omega) dX6_init_256 (by decide) (fun c256 => absurd c256 (by omega)) (fun c256 => ?_)
    refine r_aload_n (pc := 259) C dX6_init_259 rfl rfl ?_
    refine r_getR (pc := 260) C fl_X6_39 p1 rfl ((p3 7 12 1 48 g rfl).1.trans (by rw [show m + 1 + 7 = m + 8 by omega])) dX6_init_260 ?_
    refine r_iload_n (pc := 263) C dX6_init_263 rfl rfl ?_
    refine r_iconst (pc := 264) (v := (-1)) C dX6_init_264 (by decide) ?_
    refine n_iast (pc := 265) C (show hS h (m + 8) = (1, 48) from (by have := (p3 7 12 1 48 g rfl).2.1; rw [show m + 1 + 7 = m + 8 by omega] at this; exact this)) (by omega) dX6_init_265 ?_
    refine n_iinc (pc := 266) (lv' := [_, _, _]) C dX6_init_266 rfl (by decide) rfl rfl ?_
    refine r_goto (pc := 269) (tgt := 253) C dX6_init_269 (by decide) ?_
    refine ih (i + 1) _ _ (by omega) P.wb (fun c hc => ?_)
    unfold va_up
    split
    · rfl
    · exact hg c (by omega)
theorem ini6_e {G : GP} {F : FX} {m : Nat} {h0 h : AH} {x : Int32} (C : CX G F mX6_init (Rm 1 23 15012)) (P : RP 6 h0 m (CL6 z0) (va_up (va_up (va_up z0 2 (nI 5)) 4 (nI 200)) 20 (-1)) h) : WA G F mX6_init h 23 15012 (MQA G F 23 15012 (Ov (fun h' => RM m (spNew x) h' ∧ hN h' = m + 24 ∧ ∀ a, a < m → hS h' a = hS h0 a ∧ hI h' a = hI h0 a ∧ hR h' a = hR h0 a ∧ hL h' a = hL h0 a))) 228 [some (.ref m), some (.int x), none] [] := by
  have k248 : ∀ v, v = nI (nS x) → WA G F mX6_init h 23 15012 (MQA G F 23 15012 (Ov (fun h' => RM m (spNew x) h' ∧ hN h' = m + 24 ∧ ∀ a, a < m → hS h' a = hS h0 a ∧ hI h' a = hI h0 a ∧ hR h' a = hR h0 a ∧ hL h' a = hL h0 a))) 248 [some (.ref m), some (.int x), none] [.int v, .ref m] := by
    intro v hv
    subst hv
    refine r_putFI (pc := 248) C fl_X6_91 P.1 rfl rfl rfl rfl rfl rfl fw_X6_91 dX6_init_248 ?_
    refine P.put.to (fun h5 P => ?_)
    refine r_iconst (pc := 251) (v := (nI 0)) C dX6_init_251 (by decide) ?_
    refine r_istore_n (pc := 252) (lv' := [_, _, _]) C dX6_init_252 rfl (by decide) rfl rfl ?_
    refine ini6_l C (fun h6 g x2 P hg => ?_) 48 0 h5 z0 rfl P (fun c hc => absurd hc (Nat.not_lt_zero c))
    exact r_vret (pc := 272) C rfl (Nat.le_refl _) (Nat.le_refl _) ⟨rfl, P.rm hg, P.2.1, P.2.2.2.2⟩ dX6_init_272
  refine r_aload_n (pc := 228) C dX6_init_228 rfl rfl ?_
  refine r_iload_n (pc := 229) C dX6_init_229 rfl rfl ?_
  refine r_iconst (pc := 230) (v := (nI 2)) C dX6_init_230 (by decide) ?_
  refine r_icmp_ge (pc := 231) (tgt := 238) C dX6_init_231 (by decide) (fun c231 => ?_) (fun c231 => ?_)
  · refine r_iload_n (pc := 238) C dX6_init_238 rfl rfl ?_
    refine r_iconst (pc := 239) (v := (nI 4)) C dX6_init_239 (by decide) ?_
    refine r_icmp_le (pc := 240) (tgt := 247) C dX6_init_240 (by decide) (fun c240 => ?_) (fun c240 => ?_)
    · refine r_iload_n (pc := 247) C dX6_init_247 rfl rfl ?_
      exact k248 _ (nS_v (Int32.not_lt.mpr c231) (Int32.not_lt.mpr c240)).symm
    · refine r_iconst (pc := 243) (v := (nI 4)) C dX6_init_243 (by decide) ?_
      refine r_goto (pc := 244) (tgt := 248) C dX6_init_244 (by decide) ?_
      exact k248 _ (by unfold nS; rw [if_neg (Int32.not_lt.mpr c231), if_pos (Int32.not_le.mp c240)])
  · refine r_iconst (pc := 234) (v := (nI 2)) C dX6_init_234 (by decide) ?_
    refine r_goto (pc := 235) (tgt := 248) C dX6_init_235 (by decide) ?_
    exact k248 _ (by unfold nS; rw [if_pos (Int32.not_le.mp c231)])
theorem c_X6_init {G : GP} {m : Nat} {h : AH} (hm : hS h m = (0, 6)) (hn : hN h = m + 1) (hz : hI h m = z0) (x : Int32) : MA G mX6_init 1 23 15012 [.ref m, .int x] h (Ov (fun h' => RM m (spNew x) h' ∧ hN h' = m + 24 ∧ ∀ a, a < m → hS h' a = hS h a ∧ hI h' a = hI h a ∧ hR h' a = hR h a ∧ hL h' a = hL h a)) := by
  refine MA.intro (lv := [some (.ref m), some (.int x), none]) (by decide) (Nat.le_of_ble_eq_true rfl) rfl (fun F C => ?_)
  have P : RP 6 h m [] z0 h := ⟨hm, hn, fun i k kd n g hi => by simp at hi, hz, fun a ha => ⟨rfl, rfl, rfl, rfl⟩⟩
  refine r_aload_n (pc := 0) C dX6_init_0 rfl rfl ?_
  refine r_objInit (pc := 1) C ml_X6_1 oi_1 oi_2 (Nat.le_of_ble_eq_true rfl) (Nat.le_of_ble_eq_true rfl) dX6_init_1 ?_
  refine r_aload_n (pc := 4) C dX6_init_4 rfl rfl ?_
  refine r_iconst (pc := 5) (v := (nI 4)) C dX6_init_5 (by decide) ?_
  refine r_newai (pc := 6) C ac_int rfl (by decide) (by decide) (by decide) dX6_init_6 ?_
  refine r_dup (pc := 8) C dX6_init_8 rfl ?_
  refine r_iconst (pc := 9) (v := (nI 0)) C dX6_init_9 (by decide) ?_
  refine r_iconst (pc := 10) (v := (nI 1)) C dX6_init_10 (by decide) ?_
  refine n_iast (pc := 11) C (show hS (hnew h (1, 4)) (hN h) = (1, 4) from if_pos rfl) (by omega) dX6_init_11 ?_
  refine r_dup (pc := 12) C dX6_init_12 rfl ?_
  refine r_iconst (pc := 13) (v := (nI 1)) C dX6_init_13 (by decide) ?_
  refine r_iconst (pc := 14) (v := (nI 1)) C dX6_init_14 (by decide) ?_
  refine n_iast (pc := 15) C (show hS (hnew h (1, 4)) (hN h) = (1, 4) from if_pos rfl) (by omega) dX6_init_15 ?_
  refine r_dup (pc := 16) C dX6_init_16 rfl ?_
  refine r_iconst (pc := 17) (v := (nI 2)) C dX6_init_17 (by decide) ?_
  refine r_iconst (pc := 18) (v := (nI 1)) C dX6_init_18 (by decide) ?_
  refine n_iast (pc := 19) C (show hS (hnew h (1, 4)) (hN h) = (1, 4) from if_pos rfl) (by omega) dX6_init_19 ?_
  refine r_dup (pc := 20) C dX6_init_20 rfl ?_
  refine r_iconst (pc := 21) (v := (nI 3)) C dX6_init_21 (by decide) ?_
  refine r_iconst (pc := 22) (v := (nI 1)) C dX6_init_22 (by decide) ?_
  refine n_iast (pc := 23) C (show hS (hnew h (1, 4)) (hN h) = (1, 4) from if_pos rfl) (by omega) dX6_init_23 ?_
  refine r_putFR (pc := 24) C fl_X6_7 (show hS (hnew h (1, 4)) m = (0, 6) from (if_neg (by omega)).trans hm) rfl rfl rfl rfl rfl rfl fw_X6_7 dX6_init_24 ?_
  refine (P.add (h1 := pI (pI (pI (pI (hnew h (1, 4)) (hN h) 0 (nI 1)) (hN h) 1 (nI 1)) (hN h) 2 (nI 1)) (hN h) 3 (nI 1)) (k := 1) (kd := 1) (n := 4) (g := w1_) (by decide) rfl (fun a ha => ?_) ?_ rfl rfl rfl).to (fun h1 P => ?_)
  · rw [hI_ne ha, hI_ne ha, hI_ne ha, hI_ne ha, hI_newf, if_neg ha]
  · rw [hI_eq, hI_eq, hI_eq, hI_eq, hI_newf, if_pos rfl]
  refine r_aload_n (pc := 27) C dX6_init_27 rfl rfl ?_
  refine r_iconst (pc := 28) (v := (nI 5)) C dX6_init_28 (by decide) ?_
  refine r_putI (pc := 29) C fl_X6_13 P.1 rfl rfl rfl rfl dX6_init_29 ?_
  refine P.put.to (fun h2 P => ?_)
  refine r_aload_n (pc := 32) C dX6_init_32 rfl rfl ?_
  refine r_sipush (pc := 33) (v := (nI 200)) C dX6_init_33 (by decide) ?_
  refine r_putI (pc := 36) C fl_X6_17 P.1 rfl rfl rfl rfl dX6_init_36 ?_
  refine P.put.to (fun h3 P => ?_)
  refine r_aload_n (pc := 39) C dX6_init_39 rfl rfl ?_
  refine r_sipush (pc := 40) (v := (nI 200)) C dX6_init_40 (by decide) ?_
  refine r_newai (pc := 43) C ac_int rfl (by decide) (by decide) (by decide) dX6_init_43 ?_
  refine r_putFR (pc := 45) C fl_X6_20 (by rw [hS_new, if_neg (by have := P.2.1; omega)]; exact P.1) rfl rfl rfl rfl rfl rfl fw_X6_20 dX6_init_45 ?_
  refine (P.add0 (by decide)).to (fun h4 P => ?_)
  refine r_aload_n (pc := 48) C dX6_init_48 rfl rfl ?_
  refine r_sipush (pc := 49) (v := (nI 200)) C dX6_init_49 (by decide) ?_
  refine r_newal (pc := 52) C ac_long rfl (by decide) (by decide) (by decide) dX6_init_52 ?_
  refine r_putFR (pc := 54) C fl_X6_23 (by rw [hS_new, if_neg (by have := P.2.1; omega)]; exact P.1) rfl rfl rfl rfl rfl rfl fw_X6_23 dX6_init_54 ?_
  refine (P.add0 (by decide)).to (fun h4 P => ?_)
  refine r_aload_n (pc := 57) C dX6_init_57 rfl rfl ?_
  refine r_bipush (pc := 58) (v := (nI 64)) C dX6_init_58 (by decide) ?_
  refine r_newai (pc := 60) C ac_int rfl (by decide) (by decide) (by decide) dX6_init_60 ?_
  refine r_putFR (pc := 62) C fl_X6_27 (by rw [hS_new, if_neg (by have := P.2.1; omega)]; exact P.1) rfl rfl rfl rfl rfl rfl fw_X6_27 dX6_init_62 ?_
  refine (P.add0 (by decide)).to (fun h4 P => ?_)
  refine r_aload_n (pc := 65) C dX6_init_65 rfl rfl ?_
  refine r_bipush (pc := 66) (v := (nI 64)) C dX6_init_66 (by decide) ?_
  refine r_newal (pc := 68) C ac_long rfl (by decide) (by decide) (by decide) dX6_init_68 ?_
  refine r_putFR (pc := 70) C fl_X6_30 (by rw [hS_new, if_neg (by have := P.2.1; omega)]; exact P.1) rfl rfl rfl rfl rfl rfl fw_X6_30 dX6_init_70 ?_
  refine (P.add0 (by decide)).to (fun h4 P => ?_)
  refine r_aload_n (pc := 73) C dX6_init_73 rfl rfl ?_
  refine r_sipush (pc := 74) (v := (nI 9600)) C dX6_init_74 (by decide) ?_
  refine r_newai (pc := 77) C ac_int rfl (by decide) (by decide) (by decide) dX6_init_77 ?_
  refine r_putFR (pc := 79) C fl_X6_33 (by rw [hS_new, if_neg (by have := P.2.1; omega)]; exact P.1) rfl rfl rfl rfl rfl rfl fw_X6_33 dX6_init_79 ?_
  refine (P.add0 (by decide)).to (fun h4 P => ?_)
  refine r_aload_n (pc := 82) C dX6_init_82 rfl rfl ?_
  refine r_bipush (pc := 83) (v := (nI 48)) C dX6_init_83 (by decide) ?_
  refine r_newai (pc := 85) C ac_int rfl (by decide) (by decide) (by decide) dX6_init_85 ?_
  refine r_putFR (pc := 87) C fl_X6_36 (by rw [hS_new, if_neg (by have := P.2.1; omega)]; exact P.1) rfl rfl rfl rfl rfl rfl fw_X6_36 dX6_init_87 ?_
  refine (P.add0 (by decide)).to (fun h4 P => ?_)
  refine r_aload_n (pc := 90) C dX6_init_90 rfl rfl ?_
  refine r_bipush (pc := 91) (v := (nI 48)) C dX6_init_91 (by decide) ?_
  refine r_newai (pc := 93) C ac_int rfl (by decide) (by decide) (by decide) dX6_init_93 ?_
  refine r_putFR (pc := 95) C fl_X6_39 (by rw [hS_new, if_neg (by have := P.2.1; omega)]; exact P.1) rfl rfl rfl rfl rfl rfl fw_X6_39 dX6_init_95 ?_
  refine (P.add0 (by decide)).to (fun h4 P => ?_)
  refine r_aload_n (pc := 98) C dX6_init_98 rfl rfl ?_
  refine r_bipush (pc := 99) (v := (nI 48)) C dX6_init_99 (by decide) ?_
  refine r_newaz (pc := 101) C ac_boolean rfl (by decide) (by decide) (by decide) dX6_init_101 ?_
  refine r_putFR (pc := 103) C fl_X6_42 (by rw [hS_new, if_neg (by have := P.2.1; omega)]; exact P.1) rfl rfl rfl rfl rfl rfl fw_X6_42 dX6_init_103 ?_
  refine (P.add0 (by decide)).to (fun h4 P => ?_)
  refine r_aload_n (pc := 106) C dX6_init_106 rfl rfl ?_
  refine r_bipush (pc := 107) (v := (nI 16)) C dX6_init_107 (by decide) ?_
  refine r_newaz (pc := 109) C ac_boolean rfl (by decide) (by decide) (by decide) dX6_init_109 ?_
  refine r_putFR (pc := 111) C fl_X6_46 (by rw [hS_new, if_neg (by have := P.2.1; omega)]; exact P.1) rfl rfl rfl rfl rfl rfl fw_X6_46 dX6_init_111 ?_
  refine (P.add0 (by decide)).to (fun h4 P => ?_)
  refine r_aload_n (pc := 114) C dX6_init_114 rfl rfl ?_
  refine r_bipush (pc := 115) (v := (nI 16)) C dX6_init_115 (by decide) ?_
  refine r_newaz (pc := 117) C ac_boolean rfl (by decide) (by decide) (by decide) dX6_init_117 ?_
  refine r_putFR (pc := 119) C fl_X6_49 (by rw [hS_new, if_neg (by have := P.2.1; omega)]; exact P.1) rfl rfl rfl rfl rfl rfl fw_X6_49 dX6_init_119 ?_
  refine (P.add0 (by decide)).to (fun h4 P => ?_)
  refine r_aload_n (pc := 122) C dX6_init_122 rfl rfl ?_
  refine r_bipush (pc := 123) (v := (nI 16)) C dX6_init_123 (by decide) ?_
  refine r_newai (pc := 125) C ac_int rfl (by decide) (by decide) (by decide) dX6_init_125 ?_
  refine r_putFR (pc := 127) C fl_X6_52 (by rw [hS_new, if_neg (by have := P.2.1; omega)]; exact P.1) rfl rfl rfl rfl rfl rfl fw_X6_52 dX6_init_127 ?_
  refine (P.add0 (by decide)).to (fun h4 P => ?_)
  refine r_aload_n (pc := 130) C dX6_init_130 rfl rfl ?_
  refine r_bipush (pc := 131) (v := (nI 16)) C dX6_init_131 (by decide) ?_
  refine r_newai (pc := 133) C ac_int rfl (by decide) (by decide) (by decide) dX6_init_133 ?_
  refine r_putFR (pc := 135) C fl_X6_55 (by rw [hS_new, if_neg (by have := P.2.1; omega)]; exact P.1) rfl rfl rfl rfl rfl rfl fw_X6_55 dX6_init_135 ?_
  refine (P.add0 (by decide)).to (fun h4 P => ?_)
  refine r_aload_n (pc := 138) C dX6_init_138 rfl rfl ?_
  refine r_iconst (pc := 139) (v := (-1)) C dX6_init_139 (by decide) ?_
  refine r_putI (pc := 140) C fl_X6_58 P.1 rfl rfl rfl rfl dX6_init_140 ?_
  refine P.put.to (fun h5 P => ?_)
  refine r_aload_n (pc := 143) C dX6_init_143 rfl rfl ?_
  refine r_bipush (pc := 144) (v := (nI 8)) C dX6_init_144 (by decide) ?_
  refine r_newai (pc := 146) C ac_int rfl (by decide) (by decide) (by decide) dX6_init_146 ?_
  refine r_putFR (pc := 148) C fl_X6_61 (by rw [hS_new, if_neg (by have := P.2.1; omega)]; exact P.1) rfl rfl rfl rfl rfl rfl fw_X6_61 dX6_init_148 ?_
  refine (P.add0 (by decide)).to (fun h4 P => ?_)
  refine r_aload_n (pc := 151) C dX6_init_151 rfl rfl ?_
  refine r_bipush (pc := 152) (v := (nI 8)) C dX6_init_152 (by decide) ?_
  refine r_newai (pc := 154) C ac_int rfl (by decide) (by decide) (by decide) dX6_init_154 ?_
  refine r_putFR (pc := 156) C fl_X6_64 (by rw [hS_new, if_neg (by have := P.2.1; omega)]; exact P.1) rfl rfl rfl rfl rfl rfl fw_X6_64 dX6_init_156 ?_
  refine (P.add0 (by decide)).to (fun h4 P => ?_)
  refine r_aload_n (pc := 159) C dX6_init_159 rfl rfl ?_
  refine r_bipush (pc := 160) (v := (nI 8)) C dX6_init_160 (by decide) ?_
  refine r_newai (pc := 162) C ac_int rfl (by decide) (by decide) (by decide) dX6_init_162 ?_
  refine r_putFR (pc := 164) C fl_X6_67 (by rw [hS_new, if_neg (by have := P.2.1; omega)]; exact P.1) rfl rfl rfl rfl rfl rfl fw_X6_67 dX6_init_164 ?_
  refine (P.add0 (by decide)).to (fun h4 P => ?_)
  refine r_aload_n (pc := 167) C dX6_init_167 rfl rfl ?_
  refine r_bipush (pc := 168) (v := (nI 32)) C dX6_init_168 (by decide) ?_
  refine r_newai (pc := 170) C ac_int rfl (by decide) (by decide) (by decide) dX6_init_170 ?_
  refine r_putFR (pc := 172) C fl_X6_70 (by rw [hS_new, if_neg (by have := P.2.1; omega)]; exact P.1) rfl rfl rfl rfl rfl rfl fw_X6_70 dX6_init_172 ?_
  refine (P.add0 (by decide)).to (fun h4 P => ?_)
  refine r_aload_n (pc := 175) C dX6_init_175 rfl rfl ?_
  refine r_sipush (pc := 176) (v := (nI 512)) C dX6_init_176 (by decide) ?_
  refine r_newai (pc := 179) C ac_int rfl (by decide) (by decide) (by decide) dX6_init_179 ?_
  refine r_putFR (pc := 181) C fl_X6_73 (by rw [hS_new, if_neg (by have := P.2.1; omega)]; exact P.1) rfl rfl rfl rfl rfl rfl fw_X6_73 dX6_init_181 ?_
  refine (P.add0 (by decide)).to (fun h4 P => ?_)
  refine r_aload_n (pc := 184) C dX6_init_184 rfl rfl ?_
  refine r_sipush (pc := 185) (v := (nI 512)) C dX6_init_185 (by decide) ?_
  refine r_newal (pc := 188) C ac_long rfl (by decide) (by decide) (by decide) dX6_init_188 ?_
  refine r_putFR (pc := 190) C fl_X6_76 (by rw [hS_new, if_neg (by have := P.2.1; omega)]; exact P.1) rfl rfl rfl rfl rfl rfl fw_X6_76 dX6_init_190 ?_
  refine (P.add0 (by decide)).to (fun h4 P => ?_)
  refine r_aload_n (pc := 193) C dX6_init_193 rfl rfl ?_
  refine r_bipush (pc := 194) (v := (nI 8)) C dX6_init_194 (by decide) ?_
  refine r_newai (pc := 196) C ac_int rfl (by decide) (by decide) (by decide) dX6_init_196 ?_
  refine r_putFR (pc := 198) C fl_X6_79 (by rw [hS_new, if_neg (by have := P.2.1; omega)]; exact P.1) rfl rfl rfl rfl rfl rfl fw_X6_79 dX6_init_198 ?_
  refine (P.add0 (by decide)).to (fun h4 P => ?_)
  refine r_aload_n (pc := 201) C dX6_init_201 rfl rfl ?_
  refine r_sipush (pc := 202) (v := (nI 1600)) C dX6_init_202 (by decide) ?_
  refine r_newai (pc := 205) C ac_int rfl (by decide) (by decide) (by decide) dX6_init_205 ?_
  refine r_putFR (pc := 207) C fl_X6_82 (by rw [hS_new, if_neg (by have := P.2.1; omega)]; exact P.1) rfl rfl rfl rfl rfl rfl fw_X6_82 dX6_init_207 ?_
  refine (P.add0 (by decide)).to (fun h4 P => ?_)
  refine r_aload_n (pc := 210) C dX6_init_210 rfl rfl ?_
  refine r_sipush (pc := 211) (v := (nI 1600)) C dX6_init_211 (by decide) ?_
  refine r_newai (pc := 214) C ac_int rfl (by decide) (by decide) (by decide) dX6_init_214 ?_
  refine r_putFR (pc := 216) C fl_X6_85 (by rw [hS_new, if_neg (by have := P.2.1; omega)]; exact P.1) rfl rfl rfl rfl rfl rfl fw_X6_85 dX6_init_216 ?_
  refine (P.add0 (by decide)).to (fun h4 P => ?_)
  refine r_aload_n (pc := 219) C dX6_init_219 rfl rfl ?_
  refine r_sipush (pc := 220) (v := (nI 384)) C dX6_init_220 (by decide) ?_
  refine r_newaz (pc := 223) C ac_boolean rfl (by decide) (by decide) (by decide) dX6_init_223 ?_
  refine r_putFR (pc := 225) C fl_X6_88 (by rw [hS_new, if_neg (by have := P.2.1; omega)]; exact P.1) rfl rfl rfl rfl rfl rfl fw_X6_88 dX6_init_225 ?_
  refine (P.add0 (by decide)).to (fun h4 P => ?_)
  exact ini6_e C P
