/-! ===== locals ===== -/
theorem LV.at {ls : Array Slot} {nL : Nat} {lv : List (Option Value)} (h : LV ls nL lv) {i : Nat} {v : Value} (hi : lv[i]? = some (some v)) : ls[i]? = some (.val v) := h.2.2 i v hi
def lvp (lv : List (Option Value)) : List (Nat × Value) := lv.zipIdx.filterMap (fun q => q.1.map (fun v => (q.2, v)))
theorem lvp_mem {lv : List (Option Value)} {i : Nat} {v : Value} : (i, v) ∈ lvp lv ↔ lv[i]? = some (some v) := by
  unfold lvp
  rw [List.mem_filterMap]
  constructor
  · rintro ⟨⟨o, j⟩, hm, he⟩
    rw [List.mem_zipIdx_iff_getElem?] at hm
    cases o with
    | none => simp at he
    | some w =>
      simp at he
      obtain ⟨rfl, rfl⟩ := he
      exact hm
  · intro h
    exact ⟨(some v, i), by rw [List.mem_zipIdx_iff_getElem?]; exact h, rfl⟩
theorem LV.has {ls : Array Slot} {nL : Nat} {lv : List (Option Value)} (h : LV ls nL lv) : lv_has ls nL (lvp lv) := ⟨h.1, h.2.1, fun q hq => h.2.2 q.1 q.2 (lvp_mem.mp hq)⟩
/-- nothing wide stands before place i -/
def lvok (lv : List (Option Value)) (i : Nat) : Bool := match i with
  | 0 => true
  | j + 1 => match lv[j]? with
    | some (some w) => w.category == 1
    | _ => true
theorem LV.st1 {ls : Array Slot} {nL : Nat} {lv lv' : List (Option Value)} (h : LV ls nL lv) {i : Nat} {v : Value} (hi : i < nL) (hc : v.category = 1) (hok : lvok lv i = true) (he : lv.set i (some v) = lv') : ∃ ls', storeLocals ls i v = some ls' ∧ LV ls' nL lv' := by
  obtain ⟨ls', h1, h2, h3, h4⟩ := lv_store1 (v := v) h.has hi hc
  refine ⟨ls', h1, h2, h3, fun j w hj => ?_⟩
  rw [← he] at hj
  by_cases hij : i = j
  · subst hij
    rw [List.getElem?_set] at hj
    simp at hj
    have := hj.2
    subst this
    exact h4 (i, v) List.mem_cons_self
  · rw [List.getElem?_set_ne hij] at hj
    refine h4 (j, w) (List.mem_cons_of_mem _ (List.mem_filter.mpr ⟨lvp_mem.mpr hj, ?_⟩))
    have e1 : (j == i) = false := by simpa using Ne.symm hij
    have e2 : (j + 1 == i && w.category == 2) = false := by
      by_cases q : j + 1 = i
      · subst q
        simp only [lvok, hj] at hok
        have hw : w.category = 1 := by simpa using hok
        simp [hw]
      · simp [q]
    show (!(j == i) && !(j + 1 == i && w.category == 2)) = true
    rw [e1, e2]; rfl
theorem LV.st2 {ls : Array Slot} {nL : Nat} {lv lv' : List (Option Value)} (h : LV ls nL lv) {i : Nat} {v : Value} (hi : i + 1 < nL) (hc : v.category = 2) (hok : lvok lv i = true) (he : (lv.set i (some v)).set (i + 1) none = lv') : ∃ ls', storeLocals ls i v = some ls' ∧ LV ls' nL lv' := by
  obtain ⟨ls', h1, h2, h3, h4⟩ := lv_store2 (v := v) h.has hi hc
  refine ⟨ls', h1, h2, h3, fun j w hj => ?_⟩
  rw [← he] at hj
  by_cases hj1 : i + 1 = j
  · subst hj1
    rw [List.getElem?_set] at hj
    simp at hj
  rw [List.getElem?_set_ne hj1] at hj
  by_cases hij : i = j
  · subst hij
    rw [List.getElem?_set] at hj
    simp at hj
    have := hj.2
    subst this
    exact h4 (i, v) List.mem_cons_self
  · rw [List.getElem?_set_ne hij] at hj
    refine h4 (j, w) (List.mem_cons_of_mem _ (List.mem_filter.mpr ⟨lvp_mem.mpr hj, ?_⟩))
    have e1 : (j == i) = false := by simpa using Ne.symm hij
    have e3 : (j == i + 1) = false := by simpa using Ne.symm hj1
    have e2 : (j + 1 == i && w.category == 2) = false := by
      by_cases q : j + 1 = i
      · subst q
        simp only [lvok, hj] at hok
        have hw : w.category = 1 := by simpa using hok
        simp [hw]
      · simp [q]
    show (!(j == i) && (!(j == i + 1) && !(j + 1 == i && w.category == 2))) = true
    rw [e1, e2, e3]; rfl
def lvE : List Value → Nat → List (Option Value)
  | [], n => List.replicate n none
  | v :: vs, n => if v.category = 2 then some v :: none :: lvE vs (n - 2) else some v :: lvE vs (n - 1)
theorem lvE_mem : ∀ (vs : List Value) (n b i : Nat) (v : Value), (lvE vs n)[i]? = some (some v) → (b + i, v) ∈ lv_args b vs
  | [], n, b, i, v, h => by
    simp only [lvE, List.getElem?_replicate] at h
    split at h <;> simp at h
  | w :: ws, n, b, i, v, h => by
    unfold lvE at h
    unfold lv_args
    by_cases hc : w.category = 2
    · rw [if_pos hc] at h
      rw [if_pos hc]
      match i, h with
      | 0, h => simp at h; subst h; exact List.mem_cons_self
      | 1, h => simp at h
      | i + 2, h =>
        simp at h
        have := lvE_mem ws (n - 2) (b + 2) i v h
        rw [show b + 2 + i = b + (i + 2) by omega] at this
        exact List.mem_cons_of_mem _ this
    · rw [if_neg hc] at h
      rw [if_neg hc]
      match i, h with
      | 0, h => simp at h; subst h; exact List.mem_cons_self
      | i + 1, h =>
        simp at h
        have := lvE_mem ws (n - 1) (b + 1) i v h
        rw [show b + 1 + i = b + (i + 1) by omega] at this
        exact List.mem_cons_of_mem _ this
theorem LV.entry (vs : List Value) {n : Nat} (h : (lg_sl vs).length ≤ n) : LV ((lg_sl vs ++ List.replicate (n - (lg_sl vs).length) Slot.unset).toArray) n (lvE vs n) := by
  obtain ⟨h1, h2, h3⟩ := lv_entry vs h
  refine ⟨h1, h2, fun i v hi => ?_⟩
  have := lvE_mem vs n 0 i v hi
  rw [Nat.zero_add] at this
  exact h3 (i, v) this
/-- fewer locals are known -/
theorem LV.less {ls : Array Slot} {nL : Nat} {lv lv' : List (Option Value)} (h : LV ls nL lv) (hs : ∀ (i : Nat) (v : Value), lv'[i]? = some (some v) → lv[i]? = some (some v)) : LV ls nL lv' := ⟨h.1, h.2.1, fun i v hi => h.2.2 i v (hs i v hi)⟩
/-- lv' says no more than lv -/
def lvle : List (Option Value) → List (Option Value) → Prop
  | [], _ => True
  | none :: l', _ :: l => lvle l' l
  | some v :: l', o :: l => o = some v ∧ lvle l' l
  | none :: l', [] => lvle l' []
  | some _ :: _, [] => False
theorem lvle_spec : ∀ (l' l : List (Option Value)), lvle l' l → ∀ (i : Nat) (v : Value), l'[i]? = some (some v) → l[i]? = some (some v)
  | [], _, _, i, v, h => by simp at h
  | none :: l', o :: l, hle, i, v, h => by
    cases i with
    | zero => simp at h
    | succ i => simp at h ⊢; exact lvle_spec l' l hle i v h
  | some w :: l', o :: l, hle, i, v, h => by
    cases i with
    | zero => simp at h ⊢; rw [hle.1, h]
    | succ i => simp at h ⊢; exact lvle_spec l' l hle.2 i v h
  | none :: l', [], hle, i, v, h => by
    cases i with
    | zero => simp at h
    | succ i => simp at h; have := lvle_spec l' [] hle i v h; simp at this
  | some w :: l', [], hle, i, v, h => by cases hle
/-! ===== rows: constants, locals, arithmetic, branches ===== -/
section RW
variable {G : GP} {F : FX} {M : MD} {R : Room} {h : AH} {cells slots : Nat} {Q : State → Prop} {pc : Nat} {lv lv' : List (Option Value)} {rest : List Value}
theorem WA.less (hs : lvle lv' lv) {st : List Value} (k : WA G F M h cells slots Q pc lv' st) : WA G F M h cells slots Q pc lv st := fun H locs ls hp hl hv => k H locs ls hp hl (hv.less (lvle_spec _ _ hs))
theorem WA.widen {st : List Value} {c' s' : Nat} (h1 : cells ≤ c') (h2 : slots ≤ s') (k : WA G F M h c' s' Q pc lv st) : WA G F M h cells slots Q pc lv st := fun H locs ls hp hl hv => W.widen h1 h2 (k H locs ls hp hl hv)
theorem r_iconst (C : CX G F M R) {n : Int} {v : Int32} (hd : decode M.2.1 pc = .ok (.iconst n, 1)) (hv : Int32.ofInt n = v) (k : WA G F M h cells slots Q (pc + 1) lv (.int v :: rest)) : WA G F M h cells slots Q pc lv rest := fun H locs ls hp hl hlv => lv_iconst C.1 C.2.1 hd hv (k H locs ls hp hl hlv)
theorem r_bipush (C : CX G F M R) {n : Int} {v : Int32} (hd : decode M.2.1 pc = .ok (.bipush n, 2)) (hv : (Int8.ofInt n).toInt32 = v) (k : WA G F M h cells slots Q (pc + 2) lv (.int v :: rest)) : WA G F M h cells slots Q pc lv rest := fun H locs ls hp hl hlv => lv_bipush C.1 C.2.1 hd hv (k H locs ls hp hl hlv)
theorem r_sipush (C : CX G F M R) {n : Int} {v : Int32} (hd : decode M.2.1 pc = .ok (.sipush n, 3)) (hv : (Int16.ofInt n).toInt32 = v) (k : WA G F M h cells slots Q (pc + 3) lv (.int v :: rest)) : WA G F M h cells slots Q pc lv rest := fun H locs ls hp hl hlv => lv_sipush C.1 C.2.1 hd hv (k H locs ls hp hl hlv)
theorem r_lconst (C : CX G F M R) {n : Fin 2} {v : Int64} (hd : decode M.2.1 pc = .ok (.lconst n, 1)) (hv : Int64.ofNat (n : Nat) = v) (k : WA G F M h cells slots Q (pc + 1) lv (.long v :: rest)) : WA G F M h cells slots Q pc lv rest := fun H locs ls hp hl hlv => lv_lconst C.1 C.2.1 hd hv (k H locs ls hp hl hlv)
theorem r_iload_n (C : CX G F M R) {n : Fin 4} {i : Nat} {x : Int32} (hd : decode M.2.1 pc = .ok (.iload_n n, 1)) (hi : (n : Nat) = i) (hx : lv[i]? = some (some (.int x))) (k : WA G F M h cells slots Q (pc + 1) lv (.int x :: rest)) : WA G F M h cells slots Q pc lv rest := fun H locs ls hp hl hlv => lv_iload_n C.1 C.2.1 hd hi (hlv.at hx) (k H locs ls hp hl hlv)
theorem r_iload (C : CX G F M R) {i : Nat} {x : Int32} (hd : decode M.2.1 pc = .ok (.iload i, 2)) (hx : lv[i]? = some (some (.int x))) (k : WA G F M h cells slots Q (pc + 2) lv (.int x :: rest)) : WA G F M h cells slots Q pc lv rest := fun H locs ls hp hl hlv => lv_iload C.1 C.2.1 hd (hlv.at hx) (k H locs ls hp hl hlv)
theorem r_lload_n (C : CX G F M R) {n : Fin 4} {i : Nat} {x : Int64} (hd : decode M.2.1 pc = .ok (.lload_n n, 1)) (hi : (n : Nat) = i) (hx : lv[i]? = some (some (.long x))) (k : WA G F M h cells slots Q (pc + 1) lv (.long x :: rest)) : WA G F M h cells slots Q pc lv rest := fun H locs ls hp hl hlv => lv_lload_n C.1 C.2.1 hd hi (hlv.at hx) (k H locs ls hp hl hlv)
theorem r_lload (C : CX G F M R) {i : Nat} {x : Int64} (hd : decode M.2.1 pc = .ok (.lload i, 2)) (hx : lv[i]? = some (some (.long x))) (k : WA G F M h cells slots Q (pc + 2) lv (.long x :: rest)) : WA G F M h cells slots Q pc lv rest := fun H locs ls hp hl hlv => lv_lload C.1 C.2.1 hd (hlv.at hx) (k H locs ls hp hl hlv)
theorem r_aload_n (C : CX G F M R) {n : Fin 4} {i : Nat} {x : Nat} (hd : decode M.2.1 pc = .ok (.aload_n n, 1)) (hi : (n : Nat) = i) (hx : lv[i]? = some (some (.ref x))) (k : WA G F M h cells slots Q (pc + 1) lv (.ref x :: rest)) : WA G F M h cells slots Q pc lv rest := fun H locs ls hp hl hlv => lv_aload_n C.1 C.2.1 hd hi (hlv.at hx) (k H locs ls hp hl hlv)
theorem r_aload (C : CX G F M R) {i : Nat} {x : Nat} (hd : decode M.2.1 pc = .ok (.aload i, 2)) (hx : lv[i]? = some (some (.ref x))) (k : WA G F M h cells slots Q (pc + 2) lv (.ref x :: rest)) : WA G F M h cells slots Q pc lv rest := fun H locs ls hp hl hlv => lv_aload C.1 C.2.1 hd (hlv.at hx) (k H locs ls hp hl hlv)
theorem r_aload_nN (C : CX G F M R) {n : Fin 4} {i : Nat} (hd : decode M.2.1 pc = .ok (.aload_n n, 1)) (hi : (n : Nat) = i) (hx : lv[i]? = some (some .null)) (k : WA G F M h cells slots Q (pc + 1) lv (.null :: rest)) : WA G F M h cells slots Q pc lv rest := fun H locs ls hp hl hlv => lv_aload_nN C.1 C.2.1 hd hi (hlv.at hx) (k H locs ls hp hl hlv)
theorem r_aloadN (C : CX G F M R) {i : Nat} (hd : decode M.2.1 pc = .ok (.aload i, 2)) (hx : lv[i]? = some (some .null)) (k : WA G F M h cells slots Q (pc + 2) lv (.null :: rest)) : WA G F M h cells slots Q pc lv rest := fun H locs ls hp hl hlv => lv_aloadN C.1 C.2.1 hd (hlv.at hx) (k H locs ls hp hl hlv)
/-- an optional reference -/
theorem r_aload_nq (C : CX G F M R) {n : Fin 4} {i : Nat} {o : Option Nat} (hd : decode M.2.1 pc = .ok (.aload_n n, 1)) (hi : (n : Nat) = i) (hx : lv[i]? = some (some (va_rf o))) (k : WA G F M h cells slots Q (pc + 1) lv (va_rf o :: rest)) : WA G F M h cells slots Q pc lv rest := by
  cases o with
  | none => exact r_aload_nN C hd hi hx k
  | some x => exact r_aload_n C hd hi hx k
theorem r_aloadq (C : CX G F M R) {i : Nat} {o : Option Nat} (hd : decode M.2.1 pc = .ok (.aload i, 2)) (hx : lv[i]? = some (some (va_rf o))) (k : WA G F M h cells slots Q (pc + 2) lv (va_rf o :: rest)) : WA G F M h cells slots Q pc lv rest := by
  cases o with
  | none => exact r_aloadN C hd hx k
  | some x => exact r_aload C hd hx k
theorem r_istore_n (C : CX G F M R) {n : Fin 4} {i : Nat} {x : Int32} (hd : decode M.2.1 pc = .ok (.istore_n n, 1)) (hi : (n : Nat) = i) (hn : i < M.2.2.1) (hok : lvok lv i = true) (he : lv.set i (some (.int x)) = lv') (k : WA G F M h cells slots Q (pc + 1) lv' rest) : WA G F M h cells slots Q pc lv (.int x :: rest) := by
  subst hi
  intro H locs ls hp hl hlv T hT X
  obtain ⟨ls', e', h'⟩ := hlv.st1 (v := .int x) hn rfl hok he
  obtain ⟨t, a, b⟩ := k H locs ls' hp hl h' T hT X
  have hexec := C.1
  have hb := C.2.1
  refine ⟨t, ?_, b⟩
  jvm_step X.here [X.here.top, ↓top_set X.here.top, hexec, hb, hd, e']
  exact a
theorem r_istore (C : CX G F M R) {i : Nat} {x : Int32} (hd : decode M.2.1 pc = .ok (.istore i, 2)) (hn : i < M.2.2.1) (hok : lvok lv i = true) (he : lv.set i (some (.int x)) = lv') (k : WA G F M h cells slots Q (pc + 2) lv' rest) : WA G F M h cells slots Q pc lv (.int x :: rest) := by
  intro H locs ls hp hl hlv T hT X
  obtain ⟨ls', e', h'⟩ := hlv.st1 (v := .int x) hn rfl hok he
  obtain ⟨t, a, b⟩ := k H locs ls' hp hl h' T hT X
  have hexec := C.1
  have hb := C.2.1
  refine ⟨t, ?_, b⟩
  jvm_step X.here [X.here.top, ↓top_set X.here.top, hexec, hb, hd, e']
  exact a
theorem r_lstore (C : CX G F M R) {i : Nat} {x : Int64} (hd : decode M.2.1 pc = .ok (.lstore i, 2)) (hn : i + 1 < M.2.2.1) (hok : lvok lv i = true) (he : (lv.set i (some (.long x))).set (i + 1) none = lv') (k : WA G F M h cells slots Q (pc + 2) lv' rest) : WA G F M h cells slots Q pc lv (.long x :: rest) := by
  intro H locs ls hp hl hlv T hT X
  obtain ⟨ls', e', h'⟩ := hlv.st2 (v := .long x) hn rfl hok he
  obtain ⟨t, a, b⟩ := k H locs ls' hp hl h' T hT X
  have hexec := C.1
  have hb := C.2.1
  refine ⟨t, ?_, b⟩
  jvm_step X.here [X.here.top, ↓top_set X.here.top, hexec, hb, hd, e']
  exact a
theorem r_astore_n (C : CX G F M R) {n : Fin 4} {i : Nat} {x : Nat} (hd : decode M.2.1 pc = .ok (.astore_n n, 1)) (hi : (n : Nat) = i) (hn : i < M.2.2.1) (hok : lvok lv i = true) (he : lv.set i (some (.ref x)) = lv') (k : WA G F M h cells slots Q (pc + 1) lv' rest) : WA G F M h cells slots Q pc lv (.ref x :: rest) := by
  subst hi
  intro H locs ls hp hl hlv T hT X
  obtain ⟨ls', e', h'⟩ := hlv.st1 (v := .ref x) hn rfl hok he
  obtain ⟨t, a, b⟩ := k H locs ls' hp hl h' T hT X
  have hexec := C.1
  have hb := C.2.1
  refine ⟨t, ?_, b⟩
  jvm_step X.here [X.here.top, ↓top_set X.here.top, hexec, hb, hd, e', Value.isRef]
  exact a
theorem r_astore_nN (C : CX G F M R) {n : Fin 4} {i : Nat} (hd : decode M.2.1 pc = .ok (.astore_n n, 1)) (hi : (n : Nat) = i) (hn : i < M.2.2.1) (hok : lvok lv i = true) (he : lv.set i (some .null) = lv') (k : WA G F M h cells slots Q (pc + 1) lv' rest) : WA G F M h cells slots Q pc lv (.null :: rest) := by
  subst hi
  intro H locs ls hp hl hlv T hT X
  obtain ⟨ls', e', h'⟩ := hlv.st1 (v := .null) hn rfl hok he
  obtain ⟨t, a, b⟩ := k H locs ls' hp hl h' T hT X
  have hexec := C.1
  have hb := C.2.1
  refine ⟨t, ?_, b⟩
  jvm_step X.here [X.here.top, ↓top_set X.here.top, hexec, hb, hd, e', Value.isRef]
  exact a
theorem r_astore (C : CX G F M R) {i : Nat} {x : Nat} (hd : decode M.2.1 pc = .ok (.astore i, 2)) (hn : i < M.2.2.1) (hok : lvok lv i = true) (he : lv.set i (some (.ref x)) = lv') (k : WA G F M h cells slots Q (pc + 2) lv' rest) : WA G F M h cells slots Q pc lv (.ref x :: rest) := by
  intro H locs ls hp hl hlv T hT X
  obtain ⟨ls', e', h'⟩ := hlv.st1 (v := .ref x) hn rfl hok he
  obtain ⟨t, a, b⟩ := k H locs ls' hp hl h' T hT X
  have hexec := C.1
  have hb := C.2.1
  refine ⟨t, ?_, b⟩
  jvm_step X.here [X.here.top, ↓top_set X.here.top, hexec, hb, hd, e', Value.isRef]
  exact a
theorem r_astoreN (C : CX G F M R) {i : Nat} (hd : decode M.2.1 pc = .ok (.astore i, 2)) (hn : i < M.2.2.1) (hok : lvok lv i = true) (he : lv.set i (some .null) = lv') (k : WA G F M h cells slots Q (pc + 2) lv' rest) : WA G F M h cells slots Q pc lv (.null :: rest) := by
  intro H locs ls hp hl hlv T hT X
  obtain ⟨ls', e', h'⟩ := hlv.st1 (v := .null) hn rfl hok he
  obtain ⟨t, a, b⟩ := k H locs ls' hp hl h' T hT X
  have hexec := C.1
  have hb := C.2.1
  refine ⟨t, ?_, b⟩
  jvm_step X.here [X.here.top, ↓top_set X.here.top, hexec, hb, hd, e', Value.isRef]
  exact a
theorem r_astore_nq (C : CX G F M R) {n : Fin 4} {i : Nat} {o : Option Nat} (hd : decode M.2.1 pc = .ok (.astore_n n, 1)) (hi : (n : Nat) = i) (hn : i < M.2.2.1) (hok : lvok lv i = true) (he : lv.set i (some (va_rf o)) = lv') (k : WA G F M h cells slots Q (pc + 1) lv' rest) : WA G F M h cells slots Q pc lv (va_rf o :: rest) := by
  cases o with
  | none => exact r_astore_nN C hd hi hn hok he k
  | some x => exact r_astore_n C hd hi hn hok he k
theorem r_astoreq (C : CX G F M R) {i : Nat} {o : Option Nat} (hd : decode M.2.1 pc = .ok (.astore i, 2)) (hn : i < M.2.2.1) (hok : lvok lv i = true) (he : lv.set i (some (va_rf o)) = lv') (k : WA G F M h cells slots Q (pc + 2) lv' rest) : WA G F M h cells slots Q pc lv (va_rf o :: rest) := by
  cases o with
  | none => exact r_astoreN C hd hn hok he k
  | some x => exact r_astore C hd hn hok he k
theorem r_iinc (C : CX G F M R) {i : Nat} {n : Int} {x v : Int32} (hd : decode M.2.1 pc = .ok (.iinc i n, 3)) (hx : lv[i]? = some (some (.int x))) (hv : x + Int32.ofInt n = v) (hn : i < M.2.2.1) (hok : lvok lv i = true) (he : lv.set i (some (.int v)) = lv') (k : WA G F M h cells slots Q (pc + 3) lv' rest) : WA G F M h cells slots Q pc lv rest := by
  subst hv
  intro H locs ls hp hl hlv T hT X
  have hg := hlv.at hx
  obtain ⟨ls', e', h'⟩ := hlv.st1 (v := .int (x + Int32.ofInt n)) hn rfl hok he
  obtain ⟨t, a, b⟩ := k H locs ls' hp hl h' T hT X
  have hexec := C.1
  have hb := C.2.1
  refine ⟨t, ?_, b⟩
  jvm_step X.here [X.here.top, ↓top_set X.here.top, hexec, hb, hd, hg, e']
  exact a
theorem r_iadd (C : CX G F M R) {x y : Int32} (hd : decode M.2.1 pc = .ok (.iadd, 1)) (k : WA G F M h cells slots Q (pc + 1) lv (.int (x + y) :: rest)) : WA G F M h cells slots Q pc lv (.int y :: .int x :: rest) := fun H locs ls hp hl hlv => lv_iadd C.1 C.2.1 hd (k H locs ls hp hl hlv)
theorem r_isub (C : CX G F M R) {x y : Int32} (hd : decode M.2.1 pc = .ok (.isub, 1)) (k : WA G F M h cells slots Q (pc + 1) lv (.int (x - y) :: rest)) : WA G F M h cells slots Q pc lv (.int y :: .int x :: rest) := fun H locs ls hp hl hlv => lv_isub C.1 C.2.1 hd (k H locs ls hp hl hlv)
theorem r_imul (C : CX G F M R) {x y : Int32} (hd : decode M.2.1 pc = .ok (.imul, 1)) (k : WA G F M h cells slots Q (pc + 1) lv (.int (x * y) :: rest)) : WA G F M h cells slots Q pc lv (.int y :: .int x :: rest) := fun H locs ls hp hl hlv => lv_imul C.1 C.2.1 hd (k H locs ls hp hl hlv)
theorem r_iand (C : CX G F M R) {x y : Int32} (hd : decode M.2.1 pc = .ok (.iand, 1)) (k : WA G F M h cells slots Q (pc + 1) lv (.int (x &&& y) :: rest)) : WA G F M h cells slots Q pc lv (.int y :: .int x :: rest) := fun H locs ls hp hl hlv => lv_iand C.1 C.2.1 hd (k H locs ls hp hl hlv)
theorem r_idiv (C : CX G F M R) {x y v : Int32} (hd : decode M.2.1 pc = .ok (.idiv, 1)) (hne : ¬ y = 0) (hv : x / y = v) (k : WA G F M h cells slots Q (pc + 1) lv (.int v :: rest)) : WA G F M h cells slots Q pc lv (.int y :: .int x :: rest) := by
  subst hv
  exact fun H locs ls hp hl hlv => lv_idiv C.1 C.2.1 hd hne (k H locs ls hp hl hlv)
theorem r_irem (C : CX G F M R) {x y v : Int32} (hd : decode M.2.1 pc = .ok (.irem, 1)) (hne : ¬ y = 0) (hv : x - x / y * y = v) (k : WA G F M h cells slots Q (pc + 1) lv (.int v :: rest)) : WA G F M h cells slots Q pc lv (.int y :: .int x :: rest) := by
  subst hv
  exact fun H locs ls hp hl hlv => lv_irem C.1 C.2.1 hd hne (k H locs ls hp hl hlv)
theorem r_ladd (C : CX G F M R) {x y : Int64} (hd : decode M.2.1 pc = .ok (.ladd, 1)) (k : WA G F M h cells slots Q (pc + 1) lv (.long (x + y) :: rest)) : WA G F M h cells slots Q pc lv (.long y :: .long x :: rest) := fun H locs ls hp hl hlv => lv_ladd C.1 C.2.1 hd (k H locs ls hp hl hlv)
theorem r_lsub (C : CX G F M R) {x y : Int64} (hd : decode M.2.1 pc = .ok (.lsub, 1)) (k : WA G F M h cells slots Q (pc + 1) lv (.long (x - y) :: rest)) : WA G F M h cells slots Q pc lv (.long y :: .long x :: rest) := fun H locs ls hp hl hlv => lv_lsub C.1 C.2.1 hd (k H locs ls hp hl hlv)
theorem r_land (C : CX G F M R) {x y : Int64} (hd : decode M.2.1 pc = .ok (.land, 1)) (k : WA G F M h cells slots Q (pc + 1) lv (.long (x &&& y) :: rest)) : WA G F M h cells slots Q pc lv (.long y :: .long x :: rest) := fun H locs ls hp hl hlv => lv_land C.1 C.2.1 hd (k H locs ls hp hl hlv)
theorem r_lor (C : CX G F M R) {x y : Int64} (hd : decode M.2.1 pc = .ok (.lor, 1)) (k : WA G F M h cells slots Q (pc + 1) lv (.long (x ||| y) :: rest)) : WA G F M h cells slots Q pc lv (.long y :: .long x :: rest) := fun H locs ls hp hl hlv => lv_lor C.1 C.2.1 hd (k H locs ls hp hl hlv)
theorem r_lshl (C : CX G F M R) {x : Int64} {y : Int32} (hd : decode M.2.1 pc = .ok (.lshl, 1)) (k : WA G F M h cells slots Q (pc + 1) lv (.long (x <<< (y.toInt64 &&& 63)) :: rest)) : WA G F M h cells slots Q pc lv (.int y :: .long x :: rest) := fun H locs ls hp hl hlv => lv_lshl C.1 C.2.1 hd rfl (k H locs ls hp hl hlv)
theorem r_i2l (C : CX G F M R) {x : Int32} (hd : decode M.2.1 pc = .ok (.i2l, 1)) (k : WA G F M h cells slots Q (pc + 1) lv (.long x.toInt64 :: rest)) : WA G F M h cells slots Q pc lv (.int x :: rest) := fun H locs ls hp hl hlv => lv_i2l C.1 C.2.1 hd rfl (k H locs ls hp hl hlv)
theorem r_lcmp (C : CX G F M R) {x y : Int64} (hd : decode M.2.1 pc = .ok (.lcmp, 1)) (k : WA G F M h cells slots Q (pc + 1) lv (.int (lg_cmp x y) :: rest)) : WA G F M h cells slots Q pc lv (.long y :: .long x :: rest) := fun H locs ls hp hl hlv => W.lcmp C.1 C.2.1 hd (k H locs ls hp hl hlv)
theorem r_dup (C : CX G F M R) {v : Value} (hd : decode M.2.1 pc = .ok (.dup, 1)) (hv : v.category = 1) (k : WA G F M h cells slots Q (pc + 1) lv (v :: v :: rest)) : WA G F M h cells slots Q pc lv (v :: rest) := fun H locs ls hp hl hlv => lv_dup C.1 C.2.1 hd hv (k H locs ls hp hl hlv)
theorem r_dup2 (C : CX G F M R) {v w : Value} (hd : decode M.2.1 pc = .ok (.dup2, 1)) (hv : v.category = 1) (hw : w.category = 1) (k : WA G F M h cells slots Q (pc + 1) lv (v :: w :: v :: w :: rest)) : WA G F M h cells slots Q pc lv (v :: w :: rest) := fun H locs ls hp hl hlv => lv_dup2_11 C.1 C.2.1 hd hv hw (k H locs ls hp hl hlv)
theorem r_goto (C : CX G F M R) {off : Int} {tgt : Nat} (hd : decode M.2.1 pc = .ok (.goto off, 3)) (ht : (pc : Int) + off = (tgt : Int)) (k : WA G F M h cells slots Q tgt lv rest) : WA G F M h cells slots Q pc lv rest := fun H locs ls hp hl hlv => lv_goto C.1 C.2.1 hd ht (k H locs ls hp hl hlv)
theorem r_null (C : CX G F M R) (hd : decode M.2.1 pc = .ok (.aconst_null, 1)) (k : WA G F M h cells slots Q (pc + 1) lv (.null :: rest)) : WA G F M h cells slots Q pc lv rest := fun H locs ls hp hl hlv => lv_null C.1 C.2.1 hd (k H locs ls hp hl hlv)
theorem r_ifnull (C : CX G F M R) {x : Nat} {off : Int} (hd : decode M.2.1 pc = .ok (.ifnull off, 3)) (k : WA G F M h cells slots Q (pc + 3) lv rest) : WA G F M h cells slots Q pc lv (.ref x :: rest) := fun H locs ls hp hl hlv => lv_ifnull C.1 C.2.1 hd (k H locs ls hp hl hlv)
theorem r_ifnonnull (C : CX G F M R) {x : Nat} {off : Int} {tgt : Nat} (hd : decode M.2.1 pc = .ok (.ifnonnull off, 3)) (ht : (pc : Int) + off = (tgt : Int)) (k : WA G F M h cells slots Q tgt lv rest) : WA G F M h cells slots Q pc lv (.ref x :: rest) := fun H locs ls hp hl hlv => lv_ifnonnull C.1 C.2.1 hd ht (k H locs ls hp hl hlv)
theorem r_ifnullN (C : CX G F M R) {off : Int} {tgt : Nat} (hd : decode M.2.1 pc = .ok (.ifnull off, 3)) (ht : (pc : Int) + off = (tgt : Int)) (k : WA G F M h cells slots Q tgt lv rest) : WA G F M h cells slots Q pc lv (.null :: rest) := fun H locs ls hp hl hlv => lv_ifnullN C.1 C.2.1 hd ht (k H locs ls hp hl hlv)
theorem r_ifnonnullN (C : CX G F M R) {off : Int} (hd : decode M.2.1 pc = .ok (.ifnonnull off, 3)) (k : WA G F M h cells slots Q (pc + 3) lv rest) : WA G F M h cells slots Q pc lv (.null :: rest) := fun H locs ls hp hl hlv => lv_ifnonnullN C.1 C.2.1 hd (k H locs ls hp hl hlv)
theorem r_if_eq (C : CX G F M R) {x : Int32} {off : Int} {tgt : Nat} (hd : decode M.2.1 pc = .ok (.ifCond .eq off, 3)) (ht : (pc : Int) + off = (tgt : Int)) (kt : x = 0 → WA G F M h cells slots Q tgt lv rest) (kf : ¬ x = 0 → WA G F M h cells slots Q (pc + 3) lv rest) : WA G F M h cells slots Q pc lv (.int x :: rest) := fun H locs ls hp hl hlv => lv_if_eq C.1 C.2.1 hd ht (fun q => kt q H locs ls hp hl hlv) (fun q => kf q H locs ls hp hl hlv)
theorem r_if_ne (C : CX G F M R) {x : Int32} {off : Int} {tgt : Nat} (hd : decode M.2.1 pc = .ok (.ifCond .ne off, 3)) (ht : (pc : Int) + off = (tgt : Int)) (kt : ¬ x = 0 → WA G F M h cells slots Q tgt lv rest) (kf : x = 0 → WA G F M h cells slots Q (pc + 3) lv rest) : WA G F M h cells slots Q pc lv (.int x :: rest) := fun H locs ls hp hl hlv => lv_if_ne C.1 C.2.1 hd ht (fun q => kt q H locs ls hp hl hlv) (fun q => kf (by first | exact q | exact Decidable.not_not.mp q) H locs ls hp hl hlv)
theorem r_if_lt (C : CX G F M R) {x : Int32} {off : Int} {tgt : Nat} (hd : decode M.2.1 pc = .ok (.ifCond .lt off, 3)) (ht : (pc : Int) + off = (tgt : Int)) (kt : x < 0 → WA G F M h cells slots Q tgt lv rest) (kf : ¬ x < 0 → WA G F M h cells slots Q (pc + 3) lv rest) : WA G F M h cells slots Q pc lv (.int x :: rest) := fun H locs ls hp hl hlv => lv_if_lt C.1 C.2.1 hd ht (fun q => kt q H locs ls hp hl hlv) (fun q => kf q H locs ls hp hl hlv)
theorem r_if_ge (C : CX G F M R) {x : Int32} {off : Int} {tgt : Nat} (hd : decode M.2.1 pc = .ok (.ifCond .ge off, 3)) (ht : (pc : Int) + off = (tgt : Int)) (kt : 0 ≤ x → WA G F M h cells slots Q tgt lv rest) (kf : ¬ 0 ≤ x → WA G F M h cells slots Q (pc + 3) lv rest) : WA G F M h cells slots Q pc lv (.int x :: rest) := fun H locs ls hp hl hlv => lv_if_ge C.1 C.2.1 hd ht (fun q => kt q H locs ls hp hl hlv) (fun q => kf q H locs ls hp hl hlv)
theorem r_if_gt (C : CX G F M R) {x : Int32} {off : Int} {tgt : Nat} (hd : decode M.2.1 pc = .ok (.ifCond .gt off, 3)) (ht : (pc : Int) + off = (tgt : Int)) (kt : 0 < x → WA G F M h cells slots Q tgt lv rest) (kf : ¬ 0 < x → WA G F M h cells slots Q (pc + 3) lv rest) : WA G F M h cells slots Q pc lv (.int x :: rest) := fun H locs ls hp hl hlv => lv_if_gt C.1 C.2.1 hd ht (fun q => kt q H locs ls hp hl hlv) (fun q => kf q H locs ls hp hl hlv)
theorem r_if_le (C : CX G F M R) {x : Int32} {off : Int} {tgt : Nat} (hd : decode M.2.1 pc = .ok (.ifCond .le off, 3)) (ht : (pc : Int) + off = (tgt : Int)) (kt : x ≤ 0 → WA G F M h cells slots Q tgt lv rest) (kf : ¬ x ≤ 0 → WA G F M h cells slots Q (pc + 3) lv rest) : WA G F M h cells slots Q pc lv (.int x :: rest) := fun H locs ls hp hl hlv => lv_if_le C.1 C.2.1 hd ht (fun q => kt q H locs ls hp hl hlv) (fun q => kf q H locs ls hp hl hlv)
theorem r_icmp_eq (C : CX G F M R) {x y : Int32} {off : Int} {tgt : Nat} (hd : decode M.2.1 pc = .ok (.if_icmp .eq off, 3)) (ht : (pc : Int) + off = (tgt : Int)) (kt : x = y → WA G F M h cells slots Q tgt lv rest) (kf : ¬ x = y → WA G F M h cells slots Q (pc + 3) lv rest) : WA G F M h cells slots Q pc lv (.int y :: .int x :: rest) := fun H locs ls hp hl hlv => lv_icmp_eq C.1 C.2.1 hd ht (fun q => kt q H locs ls hp hl hlv) (fun q => kf q H locs ls hp hl hlv)
theorem r_icmp_ne (C : CX G F M R) {x y : Int32} {off : Int} {tgt : Nat} (hd : decode M.2.1 pc = .ok (.if_icmp .ne off, 3)) (ht : (pc : Int) + off = (tgt : Int)) (kt : ¬ x = y → WA G F M h cells slots Q tgt lv rest) (kf : x = y → WA G F M h cells slots Q (pc + 3) lv rest) : WA G F M h cells slots Q pc lv (.int y :: .int x :: rest) := fun H locs ls hp hl hlv => lv_icmp_ne C.1 C.2.1 hd ht (fun q => kt q H locs ls hp hl hlv) (fun q => kf (by first | exact q | exact Decidable.not_not.mp q) H locs ls hp hl hlv)
theorem r_icmp_lt (C : CX G F M R) {x y : Int32} {off : Int} {tgt : Nat} (hd : decode M.2.1 pc = .ok (.if_icmp .lt off, 3)) (ht : (pc : Int) + off = (tgt : Int)) (kt : x < y → WA G F M h cells slots Q tgt lv rest) (kf : ¬ x < y → WA G F M h cells slots Q (pc + 3) lv rest) : WA G F M h cells slots Q pc lv (.int y :: .int x :: rest) := fun H locs ls hp hl hlv => lv_icmp_lt C.1 C.2.1 hd ht (fun q => kt q H locs ls hp hl hlv) (fun q => kf q H locs ls hp hl hlv)
theorem r_icmp_ge (C : CX G F M R) {x y : Int32} {off : Int} {tgt : Nat} (hd : decode M.2.1 pc = .ok (.if_icmp .ge off, 3)) (ht : (pc : Int) + off = (tgt : Int)) (kt : y ≤ x → WA G F M h cells slots Q tgt lv rest) (kf : ¬ y ≤ x → WA G F M h cells slots Q (pc + 3) lv rest) : WA G F M h cells slots Q pc lv (.int y :: .int x :: rest) := fun H locs ls hp hl hlv => lv_icmp_ge C.1 C.2.1 hd ht (fun q => kt q H locs ls hp hl hlv) (fun q => kf q H locs ls hp hl hlv)
theorem r_icmp_gt (C : CX G F M R) {x y : Int32} {off : Int} {tgt : Nat} (hd : decode M.2.1 pc = .ok (.if_icmp .gt off, 3)) (ht : (pc : Int) + off = (tgt : Int)) (kt : y < x → WA G F M h cells slots Q tgt lv rest) (kf : ¬ y < x → WA G F M h cells slots Q (pc + 3) lv rest) : WA G F M h cells slots Q pc lv (.int y :: .int x :: rest) := fun H locs ls hp hl hlv => lv_icmp_gt C.1 C.2.1 hd ht (fun q => kt q H locs ls hp hl hlv) (fun q => kf q H locs ls hp hl hlv)
theorem r_icmp_le (C : CX G F M R) {x y : Int32} {off : Int} {tgt : Nat} (hd : decode M.2.1 pc = .ok (.if_icmp .le off, 3)) (ht : (pc : Int) + off = (tgt : Int)) (kt : x ≤ y → WA G F M h cells slots Q tgt lv rest) (kf : ¬ x ≤ y → WA G F M h cells slots Q (pc + 3) lv rest) : WA G F M h cells slots Q pc lv (.int y :: .int x :: rest) := fun H locs ls hp hl hlv => lv_icmp_le C.1 C.2.1 hd ht (fun q => kt q H locs ls hp hl hlv) (fun q => kf q H locs ls hp hl hlv)
theorem r_tableOut (C : CX G F M R) {dflt lo hi : Int} {offs : Array Int} {len : Nat} {x : Int32} {tgt : Nat} (hd : decode M.2.1 pc = .ok (.tableswitch dflt lo hi offs, len)) (hx : x.toInt < lo ∨ hi < x.toInt) (ht : (pc : Int) + dflt = (tgt : Int)) (k : WA G F M h cells slots Q tgt lv rest) : WA G F M h cells slots Q pc lv (.int x :: rest) := fun H locs ls hp hl hlv => lv_tableOut C.1 C.2.1 hd hx ht (k H locs ls hp hl hlv)
theorem r_tableIn (C : CX G F M R) {dflt lo hi : Int} {offs : Array Int} {len : Nat} {x : Int32} {off : Int} {tgt : Nat} (hd : decode M.2.1 pc = .ok (.tableswitch dflt lo hi offs, len)) (h1 : ¬ x.toInt < lo) (h2 : ¬ hi < x.toInt) (ho : offs[(x.toInt - lo).toNat]? = some off) (ht : (pc : Int) + off = (tgt : Int)) (k : WA G F M h cells slots Q tgt lv rest) : WA G F M h cells slots Q pc lv (.int x :: rest) := fun H locs ls hp hl hlv => lv_tableIn C.1 C.2.1 hd h1 h2 ho ht (k H locs ls hp hl hlv)
end RW
