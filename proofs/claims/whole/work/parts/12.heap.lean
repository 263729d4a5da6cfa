/-! ===== the abstract heap's own rows ===== -/
theorem up_ne {α : Type} {f : Nat → α} {k j : Nat} {v : α} (h : j ≠ k) : va_up f k v j = f j := if_neg h
theorem HP.look {G : GP} {h : AH} {H : Heap} (hp : HP G h H) {a k n : Nat} (hs : hS h a = (k, n)) (hk : k ≠ 9) : gb G ≤ a ∧ a < hN h ∧ hat G h a H := hp.2.2.2 a (by rw [hs]; exact hk)
theorem HP.obj {G : GP} {h : AH} {H : Heap} (hp : HP G h H) {a ci : Nat} (hs : hS h a = (0, ci)) : gb G ≤ a ∧ a < hN h ∧ ci < 7 ∧ t_OB a (gC G ci) (fT ci).2.2.1 (gI G ci) H (hval h ci a) := by
  obtain ⟨h1, h2, h3⟩ := hp.look hs (by decide)
  unfold hat at h3
  rw [hs] at h3
  exact ⟨h1, h2, h3⟩
theorem HP.arr {G : GP} {h : AH} {H : Heap} (hp : HP G h H) {a k n : Nat} (hs : hS h a = (k, n)) (hk : k ≠ 9) (h0 : k ≠ 0) : gb G ≤ a ∧ a < hN h ∧ H[a]? = some (vp_cell (gA G k) (harr h a)) := by
  obtain ⟨h1, h2, h3⟩ := hp.look hs hk
  unfold hat at h3
  rw [hs, if_neg h0] at h3
  exact ⟨h1, h2, h3⟩
theorem harr_i {h : AH} {a k n : Nat} (hs : hS h a = (k, n)) (hk : k = 1 ∨ k = 3) : harr h a = (n, .inl (hI h a)) := by
  unfold harr
  rw [hs]
  rcases hk with rfl | rfl <;> rfl
theorem harr_l {h : AH} {a n : Nat} (hs : hS h a = (2, n)) : harr h a = (n, .inr (.inl (hL h a))) := by
  unfold harr
  rw [hs]
  rfl
theorem harr_q {h : AH} {a k n : Nat} (hs : hS h a = (k, n)) (hk : 4 ≤ k) : harr h a = (n, .inr (.inr (.inr (.inr (hR h a))))) := by
  unfold harr
  rw [hs]
  show (n, if k = 2 then _ else if 4 ≤ k then _ else _) = _
  rw [if_neg (by omega), if_pos hk]
/-- two abstract heaps that say the same of a cell -/
theorem hat_same {G : GP} {h h' : AH} {a : Nat} {H H' : Heap} (h1 : hS h' a = hS h a) (h2 : hI h' a = hI h a) (h3 : hR h' a = hR h a) (h4 : hL h' a = hL h a) (hq : H'[a]? = H[a]?) (hh : hat G h a H) : hat G h' a H' := by
  unfold hat at hh ⊢
  have e1 : harr h' a = harr h a := by unfold harr; rw [h1, h2, h3, h4]
  have e2 : hval h' (hS h a).2 a = hval h (hS h a).2 a := by funext k; unfold hval; rw [h2, h3]
  rw [h1, e1, e2]
  by_cases hz : (hS h a).1 = 0
  · rw [if_pos hz] at hh ⊢
    exact ⟨hh.1, hh.2.kept hq⟩
  · rw [if_neg hz] at hh ⊢
    rw [hq]; exact hh
/-- one cell has changed -/
theorem HP.put {G : GP} {h h' : AH} {a k n : Nat} {H H' : Heap} (hp : HP G h H) (hs : hS h a = (k, n)) (hk : k ≠ 9) (e1 : hS h' = hS h) (e2 : hN h' = hN h) (e3 : ∀ b, b ≠ a → hI h' b = hI h b) (e4 : ∀ b, b ≠ a → hR h' b = hR h b) (e5 : ∀ b, b ≠ a → hL h' b = hL h b) (z : H'.size = H.size) (oq : ∀ q, q ≠ a → H'[q]? = H[q]?) (ha : hat G h' a H') : HP G h' H' := by
  obtain ⟨g1, g2, -⟩ := hp.look hs hk
  refine ⟨by rw [z, e2]; exact hp.1, by rw [e2]; exact hp.2.1, fun q hq => ?_, fun b hb => ?_⟩
  · have hne : q ≠ a := fun e => by subst e; exact absurd hq (Nat.not_lt.mpr g1)
    rw [oq q hne]; exact hp.2.2.1 q hq
  · rw [e1] at hb
    obtain ⟨b1, b2, b3⟩ := hp.2.2.2 b hb
    refine ⟨b1, by rw [e2]; exact b2, ?_⟩
    by_cases hba : b = a
    · rw [hba]; exact ha
    · exact hat_same (by rw [e1]) (e3 b hba) (e4 b hba) (e5 b hba) (oq b hba) b3
/-- a new cell -/
theorem HP.new {G : GP} {h : AH} {sh : Nat × Nat} {H H' : Heap} (hp : HP G h H) (z : H'.size = hN h + 1) (oq : ∀ q, q < hN h → H'[q]? = H[q]?) (ha : hat G (hnew h sh) (hN h) H') : HP G (hnew h sh) H' := by
  have hge := hp.2.1
  refine ⟨z, Nat.le_succ_of_le hge, fun q hq => ?_, fun b hb => ?_⟩
  · rw [oq q (Nat.lt_of_lt_of_le hq hge)]; exact hp.2.2.1 q hq
  · by_cases hba : b = hN h
    · subst hba
      exact ⟨hge, Nat.lt_succ_self _, ha⟩
    · have es : hS (hnew h sh) b = hS h b := up_ne hba
      rw [es] at hb
      obtain ⟨b1, b2, b3⟩ := hp.2.2.2 b hb
      exact ⟨b1, Nat.lt_succ_of_lt b2, hat_same es (up_ne hba) (up_ne hba) (up_ne hba) (oq b b2) b3⟩
/-- reads behind writes -/
theorem hI_pI {h : AH} {a k b j : Nat} {v : Int32} : hI (pI h a k v) b j = if b = a ∧ j = k then v else hI h b j := by
  show va_up (hI h) a (va_up (hI h a) k v) b j = _
  unfold va_up
  by_cases h1 : b = a
  · subst h1
    by_cases h2 : j = k <;> simp [h2]
  · simp [h1]
theorem hL_pL {h : AH} {a k b j : Nat} {v : Int64} : hL (pL h a k v) b j = if b = a ∧ j = k then v else hL h b j := by
  show va_up (hL h) a (va_up (hL h a) k v) b j = _
  unfold va_up
  by_cases h1 : b = a
  · subst h1
    by_cases h2 : j = k <;> simp [h2]
  · simp [h1]
theorem hR_pR {h : AH} {a k b j : Nat} {v : Option Nat} : hR (pR h a k v) b j = if b = a ∧ j = k then v else hR h b j := by
  show va_up (hR h) a (va_up (hR h a) k v) b j = _
  unfold va_up
  by_cases h1 : b = a
  · subst h1
    by_cases h2 : j = k <;> simp [h2]
  · simp [h1]
theorem hI_pIs {h : AH} {a b j : Nat} {f : Nat → Int32} : hI (pIs h a f) b j = if b = a then f j else hI h b j := by
  show va_up (hI h) a f b j = _
  unfold va_up
  split <;> rfl
theorem hL_pLs {h : AH} {a b j : Nat} {f : Nat → Int64} : hL (pLs h a f) b j = if b = a then f j else hL h b j := by
  show va_up (hL h) a f b j = _
  unfold va_up
  split <;> rfl
theorem hS_pI {h : AH} {a k : Nat} {v : Int32} : hS (pI h a k v) = hS h := rfl
theorem hR_pI {h : AH} {a k : Nat} {v : Int32} : hR (pI h a k v) = hR h := rfl
theorem hL_pI {h : AH} {a k : Nat} {v : Int32} : hL (pI h a k v) = hL h := rfl
theorem hN_pI {h : AH} {a k : Nat} {v : Int32} : hN (pI h a k v) = hN h := rfl
theorem hS_pL {h : AH} {a k : Nat} {v : Int64} : hS (pL h a k v) = hS h := rfl
theorem hI_pL {h : AH} {a k : Nat} {v : Int64} : hI (pL h a k v) = hI h := rfl
theorem hR_pL {h : AH} {a k : Nat} {v : Int64} : hR (pL h a k v) = hR h := rfl
theorem hN_pL {h : AH} {a k : Nat} {v : Int64} : hN (pL h a k v) = hN h := rfl
theorem hS_pR {h : AH} {a k : Nat} {v : Option Nat} : hS (pR h a k v) = hS h := rfl
theorem hI_pR {h : AH} {a k : Nat} {v : Option Nat} : hI (pR h a k v) = hI h := rfl
theorem hL_pR {h : AH} {a k : Nat} {v : Option Nat} : hL (pR h a k v) = hL h := rfl
theorem hN_pR {h : AH} {a k : Nat} {v : Option Nat} : hN (pR h a k v) = hN h := rfl
theorem hS_pIs {h : AH} {a : Nat} {f : Nat → Int32} : hS (pIs h a f) = hS h := rfl
theorem hR_pIs {h : AH} {a : Nat} {f : Nat → Int32} : hR (pIs h a f) = hR h := rfl
theorem hL_pIs {h : AH} {a : Nat} {f : Nat → Int32} : hL (pIs h a f) = hL h := rfl
theorem hN_pIs {h : AH} {a : Nat} {f : Nat → Int32} : hN (pIs h a f) = hN h := rfl
theorem hS_pLs {h : AH} {a : Nat} {f : Nat → Int64} : hS (pLs h a f) = hS h := rfl
theorem hI_pLs {h : AH} {a : Nat} {f : Nat → Int64} : hI (pLs h a f) = hI h := rfl
theorem hR_pLs {h : AH} {a : Nat} {f : Nat → Int64} : hR (pLs h a f) = hR h := rfl
theorem hN_pLs {h : AH} {a : Nat} {f : Nat → Int64} : hN (pLs h a f) = hN h := rfl
theorem hS_new {h : AH} {sh : Nat × Nat} {b : Nat} : hS (hnew h sh) b = if b = hN h then sh else hS h b := rfl
theorem hI_new {h : AH} {sh : Nat × Nat} {b j : Nat} : hI (hnew h sh) b j = if b = hN h then 0 else hI h b j := by
  show va_up (hI h) (hN h) (fun _ => 0) b j = _
  unfold va_up; split <;> rfl
theorem hR_new {h : AH} {sh : Nat × Nat} {b j : Nat} : hR (hnew h sh) b j = if b = hN h then none else hR h b j := by
  show va_up (hR h) (hN h) (fun _ => none) b j = _
  unfold va_up; split <;> rfl
theorem hL_new {h : AH} {sh : Nat × Nat} {b j : Nat} : hL (hnew h sh) b j = if b = hN h then 0 else hL h b j := by
  show va_up (hL h) (hN h) (fun _ => 0) b j = _
  unfold va_up; split <;> rfl
theorem hN_new {h : AH} {sh : Nat × Nat} : hN (hnew h sh) = hN h + 1 := rfl
theorem hval_pI {h : AH} {ci a k : Nat} {v : Int32} (hr : fR ci k = false) (j : Nat) : updV (hval h ci a) k (.int v) j = hval (pI h a k v) ci a j := by
  simp only [updV, hval, hI_pI, hR_pI]
  by_cases hjk : j = k
  · subst hjk; simp [hr]
  · simp [hjk]
theorem hval_pR {h : AH} {ci a k b : Nat} (hr : fR ci k = true) (j : Nat) : updV (hval h ci a) k (.ref b) j = hval (pR h a k (some b)) ci a j := by
  simp only [updV, hval, hR_pR, hI_pR]
  by_cases hjk : j = k
  · subst hjk; simp [hr, va_rf]
  · simp [hjk]
/-! ===== fields ===== -/
/-- entry idx of own's pool is field k of class ci -/
def FL (own : String) (idx ci k : Nat) : Prop := ci < 7 ∧ k < (fT ci).2.2.1 ∧ (Cond.fieldLink own idx ((fT ci).2.1 k).1 ((fT ci).2.1 k).2.1 ((fT ci).2.1 k).2.2.1 ∈ GW ∨ Cond.fieldLinkNest own idx ((fT ci).2.1 k).1 ((fT ci).2.1 k).2.1 ((fT ci).2.1 k).2.2.1 "LooseMarks" ∈ NW)
section RH
variable {G : GP} {F : FX} {M : MD} {R : Room} {h : AH} {cells slots : Nat} {Q : State → Prop} {pc : Nat} {lv lv' : List (Option Value)} {rest : List Value}
theorem r_getV (C : CX G F M R) {idx a ci k : Nat} (hf : FL M.1.cls idx ci k) (hs : hS h a = (0, ci)) (hd : decode M.2.1 pc = .ok (.getfield idx, 3)) (kk : WA G F M h cells slots Q (pc + 3) lv (hval h ci a k :: rest)) : WA G F M h cells slots Q pc lv (.ref a :: rest) := by
  intro H locs ls hp hl hlv
  obtain ⟨hx, hb, hml, hr, hown, hts, hlk, hnm, hRm, hKn, hNw, -⟩ := C
  obtain ⟨hci, hk, hlink⟩ := hf
  obtain ⟨w1, w2, w3, w4⟩ := fw ci hci
  obtain ⟨-, -, -, cell, q1, q2, q3, q4⟩ := hp.obj hs
  obtain ⟨hSl, hfc, kC, hkC, hkind⟩ := hKn.1 ci _ w4
  obtain ⟨cf, kf, fi, f, hi, hsl⟩ := hSl k hk
  have hst := (u_facts hfc hkC (u_lays hts w1 hk) hi).1
  have hv : cell.slots[f.slot]? = some (hval h ci a k) := by rw [hsl]; exact q4 k hk
  rcases hlink with hlink | hlink
  · exact W.getf hx hb hown (hts _ hlink) hi hst q1 (by rw [q3]; exact fun h => by cases h) hv rfl rfl hd (kk H locs ls hp hl hlv)
  · exact va_Wgetf hx hb hown (va_Nw.use rfl (hNw _ hlink)) hi hst q1 (by rw [q3]; exact fun h => by cases h) hv rfl rfl hd (kk H locs ls hp hl hlv)
theorem r_getI (C : CX G F M R) {idx a ci k : Nat} (hf : FL M.1.cls idx ci k) (hs : hS h a = (0, ci)) (hr : fR ci k = false) (hd : decode M.2.1 pc = .ok (.getfield idx, 3)) (kk : WA G F M h cells slots Q (pc + 3) lv (.int (hI h a k) :: rest)) : WA G F M h cells slots Q pc lv (.ref a :: rest) := by
  refine r_getV C hf hs hd ?_
  unfold hval
  rw [hr]
  exact kk
theorem r_getR (C : CX G F M R) {idx a ci k b : Nat} (hf : FL M.1.cls idx ci k) (hs : hS h a = (0, ci)) (hr : fR ci k = true) (hb : hR h a k = some b) (hd : decode M.2.1 pc = .ok (.getfield idx, 3)) (kk : WA G F M h cells slots Q (pc + 3) lv (.ref b :: rest)) : WA G F M h cells slots Q pc lv (.ref a :: rest) := by
  refine r_getV C hf hs hd ?_
  unfold hval
  rw [hr, hb]
  exact kk
/-- putting into a field: the cell behind it -/
theorem put_ob {G : GP} {h h' : AH} {a ci k : Nat} {H' : Heap} {cell : Cell} {v : Value} {s : State} {args : Array Value} (hts : ∀ w ∈ GW, w.before args s = true) (hKn : va_K (gC G, gI G) vwCl (tysG G) s) (hci : ci < 7) (hk : k < (fT ci).2.2.1) (q2 : cell.cls = gC G ci) (q3 : cell.vm = .none) (q4 : ∀ k, k < (fT ci).2.2.1 → cell.slots[gI G ci k]? = some (hval h ci a k)) (e1 : H'[a]? = some (cell.setSlot (gI G ci k) v)) (hv : ∀ j, j < (fT ci).2.2.1 → updV (hval h ci a) k v j = hval h' ci a j) : t_OB a (gC G ci) (fT ci).2.2.1 (gI G ci) H' (hval h' ci a) := by
  obtain ⟨w1, w2, w3, w4⟩ := fw ci hci
  have hap := va_apart (own := "") (D := (gC G, gI G)) (s := s) (args := args) hts w1 _ w2 w3 hKn w4
  exact t_OB.to (V := updV (hval h ci a) k v) ⟨_, e1, q2, q3, t_set q4 hap hk v⟩ hv
/-- a field of ints or booleans that isn't final -/
theorem r_putI (C : CX G F M R) {idx a ci k : Nat} {v : Int32} (hf : FL M.1.cls idx ci k) (hs : hS h a = (0, ci)) (hr : fR ci k = false) (hfin : ((fT ci).2.1 k).2.2.2 = false) (hn : narrow ((fT ci).2.2.2 k) (.int v) = .int v) (hfit : fits ((fT ci).2.2.2 k) (.int v) = true) (hd : decode M.2.1 pc = .ok (.putfield idx, 3)) (kk : WA G F M (pI h a k v) cells slots Q (pc + 3) lv rest) : WA G F M h cells slots Q pc lv (.int v :: .ref a :: rest) := by
  intro H locs ls hp hl hlv
  obtain ⟨hx, hb, hml, hrt, hown, hts, hlk, hnm, hRm, hKn, hNw, -⟩ := C
  obtain ⟨hci, hk, hlink⟩ := hf
  obtain ⟨w1, w2, w3, w4⟩ := fw ci hci
  obtain ⟨g1, g2, -, cell, q1, q2, q3, q4⟩ := hp.obj hs
  obtain ⟨hSl, hfc, kC, hkC, hkind⟩ := hKn.1 ci _ w4
  obtain ⟨cf, kf, fi, f, hi, hsl⟩ := hSl k hk
  have hst := (u_facts hfc hkC (u_lays hts w1 hk) hi).1
  have hlay := hts _ (w1 _ (u_in_lay hk))
  unfold u_lay at hlay
  rw [if_neg (by rw [hfin]; decide)] at hlay
  have h6 : k2_Sd (fs F) f cell.cls (.int v) := by rw [q2]; exact u_store hfc hkC hkind hlay hi (w2 k hk) hn hfit
  have go : ∀ H' : Heap, H'[a]? = some (cell.setSlot f.slot (.int v)) → H'.size = H.size → (∀ q, q ≠ a → H'[q]? = H[q]?) → HP G (pI h a k v) H' := by
    intro H' e1 e2 e3
    rw [hsl] at e1
    refine hp.put hs (by decide) rfl rfl (fun b hb => up_ne hb) (fun b hb => rfl) (fun b hb => rfl) e2 e3 ?_
    unfold hat
    rw [hS_pI, hs]
    refine ⟨hci, put_ob (v := .int v) hts hKn hci hk q2 q3 q4 e1 fun j hj => ?_⟩
    exact hval_pI hr j
  have hlocs : ∀ q ∈ locs ++ [⟨a, f.slot⟩], gb G ≤ q.base := fun q hq => by
    rcases List.mem_append.mp hq with h1 | h1
    · exact hl q h1
    · rw [List.mem_singleton.mp h1]; exact g1
  have hsz : f.slot < cell.slots.size := by rw [hsl]; exact k2_hasslot (q4 k hk)
  rcases hlink with hlink | hlink
  · exact W.putK hx hb (f := f) ⟨hown, hts _ hlink, ⟨_, _, _, hi⟩, hst⟩ h6 q1 q3 hsz rfl rfl hd fun H' e1 e2 e3 => kk H' _ ls (go H' e1 e2 e3) hlocs hlv
  · exact va_WputK hx hb (f := f) hown (va_Nw.use rfl (hNw _ hlink)) hi hst h6 q1 q3 hsz rfl rfl hd fun H' e1 e2 e3 => kk H' _ ls (go H' e1 e2 e3) hlocs hlv
/-- a final field, in its class's constructor -/
theorem r_putFin (C : CX G F M R) {idx a ci k : Nat} {v : Value} {h' : AH} (hf : FL M.1.cls idx ci k) (hs : hS h a = (0, ci)) (hfin : ((fT ci).2.1 k).2.2.2 = true) (hin : M.1.name = "<init>") (hdecl : ((fT ci).2.1 k).1 = M.1.cls) (hn : narrow ((fT ci).2.2.2 k) v = v) (hfit : fits ((fT ci).2.2.2 k) v = true) (hnw : Cond.fieldLink M.1.cls idx ((fT ci).2.1 k).1 ((fT ci).2.1 k).2.1 ((fT ci).2.1 k).2.2.1 ∈ GW)
    (hh : hS h' = hS h ∧ hN h' = hN h ∧ (∀ b, b ≠ a → hI h' b = hI h b) ∧ (∀ b, b ≠ a → hR h' b = hR h b) ∧ (∀ b, b ≠ a → hL h' b = hL h b) ∧ ∀ j, updV (hval h ci a) k v j = hval h' ci a j) (hd : decode M.2.1 pc = .ok (.putfield idx, 3)) (kk : WA G F M h' cells slots Q (pc + 3) lv rest) : WA G F M h cells slots Q pc lv (v :: .ref a :: rest) := by
  intro H locs ls hp hl hlv
  obtain ⟨hx, hb, hml, hrt, hown, hts, hlk, hnm, hRm, hKn, hNw, -⟩ := C
  obtain ⟨hci, hk, -⟩ := hf
  obtain ⟨w1, w2, w3, w4⟩ := fw ci hci
  obtain ⟨g1, g2, -, cell, q1, q2, q3, q4⟩ := hp.obj hs
  obtain ⟨hSl, hfc, kC, hkC, hkind⟩ := hKn.1 ci _ w4
  obtain ⟨cf, kf, fi, f, hi, hsl⟩ := hSl k hk
  have hst := (u_facts hfc hkC (u_lays hts w1 hk) hi).1
  have hlay := hts _ (w1 _ (u_in_lay hk))
  unfold u_lay at hlay
  rw [if_pos hfin] at hlay
  have hcf : (fm F).cls = cf := by
    obtain ⟨_, _, c', _, _, _, -, -, hf', -, -, -, hown2, -⟩ := Cond.laysFinal_spec hlay
    have e1 : c' = cf := by have := hi.symm.trans hf'; simp at this; exact this.1.symm
    rw [hdecl] at hown2
    rw [← e1]; exact Option.some.inj (hown.symm.trans hown2)
  have h6 : narrow f.type v = v ∧ (fs F).fitsSlot cell.cls .none f.slot v = true := by rw [q2]; exact u_fits hfc hkC hkind (Or.inr hlay) hi (w2 k hk) hn hfit
  obtain ⟨z1, z2, z3, z4, z5, z6⟩ := hh
  have go : ∀ H' : Heap, H'[a]? = some (cell.setSlot f.slot v) → H'.size = H.size → (∀ q, q ≠ a → H'[q]? = H[q]?) → HP G h' H' := by
    intro H' e1 e2 e3
    rw [hsl] at e1
    refine hp.put hs (by decide) z1 z2 z3 z4 z5 e2 e3 ?_
    unfold hat
    rw [z1, hs]
    exact ⟨hci, put_ob hts hKn hci hk q2 q3 q4 e1 fun j hj => z6 j⟩
  have hlocs : ∀ q ∈ locs ++ [⟨a, f.slot⟩], gb G ≤ q.base := fun q hq => by
    rcases List.mem_append.mp hq with h1 | h1
    · exact hl q h1
    · rw [List.mem_singleton.mp h1]; exact g1
  have hsz : f.slot < cell.slots.size := by rw [hsl]; exact k2_hasslot (q4 k hk)
  exact W.putFinK hx hb hown (hts _ hnw) hi hst hcf (hnm.trans hin) h6 q1 q3 hsz rfl rfl hd fun H' e1 e2 e3 => kk H' _ ls (go H' e1 e2 e3) hlocs hlv
theorem r_putFI (C : CX G F M R) {idx a ci k : Nat} {v : Int32} (hf : FL M.1.cls idx ci k) (hs : hS h a = (0, ci)) (hr : fR ci k = false) (hfin : ((fT ci).2.1 k).2.2.2 = true) (hin : M.1.name = "<init>") (hdecl : ((fT ci).2.1 k).1 = M.1.cls) (hn : narrow ((fT ci).2.2.2 k) (.int v) = .int v) (hfit : fits ((fT ci).2.2.2 k) (.int v) = true) (hnw : Cond.fieldLink M.1.cls idx ((fT ci).2.1 k).1 ((fT ci).2.1 k).2.1 ((fT ci).2.1 k).2.2.1 ∈ GW) (hd : decode M.2.1 pc = .ok (.putfield idx, 3)) (kk : WA G F M (pI h a k v) cells slots Q (pc + 3) lv rest) : WA G F M h cells slots Q pc lv (.int v :: .ref a :: rest) := by
  refine r_putFin (h' := pI h a k v) C hf hs hfin hin hdecl hn hfit hnw ⟨rfl, rfl, fun b hb => up_ne hb, fun b hb => rfl, fun b hb => rfl, fun j => ?_⟩ hd kk
  exact hval_pI hr j
theorem r_putFR (C : CX G F M R) {idx a ci k b : Nat} (hf : FL M.1.cls idx ci k) (hs : hS h a = (0, ci)) (hr : fR ci k = true) (hfin : ((fT ci).2.1 k).2.2.2 = true) (hin : M.1.name = "<init>") (hdecl : ((fT ci).2.1 k).1 = M.1.cls) (hn : narrow ((fT ci).2.2.2 k) (.ref b) = .ref b) (hfit : fits ((fT ci).2.2.2 k) (.ref b) = true) (hnw : Cond.fieldLink M.1.cls idx ((fT ci).2.1 k).1 ((fT ci).2.1 k).2.1 ((fT ci).2.1 k).2.2.1 ∈ GW) (hd : decode M.2.1 pc = .ok (.putfield idx, 3)) (kk : WA G F M (pR h a k (some b)) cells slots Q (pc + 3) lv rest) : WA G F M h cells slots Q pc lv (.ref b :: .ref a :: rest) := by
  refine r_putFin (h' := pR h a k (some b)) C hf hs hfin hin hdecl hn hfit hnw ⟨rfl, rfl, fun b hb => rfl, fun b hb => up_ne hb, fun b hb => rfl, fun j => ?_⟩ hd kk
  exact hval_pR hr j
/-! ===== arrays ===== -/
theorem K_at {G : GP} {s : State} (hK : KX G s) (k : Nat) {q : ClassId × FieldType} (h : (tysG G)[k]? = some q) : ArrOfT s q.1 q.2 ∧ va_RA s q.1 q.2 := hK.1.2 k q h
theorem CX.K (C : CX G F M R) : KX G (fs F) := C.2.2.2.2.2.2.2.2.2
theorem in_lt {i : Int32} {n : Nat} (h : vp_in i n) : i.toNatClampNeg < n := Nat.not_le.mp fun q => h (Or.inr q)
theorem r_iald (C : CX G F M R) {a n : Nat} {i : Int32} (hs : hS h a = (1, n)) (hin : vp_in i n) (hd : decode M.2.1 pc = .ok (.iaload, 1)) (kk : WA G F M h cells slots Q (pc + 1) lv (.int (hI h a i.toNatClampNeg) :: rest)) : WA G F M h cells slots Q pc lv (.int i :: .ref a :: rest) := by
  intro H locs ls hp hl hlv
  obtain ⟨g1, g2, g3⟩ := hp.arr hs (by decide) (by decide)
  rw [harr_i hs (Or.inl rfl)] at g3
  exact W.iald (v := .int (hI h a i.toNatClampNeg)) C.1 C.2.1 g3 ((K_at C.K 0 rfl).1 n (fun j => .int (hI h a j))) (fun q => by cases q) (by show ¬ (i < 0 ∨ (arrV _ _ _).slots.size ≤ _); rw [arrV_size]; exact hin) (by show (arrV _ _ _).slots[_]? = _; rw [arrV_read _ _ (in_lt hin)]) rfl rfl hd (kk H locs ls hp hl hlv)
theorem r_zald (C : CX G F M R) {a n : Nat} {i : Int32} (hs : hS h a = (3, n)) (hin : vp_in i n) (hd : decode M.2.1 pc = .ok (.baload, 1)) (kk : WA G F M h cells slots Q (pc + 1) lv (.int (hI h a i.toNatClampNeg) :: rest)) : WA G F M h cells slots Q pc lv (.int i :: .ref a :: rest) := by
  intro H locs ls hp hl hlv
  obtain ⟨g1, g2, g3⟩ := hp.arr hs (by decide) (by decide)
  rw [harr_i hs (Or.inr rfl)] at g3
  exact W.zald (v := .int (hI h a i.toNatClampNeg)) C.1 C.2.1 g3 ((K_at C.K 2 rfl).1 n (fun j => .int (hI h a j))) (fun q => by cases q) (by show ¬ (i < 0 ∨ (arrV _ _ _).slots.size ≤ _); rw [arrV_size]; exact hin) (by show (arrV _ _ _).slots[_]? = _; rw [arrV_read _ _ (in_lt hin)]) rfl rfl hd (kk H locs ls hp hl hlv)
theorem r_lald (C : CX G F M R) {a n : Nat} {i : Int32} (hs : hS h a = (2, n)) (hin : vp_in i n) (hd : decode M.2.1 pc = .ok (.laload, 1)) (kk : WA G F M h cells slots Q (pc + 1) lv (.long (hL h a i.toNatClampNeg) :: rest)) : WA G F M h cells slots Q pc lv (.int i :: .ref a :: rest) := by
  intro H locs ls hp hl hlv
  obtain ⟨g1, g2, g3⟩ := hp.arr hs (by decide) (by decide)
  rw [harr_l hs] at g3
  exact W.lald (v := .long (hL h a i.toNatClampNeg)) C.1 C.2.1 g3 ((K_at C.K 1 rfl).1 n (fun j => .long (hL h a j))) (fun q => by cases q) (by show ¬ (i < 0 ∨ (arrV _ _ _).slots.size ≤ _); rw [arrV_size]; exact hin) (by show (arrV _ _ _).slots[_]? = _; rw [arrV_read _ _ (in_lt hin)]) rfl rfl hd (kk H locs ls hp hl hlv)
/-- the element class of an array of references -/
def eC : Nat → String := fun k => if k = 4 then RX0 else if k = 5 then RX2 else RX4
theorem K_q {s : State} (hK : KX G s) {k : Nat} (h4 : 4 ≤ k) (h6 : k ≤ 6) : ArrOfT s (gA G k) (.object (eC k)) ∧ va_RA s (gA G k) (.object (eC k)) := by
  rcases (show k = 4 ∨ k = 5 ∨ k = 6 by omega) with rfl | rfl | rfl
  · exact K_at hK 3 rfl
  · exact K_at hK 4 rfl
  · exact K_at hK 5 rfl
theorem r_aald (C : CX G F M R) {a k n : Nat} {i : Int32} (hs : hS h a = (k, n)) (h4 : 4 ≤ k) (h6 : k ≤ 6) (hin : vp_in i n) (hd : decode M.2.1 pc = .ok (.aaload, 1)) (kk : WA G F M h cells slots Q (pc + 1) lv (va_rf (hR h a i.toNatClampNeg) :: rest)) : WA G F M h cells slots Q pc lv (.int i :: .ref a :: rest) := by
  intro H locs ls hp hl hlv
  obtain ⟨g1, g2, g3⟩ := hp.arr hs (by omega) (by omega)
  rw [harr_q hs h4] at g3
  exact W.aald (v := va_rf (hR h a i.toNatClampNeg)) (ty := .object (eC k)) C.1 C.2.1 g3 ((K_q C.K h4 h6).1 n (fun j => va_rf (hR h a j))) rfl (fun q => by cases q) (by show ¬ (i < 0 ∨ (arrV _ _ _).slots.size ≤ _); rw [arrV_size]; exact hin) (by show (arrV _ _ _).slots[_]? = _; rw [arrV_read _ _ (in_lt hin)]) rfl rfl hd (kk H locs ls hp hl hlv)
theorem r_alen (C : CX G F M R) {a k n : Nat} (hs : hS h a = (k, n)) (h1 : 1 ≤ k) (h6 : k ≤ 6) (hd : decode M.2.1 pc = .ok (.arraylength, 1)) (kk : WA G F M h cells slots Q (pc + 1) lv (.int (nI n) :: rest)) : WA G F M h cells slots Q pc lv (.ref a :: rest) := by
  intro H locs ls hp hl hlv
  obtain ⟨g1, g2, g3⟩ := hp.arr hs (by omega) (by omega)
  by_cases hk4 : 4 ≤ k
  · rw [harr_q hs hk4] at g3
    exact W.alen (n := nI n) C.1 C.2.1 g3 ((K_q C.K hk4 h6).1 n (fun j => va_rf (hR h a j))) (by rw [vp_cell_q, arrV_size] <;> rfl) rfl rfl hd (kk H locs ls hp hl hlv)
  · rcases (show k = 1 ∨ k = 2 ∨ k = 3 by omega) with rfl | rfl | rfl
    · rw [harr_i hs (Or.inl rfl)] at g3
      exact W.alen (n := nI n) C.1 C.2.1 g3 ((K_at C.K 0 rfl).1 n (fun j => .int (hI h a j))) (by rw [vp_cell_i, arrV_size] <;> rfl) rfl rfl hd (kk H locs ls hp hl hlv)
    · rw [harr_l hs] at g3
      exact W.alen (n := nI n) C.1 C.2.1 g3 ((K_at C.K 1 rfl).1 n (fun j => .long (hL h a j))) (by rw [vp_cell_l, arrV_size] <;> rfl) rfl rfl hd (kk H locs ls hp hl hlv)
    · rw [harr_i hs (Or.inr rfl)] at g3
      exact W.alen (n := nI n) C.1 C.2.1 g3 ((K_at C.K 2 rfl).1 n (fun j => .int (hI h a j))) (by rw [vp_cell_i, arrV_size] <;> rfl) rfl rfl hd (kk H locs ls hp hl hlv)
theorem locs_put {locs : List Loc} {a k b : Nat} (hl : ∀ q ∈ locs, b ≤ q.base) (g1 : b ≤ a) : ∀ q ∈ locs ++ [⟨a, k⟩], b ≤ q.base := fun q hq => by
  rcases List.mem_append.mp hq with h1 | h1
  · exact hl q h1
  · rw [List.mem_singleton.mp h1]; exact g1
theorem r_iast (C : CX G F M R) {a n : Nat} {i x : Int32} (hs : hS h a = (1, n)) (hin : vp_in i n) (hd : decode M.2.1 pc = .ok (.iastore, 1)) (kk : WA G F M (pI h a i.toNatClampNeg x) cells slots Q (pc + 1) lv rest) : WA G F M h cells slots Q pc lv (.int x :: .int i :: .ref a :: rest) := by
  intro H locs ls hp hl hlv
  obtain ⟨g1, g2, g3⟩ := hp.arr hs (by decide) (by decide)
  rw [harr_i hs (Or.inl rfl)] at g3
  refine W.iast C.1 C.2.1 g3 ((K_at C.K 0 rfl).1 n (fun j => .int (hI h a j))) (fun q => by cases q) (by show ¬ (i < 0 ∨ (arrV _ _ _).slots.size ≤ _); rw [arrV_size]; exact hin) rfl rfl hd fun H1 e z oq => ?_
  refine kk H1 _ ls (hp.put hs (by decide) rfl rfl (fun b hb => up_ne hb) (fun b hb => rfl) (fun b hb => rfl) z oq ?_) (locs_put hl g1) hlv
  unfold hat
  rw [hS_pI, hs, if_neg (show ¬ (1 : Nat) = 0 from fun q => by cases q), harr_i (h := pI h a i.toNatClampNeg x) hs (Or.inl rfl), e, vp_cell_i, vp_cell_i, arrV_store]
  congr 2
  funext q
  rw [hI_pI]
  by_cases hq : q = i.toNatClampNeg <;> simp [updV, hq]
theorem r_zast (C : CX G F M R) {a n : Nat} {i x : Int32} (hs : hS h a = (3, n)) (hin : vp_in i n) (hx : x = 0 ∨ x = 1) (hd : decode M.2.1 pc = .ok (.bastore, 1)) (kk : WA G F M (pI h a i.toNatClampNeg x) cells slots Q (pc + 1) lv rest) : WA G F M h cells slots Q pc lv (.int x :: .int i :: .ref a :: rest) := by
  intro H locs ls hp hl hlv
  obtain ⟨g1, g2, g3⟩ := hp.arr hs (by decide) (by decide)
  rw [harr_i hs (Or.inr rfl)] at g3
  have hnx : narrow .boolean (.int x) = .int x := by rcases hx with rfl | rfl <;> rfl
  refine W.zast C.1 C.2.1 g3 ((K_at C.K 2 rfl).1 n (fun j => .int (hI h a j))) (fun q => by cases q) (by show ¬ (i < 0 ∨ (arrV _ _ _).slots.size ≤ _); rw [arrV_size]; exact hin) rfl rfl hd fun H1 e z oq => ?_
  refine kk H1 _ ls (hp.put hs (by decide) rfl rfl (fun b hb => up_ne hb) (fun b hb => rfl) (fun b hb => rfl) z oq ?_) (locs_put hl g1) hlv
  unfold hat
  rw [hS_pI, hs, if_neg (show ¬ (3 : Nat) = 0 from fun q => by cases q), harr_i (h := pI h a i.toNatClampNeg x) hs (Or.inr rfl), e, hnx, vp_cell_i, vp_cell_i, arrV_store]
  congr 2
  funext q
  rw [hI_pI]
  by_cases hq : q = i.toNatClampNeg <;> simp [updV, hq]
theorem r_last (C : CX G F M R) {a n : Nat} {i : Int32} {x : Int64} (hs : hS h a = (2, n)) (hin : vp_in i n) (hd : decode M.2.1 pc = .ok (.lastore, 1)) (kk : WA G F M (pL h a i.toNatClampNeg x) cells slots Q (pc + 1) lv rest) : WA G F M h cells slots Q pc lv (.long x :: .int i :: .ref a :: rest) := by
  intro H locs ls hp hl hlv
  obtain ⟨g1, g2, g3⟩ := hp.arr hs (by decide) (by decide)
  rw [harr_l hs] at g3
  refine W.last C.1 C.2.1 g3 ((K_at C.K 1 rfl).1 n (fun j => .long (hL h a j))) (fun q => by cases q) (by show ¬ (i < 0 ∨ (arrV _ _ _).slots.size ≤ _); rw [arrV_size]; exact hin) rfl rfl hd fun H1 e z oq => ?_
  refine kk H1 _ ls (hp.put hs (by decide) rfl rfl (fun b hb => rfl) (fun b hb => rfl) (fun b hb => up_ne hb) z oq ?_) (locs_put hl g1) hlv
  unfold hat
  rw [hS_pL, hs, if_neg (show ¬ (2 : Nat) = 0 from fun q => by cases q), harr_l (h := pL h a i.toNatClampNeg x) hs, e, vp_cell_l, vp_cell_l, arrV_store]
  congr 2
  funext q
  rw [hL_pL]
  by_cases hq : q = i.toNatClampNeg <;> simp [updV, hq]
/-- the class number of an array's elements -/
def eN : Nat → Nat := fun k => if k = 4 then 0 else if k = 5 then 2 else 4
theorem r_aast (C : CX G F M R) {a k n v : Nat} {i : Int32} (hs : hS h a = (k, n)) (h4 : 4 ≤ k) (h6 : k ≤ 6) (hv : hS h v = (0, eN k)) (hin : vp_in i n) (hd : decode M.2.1 pc = .ok (.aastore, 1)) (kk : WA G F M (pR h a i.toNatClampNeg (some v)) cells slots Q (pc + 1) lv rest) : WA G F M h cells slots Q pc lv (.ref v :: .int i :: .ref a :: rest) := by
  intro H locs ls hp hl hlv
  obtain ⟨g1, g2, g3⟩ := hp.arr hs (by omega) (by omega)
  rw [harr_q hs h4] at g3
  have hlt := in_lt hin
  have h0 : ¬ i < 0 := fun q => hin (Or.inl q)
  obtain ⟨-, -, he7, cellV, v1, v2, v3, -⟩ := hp.obj hv
  have hcls := (C.K.1.1 (eN k) _ (fw (eN k) he7).2.2.2).2
  obtain ⟨kA, comp, k1, k2, k3, -⟩ := (K_q C.K h4 h6).2
  have hcomp : comp = gC G (eN k) := by
    have e1 : (fs F).vm.findClass (eC k) = some (gC G (eN k)) := by
      rcases (show k = 4 ∨ k = 5 ∨ k = 6 by omega) with rfl | rfl | rfl <;> exact hcls.1
    exact Option.some.inj (k3.symm.trans e1)
  subst hcomp
  obtain ⟨kC, hkC, -⟩ := hcls.2
  refine W.aast C.1 C.2.1 g3 (fun q h => by cases h) (fun h => by cases h) k1 k2 rfl hkC ⟨h0, by show _ < (arrV _ _ _).slots.size; rw [arrV_size]; exact hlt⟩ v1 (fun q h => by rw [v3] at h; cases h) (by rw [v2]; exact hkC) (by rw [v2]; exact va_assign hcls) rfl rfl hd fun H1 e z oq => ?_
  refine kk H1 _ ls (hp.put hs (by omega) rfl rfl (fun b hb => rfl) (fun b hb => up_ne hb) (fun b hb => rfl) z oq ?_) (locs_put hl g1) hlv
  unfold hat
  rw [hS_pR, hs, if_neg (by show ¬ k = 0; omega), harr_q (h := pR h a i.toNatClampNeg (some v)) hs h4, e, vp_cell_q, vp_cell_q, arrV_store]
  congr 2
  funext q
  rw [hR_pR]
  by_cases hq : q = i.toNatClampNeg <;> simp [updV, hq, va_rf]
end RH
