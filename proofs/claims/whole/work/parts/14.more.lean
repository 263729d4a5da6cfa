/-! ===== arraycopy, clone, a cast, a long constant ===== -/
section MD2
variable {G : GP} {F : FX} {M : MD} {R : Room} {h : AH} {cells slots : Nat} {Q : State → Prop} {pc : Nat} {lv lv' : List (Option Value)} {rest : List Value}
/-- the one cell of a world -/
theorem one_P {a : Nat} {cA : ClassId} {x : vp_A} {H : Heap} (hh : H[a]? = some (vp_cell cA x)) : va_P (gC G, gI G) vwCl [(a, .inl (cA, x))] H := fun k q hk => by
  have hz : k < 1 := (List.getElem?_eq_some_iff.mp hk).1
  rw [show k = 0 by omega] at hk
  cases hk
  exact hh
theorem r_ldc2 (C : CX G F M R) {idx : Nat} {v : Int64} (hcn : (Jvm.Cond.constantLong M.1.cls idx v).before (fa F) (fs F) = true) (hd : decode M.2.1 pc = .ok (.ldc2_w idx, 3)) (k : WA G F M h cells slots Q (pc + 3) lv (.long v :: rest)) : WA G F M h cells slots Q pc lv rest := fun H locs ls hp hl hlv => lv_ldc2 C.1 C.2.1 C.2.2.2.2.1 hcn hd (k H locs ls hp hl hlv)
theorem r_castA (C : CX G F M R) {idx a n : Nat} (hs : hS h a = (1, n)) (hlk : Cond.classLink M.1.cls idx "[I" ∈ GW) (hd : decode M.2.1 pc = .ok (.checkcast idx, 3)) (k : WA G F M h cells slots Q (pc + 3) lv (.ref a :: rest)) : WA G F M h cells slots Q pc lv (.ref a :: rest) := by
  intro H locs ls hp hl hlv
  obtain ⟨g1, g2, g3⟩ := hp.arr hs (by decide) (by decide)
  exact va_castA (D := (gC G, gI G)) (cl := vwCl) C.1 C.2.1 C.2.2.2.2.1 (C.2.2.2.2.2.1 _ hlk) (one_P g3) 0 rfl (K_at C.K 0 rfl).2 hd (k H locs ls hp hl hlv)
/-- System.arraycopy between two different arrays -/
theorem r_copyi (C : CX G F M R) {idx a b n m : Nat} {sp dp cn : Int32} (ha : hS h a = (1, n)) (hb : hS h b = (1, m)) (hl1 : Cond.methodLink M.1.cls idx arraycopyName ∈ GW) (hl2 : Cond.native arraycopyName ∈ GW) (hl3 : Cond.static arraycopyName ∈ GW) (hl4 : Cond.initialized "java/lang/System" ∈ GW)
    (h1 : ¬ sp < 0) (h2 : ¬ dp < 0) (h3 : ¬ cn < 0) (h4 : sp.toNatClampNeg + cn.toNatClampNeg ≤ n) (h5 : dp.toNatClampNeg + cn.toNatClampNeg ≤ m) (hf : 1 ≤ R.frames) (hlo : (rest.map fun v => v.category).sum + (nativeFrameWords "java/lang/System" "arraycopy" 5 + 11) ≤ R.locals) (hd : decode M.2.1 pc = .ok (.invokestatic idx, 3))
    (kk : WA G F M (pIs h b (va_cpy (hI h a) (hI h b) sp.toNatClampNeg dp.toNatClampNeg cn.toNatClampNeg)) cells slots Q (pc + 3) lv rest) : WA G F M h cells slots Q pc lv (.int cn :: .int dp :: .ref b :: .int sp :: .ref a :: rest) := by
  intro H locs ls hp hl hlv
  obtain ⟨hx, hbc, hml, hrt, hown, hts, hlk, hnm, hRm, hK⟩ := C
  subst hRm
  have nn : ∀ z : Int32, ¬ z < 0 → z.toInt = (z.toNatClampNeg : Int) := by
    intro z hz
    have hz0 : (0 : Int) ≤ z.toInt := by
      have := Int32.not_lt.mp hz
      simpa using Int32.le_iff_toInt_le.mp this
    show z.toInt = ((z.toInt.toNat : Nat) : Int)
    omega
  obtain ⟨ga1, -, hc0⟩ := hp.arr ha (by decide) (by decide)
  obtain ⟨gb1, -, hc1⟩ := hp.arr hb (by decide) (by decide)
  rw [harr_i ha (Or.inl rfl)] at hc0
  rw [harr_i hb (Or.inl rfl)] at hc1
  intro T hT X
  obtain ⟨-, k0, hk0, cm0, hkk0⟩ := (K_at hK 0 rfl).1 n (fun j => .int (hI h a j))
  obtain ⟨vm', X', step⟩ := X.arraycopy hx hown (hts _ hl1) (hts _ hl2) (hts _ hl3) (hts _ hl4) (src := a) (dst := b) (cs := vp_cell (gA G 1) (n, .inl (hI h a))) (cd := vp_cell (gA G 1) (m, .inl (hI h b))) (sType := .int) (dType := .int) (srcPos := sp) (destPos := dp) (n := cn) (by rw [hT]; exact hc0) (by rw [hT]; exact hc1)
    (fun _ h => by cases h) (fun _ h => by cases h) (fun h => by cases h) (fun h => by cases h) hk0 hk0 hkk0 hkk0 rfl h1 h2 h3
    (by rw [nn sp h1, nn cn h3]; show ¬ _ > ((arrV _ n (fun j => .int (hI h a j))).slots.size : Int); rw [arrV_size]; omega)
    (by rw [nn dp h2, nn cn h3]; show ¬ _ > ((arrV _ m (fun j => .int (hI h b j))).slots.size : Int); rw [arrV_size]; omega)
    (fun vm₁ _ i hi => by
      have e : (vp_cell (gA G 1) (n, .inl (hI h a))).slots.getD (sp.toNatClampNeg + i) .null = .int (hI h a (sp.toNatClampNeg + i)) := by
        show (arrV _ n (fun j => .int (hI h a j))).slots.getD _ _ = _
        rw [Array.getD_eq_getD_getElem?, arrV_read _ _ (by omega)]
        rfl
      refine ⟨?_, ?_⟩
      · rw [e]; rfl
      · rw [e]; exact trivial)
    (g := F0 (fm F) pc ls (.int cn :: .int dp :: .ref b :: .int sp :: .ref a :: rest)) rfl (by rw [hml]; exact hlv.1) (rest := rest) rfl (by rw [hbc]; exact hd) hf (by show 2 * 0 + _ + _ ≤ _; omega)
  have e1 : copied (vp_cell (gA G 1) (n, .inl (hI h a))) (vp_cell (gA G 1) (m, .inl (hI h b))) sp dp cn = vp_cell (gA G 1) (m, .inl (va_cpy (hI h a) (hI h b) sp.toNatClampNeg dp.toNatClampNeg cn.toNatClampNeg)) := va_copied (fun z => .int z) _ _ (hI h a) (hI h b) h4
  rw [e1] at X' step
  have hlt : b < H.size := (Array.getElem?_eq_some_iff.mp hc1).1
  refine (fun z => ?_) (kk (H.setIfInBounds b (vp_cell (gA G 1) (m, .inl (va_cpy (hI h a) (hI h b) sp.toNatClampNeg dp.toNatClampNeg cn.toNatClampNeg)))) _ ls (hp.put hb (by decide) rfl rfl ?_ (fun c hc => rfl) ?_ (by simp) (fun q hq => by simp [Array.getElem?_setIfInBounds, Ne.symm hq]) ?_) ?_ hlv _ (by rw [← hT]; rfl) X')
  · obtain ⟨t, a1, b1⟩ := z
    exact ⟨t, step t a1, b1⟩
  · first | exact (fun c hc => up_ne hc) | exact (fun c hc => rfl)
  · first | exact (fun c hc => rfl) | exact (fun c hc => up_ne hc)
  · unfold hat
    have es : hS (pIs h b (va_cpy (hI h a) (hI h b) sp.toNatClampNeg dp.toNatClampNeg cn.toNatClampNeg)) b = (1, m) := hb
    rw [es, if_neg (show ¬ (1 : Nat) = 0 from fun q => by cases q), harr_i es (Or.inl rfl)]
    rw [Array.getElem?_setIfInBounds, if_pos rfl, if_pos hlt]
    show some (vp_cell _ (m, _)) = some (vp_cell _ (m, _))
    congr 4
    exact (if_pos rfl).symm
  · intro q hq
    rcases List.mem_append.mp hq with h | h
    · exact hl q h
    · obtain ⟨z, -, hz⟩ := List.mem_map.mp h
      rw [← hz]; exact gb1
/-- System.arraycopy between two different arrays -/
theorem r_copyl (C : CX G F M R) {idx a b n m : Nat} {sp dp cn : Int32} (ha : hS h a = (2, n)) (hb : hS h b = (2, m)) (hl1 : Cond.methodLink M.1.cls idx arraycopyName ∈ GW) (hl2 : Cond.native arraycopyName ∈ GW) (hl3 : Cond.static arraycopyName ∈ GW) (hl4 : Cond.initialized "java/lang/System" ∈ GW)
    (h1 : ¬ sp < 0) (h2 : ¬ dp < 0) (h3 : ¬ cn < 0) (h4 : sp.toNatClampNeg + cn.toNatClampNeg ≤ n) (h5 : dp.toNatClampNeg + cn.toNatClampNeg ≤ m) (hf : 1 ≤ R.frames) (hlo : (rest.map fun v => v.category).sum + (nativeFrameWords "java/lang/System" "arraycopy" 5 + 11) ≤ R.locals) (hd : decode M.2.1 pc = .ok (.invokestatic idx, 3))
    (kk : WA G F M (pLs h b (va_cpy (hL h a) (hL h b) sp.toNatClampNeg dp.toNatClampNeg cn.toNatClampNeg)) cells slots Q (pc + 3) lv rest) : WA G F M h cells slots Q pc lv (.int cn :: .int dp :: .ref b :: .int sp :: .ref a :: rest) := by
  intro H locs ls hp hl hlv
  obtain ⟨hx, hbc, hml, hrt, hown, hts, hlk, hnm, hRm, hK⟩ := C
  subst hRm
  have nn : ∀ z : Int32, ¬ z < 0 → z.toInt = (z.toNatClampNeg : Int) := by
    intro z hz
    have hz0 : (0 : Int) ≤ z.toInt := by
      have := Int32.not_lt.mp hz
      simpa using Int32.le_iff_toInt_le.mp this
    show z.toInt = ((z.toInt.toNat : Nat) : Int)
    omega
  obtain ⟨ga1, -, hc0⟩ := hp.arr ha (by decide) (by decide)
  obtain ⟨gb1, -, hc1⟩ := hp.arr hb (by decide) (by decide)
  rw [harr_l ha] at hc0
  rw [harr_l hb] at hc1
  intro T hT X
  obtain ⟨-, k0, hk0, cm0, hkk0⟩ := (K_at hK 1 rfl).1 n (fun j => .long (hL h a j))
  obtain ⟨vm', X', step⟩ := X.arraycopy hx hown (hts _ hl1) (hts _ hl2) (hts _ hl3) (hts _ hl4) (src := a) (dst := b) (cs := vp_cell (gA G 2) (n, .inr (.inl (hL h a)))) (cd := vp_cell (gA G 2) (m, .inr (.inl (hL h b)))) (sType := .long) (dType := .long) (srcPos := sp) (destPos := dp) (n := cn) (by rw [hT]; exact hc0) (by rw [hT]; exact hc1)
    (fun _ h => by cases h) (fun _ h => by cases h) (fun h => by cases h) (fun h => by cases h) hk0 hk0 hkk0 hkk0 rfl h1 h2 h3
    (by rw [nn sp h1, nn cn h3]; show ¬ _ > ((arrV _ n (fun j => .long (hL h a j))).slots.size : Int); rw [arrV_size]; omega)
    (by rw [nn dp h2, nn cn h3]; show ¬ _ > ((arrV _ m (fun j => .long (hL h b j))).slots.size : Int); rw [arrV_size]; omega)
    (fun vm₁ _ i hi => by
      have e : (vp_cell (gA G 2) (n, .inr (.inl (hL h a)))).slots.getD (sp.toNatClampNeg + i) .null = .long (hL h a (sp.toNatClampNeg + i)) := by
        show (arrV _ n (fun j => .long (hL h a j))).slots.getD _ _ = _
        rw [Array.getD_eq_getD_getElem?, arrV_read _ _ (by omega)]
        rfl
      refine ⟨?_, ?_⟩
      · rw [e]; rfl
      · rw [e]; exact trivial)
    (g := F0 (fm F) pc ls (.int cn :: .int dp :: .ref b :: .int sp :: .ref a :: rest)) rfl (by rw [hml]; exact hlv.1) (rest := rest) rfl (by rw [hbc]; exact hd) hf (by show 2 * 0 + _ + _ ≤ _; omega)
  have e1 : copied (vp_cell (gA G 2) (n, .inr (.inl (hL h a)))) (vp_cell (gA G 2) (m, .inr (.inl (hL h b)))) sp dp cn = vp_cell (gA G 2) (m, .inr (.inl (va_cpy (hL h a) (hL h b) sp.toNatClampNeg dp.toNatClampNeg cn.toNatClampNeg))) := va_copied (fun z => .long z) _ _ (hL h a) (hL h b) h4
  rw [e1] at X' step
  have hlt : b < H.size := (Array.getElem?_eq_some_iff.mp hc1).1
  refine (fun z => ?_) (kk (H.setIfInBounds b (vp_cell (gA G 2) (m, .inr (.inl (va_cpy (hL h a) (hL h b) sp.toNatClampNeg dp.toNatClampNeg cn.toNatClampNeg))))) _ ls (hp.put hb (by decide) rfl rfl ?_ (fun c hc => rfl) ?_ (by simp) (fun q hq => by simp [Array.getElem?_setIfInBounds, Ne.symm hq]) ?_) ?_ hlv _ (by rw [← hT]; rfl) X')
  · obtain ⟨t, a1, b1⟩ := z
    exact ⟨t, step t a1, b1⟩
  · first | exact (fun c hc => up_ne hc) | exact (fun c hc => rfl)
  · first | exact (fun c hc => rfl) | exact (fun c hc => up_ne hc)
  · unfold hat
    have es : hS (pLs h b (va_cpy (hL h a) (hL h b) sp.toNatClampNeg dp.toNatClampNeg cn.toNatClampNeg)) b = (2, m) := hb
    rw [es, if_neg (show ¬ (2 : Nat) = 0 from fun q => by cases q), harr_l es]
    rw [Array.getElem?_setIfInBounds, if_pos rfl, if_pos hlt]
    show some (vp_cell _ (m, _)) = some (vp_cell _ (m, _))
    congr 5
    exact (if_pos rfl).symm
  · intro q hq
    rcases List.mem_append.mp hq with h | h
    · exact hl q h
    · obtain ⟨z, -, hz⟩ := List.mem_map.mp h
      rw [← hz]; exact gb1
/-- an int array's clone -/
theorem r_clone (C : CX G F M R) {idx a n : Nat} (ha : hS h a = (1, n)) (hl1 : Cond.methodLink M.1.cls idx ⟨"[I", "clone", "()Ljava/lang/Object;"⟩ ∈ GW) (hl2 : Cond.sameMethod "[I" "java/lang/Object" "clone" "()Ljava/lang/Object;" ∈ GW) (hl3 : Cond.native ⟨"java/lang/Object", "clone", "()Ljava/lang/Object;"⟩ ∈ GW) (hl4 : Cond.instanceMethod ⟨"java/lang/Object", "clone", "()Ljava/lang/Object;"⟩ ∈ GW) (hl5 : Cond.selects "[I" ⟨"[I", "clone", "()Ljava/lang/Object;"⟩ ⟨"java/lang/Object", "clone", "()Ljava/lang/Object;"⟩ ∈ GW) (hl6 : Cond.castable "[I" "java/lang/Cloneable" ∈ NW)
    (hf : 1 ≤ R.frames) (hlo : (rest.map fun v => v.category).sum + 14 ≤ R.locals) (hc : cells + 1 ≤ R.cells) (hsl : slots + n ≤ R.slots) (hd : decode M.2.1 pc = .ok (.invokevirtual idx, 3)) (kk : WA G F M (pIs (hnew h (1, n)) (hN h) (hI h a)) (cells + 1) (slots + n) Q (pc + 3) lv (.ref (hN h) :: rest)) : WA G F M h cells slots Q pc lv (.ref a :: rest) := by
  intro H locs ls hp hl hlv
  obtain ⟨hx, hbc, hml, hrt, hown, hts, hlk, hnm, hRm, hK⟩ := C
  subst hRm
  obtain ⟨ga1, ga2, hc0⟩ := hp.arr ha (by decide) (by decide)
  rw [harr_i ha (Or.inl rfl)] at hc0
  have hnm0 : (fs F).vm.findClass "[I" = some (gA G 1) := (K_at hK 0 rfl).2
  obtain ⟨c0, t0', f1, f2, f3⟩ := Cond.castable_spec (va_Nw.use (A := fa F) rfl (hK.2.1 _ hl6))
  cases hnm0.symm.trans f1
  intro T hT X
  have hcellT : T.heap[a]? = some (vp_cell (gA G 1) (n, .inl (hI h a))) := by rw [hT]; exact hc0
  obtain ⟨-, kA, hkA, comp, hkind⟩ := State.isArrayOf_alike X.warmed.alike ((K_at hK 0 rfl).1 0 (fun _ => .null))
  obtain ⟨-, kS, hkS, compS, hkindS⟩ := (K_at hK 0 rfl).1 0 (fun _ => .null)
  have hsz : (vp_cell (gA G 1) (n, .inl (hI h a))).slots.size = n := arrV_size _ _ _
  obtain ⟨vm', X', st⟩ := X.cloneArray hx hown (hts _ hl1) (hts _ hl2) (hts _ hl3) (hts _ hl4) (hts _ hl5) (a := a) (cell := vp_cell (gA G 1) (n, .inl (hI h a))) hcellT (fun k h => by cases h) (fun h => by cases h) hnm0 f2 f3
    (fun i v hv => by
      have hi : i < n := by
        have := (Array.getElem?_eq_some_iff.mp hv).1
        rw [hsz] at this; exact this
      have hv2 : (arrV (gA G 1) n (fun j => .int (hI h a j))).slots[i]? = some v := hv
      rw [arrV_read _ _ hi] at hv2
      cases hv2
      have hk' : T.vm.classes[gA G 1]? = some kA := hkA
      show T.fitsSlot (gA G 1) .none i _ = true
      simp [State.fitsSlot, State.slotType?, hk', hkind, fits])
    (g := F0 (fm F) pc ls (.ref a :: rest)) rfl (by rw [hml]; exact hlv.1) rfl (by rw [hbc]; exact hd) hf (by show 2 * 0 + _ + 14 ≤ _; omega) hc (by rw [hsz]; exact hsl) (hloader := Vm.clonesLoader_of_array hkS hkindS)
  have hcellE : ({ cls := (vp_cell (gA G 1) (n, .inl (hI h a))).cls, slots := (vp_cell (gA G 1) (n, .inl (hI h a))).slots } : Cell) = vp_cell (gA G 1) (n, .inl (hI h a)) := rfl
  rw [hcellE, hsz] at X'
  have hz := hp.1
  have hnewp : HP G (pIs (hnew h (1, n)) (hN h) (hI h a)) (H.push (vp_cell (gA G 1) (n, .inl (hI h a)))) := by
    refine ⟨by rw [Array.size_push, hz]; rfl, Nat.le_succ_of_le hp.2.1, fun q hq => ?_, fun b hb => ?_⟩
    · rw [Array.getElem?_push, if_neg (by have := hp.2.1; omega)]; exact hp.2.2.1 q hq
    · by_cases hba : b = hN h
      · subst hba
        refine ⟨hp.2.1, Nat.lt_succ_self _, ?_⟩
        have es : hS (pIs (hnew h (1, n)) (hN h) (hI h a)) (hN h) = (1, n) := by
          show hS (hnew h (1, n)) (hN h) = _
          rw [hS_new, if_pos rfl]
        unfold hat
        rw [es, if_neg (show ¬ (1 : Nat) = 0 from fun q => by cases q), harr_i es (Or.inl rfl), ← hz, Array.getElem?_push_size]
        show some (vp_cell _ (n, _)) = some (vp_cell _ (n, _))
        congr 4
        exact (if_pos rfl).symm
      · have es : hS (pIs (hnew h (1, n)) (hN h) (hI h a)) b = hS h b := up_ne hba
        rw [es] at hb
        obtain ⟨b1, b2, b3⟩ := hp.2.2.2 b hb
        exact ⟨b1, Nat.lt_succ_of_lt b2, hat_same es ((up_ne hba).trans (up_ne hba)) (up_ne hba) (up_ne hba) (by rw [Array.getElem?_push, if_neg (by omega)]) b3⟩
  obtain ⟨t, b1, b2⟩ := kk _ locs ls hnewp hl hlv ((T.setVm vm').pushCell (vp_cell (gA G 1) (n, .inl (hI h a)))) (by rw [← hT]; rfl) X'
  refine ⟨t, st t ?_, b2⟩
  rw [hcellE, hT, hz]
  exact b1
end MD2
