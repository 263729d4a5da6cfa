/-! ===== the law: the script, the cell it reads ===== -/
def mL_law (nm : String) : MD := (⟨RL, nm, "([I)Z"⟩, cL_law, 4, ret)
section LW95
variable {G : GP} {F : FX} {M : MD} {R : Room} {h : AH} {cells slots : Nat} {Q : State → Prop} {pc : Nat} {lv : List (Option Value)} {rest : List Value}
theorem sS {H : Heap} {locs : List Loc} (hp : HP G h H) (hl : ∀ q ∈ locs, gb G ≤ q.base) : va_S (fun q => gb G ≤ q) (gH G) H locs := ⟨by rw [hp.1]; exact hp.2.1, fun q hq _ => hp.2.2.1 q hq, hl⟩
theorem r_slen (C : CX G F M R) {b L : Nat} {xs : Nat → Int32} (hX : va_X b L xs (fs F) (gH G)) (hbl : b < gb G) (hd : decode M.2.1 pc = .ok (.arraylength, 1)) (k : WA G F M h cells slots Q (pc + 1) lv (.int (nI L) :: rest)) : WA G F M h cells slots Q pc lv (.ref b :: rest) := fun H locs ls hp hl hlv => va_slen C.1 C.2.1 hX hbl (Nat.not_le.mpr hbl) (sS hp hl) hd (k H locs ls hp hl hlv)
theorem n_sld (C : CX G F M R) {b L i : Nat} {xs : Nat → Int32} (hX : va_X b L xs (fs F) (gH G)) (hbl : b < gb G) (hi : i < L) (hL : L < 2147483648) (hd : decode M.2.1 pc = .ok (.iaload, 1)) (k : WA G F M h cells slots Q (pc + 1) lv (.int (xs i) :: rest)) : WA G F M h cells slots Q pc lv (.int (nI i) :: .ref b :: rest) := fun H locs ls hp hl hlv => va_sld C.1 C.2.1 hX hbl (Nat.not_le.mpr hbl) (sS hp hl) (vp_in_nI hi hL) hd (by rw [nI_clamp (by omega)]; exact k H locs ls hp hl hlv)
end LW95
/-- a contract of a method that reads the script -/
def MAx (G : GP) (b L : Nat) (xs : Nat → Int32) (M : MD) (k mc ms : Nat) (As : List Value) (h : AH) (Q : Option Value → AH → Prop) : Prop :=
  Met (gl G) M.1 (wsM M) (Rm k mc ms) (va_Pc As (fun U => HP G h U.heap ∧ KX G U ∧ va_X b L xs U (gH G))) (QA G Q) mc ms (fun q => gb G ≤ q)
section LW95b
variable {G : GP} {F : FX} {M : MD} {R : Room} {h : AH} {cells slots : Nat} {Q : State → Prop} {pc : Nat} {lv : List (Option Value)} {rest : List Value} {b L : Nat} {xs : Nat → Int32}
theorem MAx.intro {k mc ms : Nat} {As : List Value} {Qa : Option Value → AH → Prop} (hy : plainName M.1.cls = true) (hn : (lg_sl As).length ≤ M.2.2.1) (he : lvE As M.2.2.1 = lv) (body : ∀ F : FX, CX G F M (Rm k mc ms) → va_X b L xs (fs F) (gH G) → WA G F M h 0 0 (MQA G F mc ms Qa) 0 lv []) : MAx G b L xs M k mc ms As h Qa := by
  subst he
  refine Met.ofW (cc := M.2.1) (maxL := M.2.2.1) (ret := M.2.2.2) hy rfl ?_
  intro p e s m args below meth c s₁ B hml hv
  obtain ⟨rfl, hp, hK, hX⟩ := hv
  have hts := atoms_spec (ws := wsM M) B.pre
  have hlv := LV.entry As hn
  rw [lg_entry_eq]
  exact body (p, e, (headSpec (wsM M) (Rm k mc ms)).room, s, m, As.toArray, below, meth, c) ⟨B.exec, B.bytes, hml, B.returns, findClass_of_methodNamed B.named, fun w hw => hts w (List.mem_cons_of_mem _ hw), B.notSynchronized, (name_of_methodNamed B.named B.method).1, rfl, hK⟩ hX s.heap [] _ hp (fun q h => by cases h) hlv
theorem pre_okx {As : List Value} {s : State} {H : Heap} (hK : KX G s) (hX : va_X b L xs s (gH G)) (hp : HP G h H) : PreS s H (va_Pc As (fun U => HP G h U.heap ∧ KX G U ∧ va_X b L xs U (gH G))) As :=
  ⟨fun a U g mk q => ⟨q.1, q.2.1, q.2.2.1.calling, q.2.2.2.moved (u := U) (U := U.calling g mk a) (Vm.Alike.refl U.vm)⟩, fun U hU hW => ⟨rfl, by rw [hU]; exact hp, hK.warm hW, hX.moved hW.alike⟩⟩
theorem cr_Sx (C : CX G F M R) (hX : va_X b L xs (fs F) (gH G)) {D : MD} {k mc ms n idx : Nat} {As st : List Value} {Qc : Option Value → AH → Prop} (hm : MAx G b L xs D k mc ms As h Qc) (hd : decode M.2.1 pc = .ok (.invokestatic idx, 3)) (cm : CM D n) (hln : Cond.methodLink M.1.cls idx D.1 ∈ GW) (hst : Cond.static D.1 ∈ GW) (hro : RO R D k cells slots mc ms) (hn : As.length = n) (hs : st = As.reverse ++ rest) (hw : (rest.map fun v => v.category).sum ≤ 8) : CR G F M h cells slots mc ms pc st rest Qc := by
  intro H locs ls hp hls
  obtain ⟨hx, hb, hml, hrt, hown, hts, hlk, hnm, hRm, hK⟩ := C
  obtain ⟨c1, c2, c3⟩ := cm
  subst hRm
  exact va_runS (nL := M.2.2.1) (Ts := GW) (own := M.1.cls) (As := As) (rest := rest) ⟨hx, hb, hml, hown, hts⟩ hm ⟨callB_of n hts (gin (M := M) c1) rfl rfl rfl (hts _ c2) (hts _ hln) c3 hro.1, hts _ hst⟩ (pre_okx hK hX hp) rfl hn hls hs (lv_room hw) hd hro.2
/-- what cell tells -/
def celN (xs : Nat → Int32) (L k : Nat) : Int32 := if k < L then xs k else nI 0
theorem c_L_cell (hbl : b < gb G) (hL : L < 1000) {k : Nat} (hk : k < 1000) : MAx G b L xs mL_cell 0 0 0 [.ref b, .int (nI k)] h (Oi (fun v h' => v = celN xs L k ∧ h' = h)) := by
  refine MAx.intro (lv := [some (.ref b), some (.int (nI k))]) (by decide) (Nat.le_of_ble_eq_true rfl) rfl (fun F C hX => ?_)
  by_cases hkl : k < L
  · have e0 : celN xs L k = xs k := if_pos hkl
    refine r_iload_n (pc := 0) C dL_cell_0 rfl rfl ?_
    refine r_aload_n (pc := 1) C dL_cell_1 rfl rfl ?_
    refine r_slen (pc := 2) C hX hbl dL_cell_2 ?_
    refine n_icmp_ge (pc := 3) (tgt := 12) C (by omega) (by omega) dL_cell_3 (by decide) (fun c3 => absurd c3 (by omega)) (fun c3 => ?_)
    refine r_aload_n (pc := 6) C dL_cell_6 rfl rfl ?_
    refine r_iload_n (pc := 7) C dL_cell_7 rfl rfl ?_
    refine n_sld (pc := 8) C hX hbl (by omega) (by omega) dL_cell_8 ?_
    refine r_goto (pc := 9) (tgt := 13) C dL_cell_9 (by decide) ?_
    exact r_iret (pc := 13) C rfl (Nat.le_of_ble_eq_true rfl) (Nat.le_of_ble_eq_true rfl) ⟨_, rfl, ⟨e0.symm, rfl⟩⟩ dL_cell_13
  · have e0 : celN xs L k = nI 0 := if_neg hkl
    refine r_iload_n (pc := 0) C dL_cell_0 rfl rfl ?_
    refine r_aload_n (pc := 1) C dL_cell_1 rfl rfl ?_
    refine r_slen (pc := 2) C hX hbl dL_cell_2 ?_
    refine n_icmp_ge (pc := 3) (tgt := 12) C (by omega) (by omega) dL_cell_3 (by decide) (fun c3 => ?_) (fun c3 => absurd c3 (by omega))
    refine r_iconst (pc := 12) (v := (nI 0)) C dL_cell_12 (by decide) ?_
    exact r_iret (pc := 13) C rfl (Nat.le_of_ble_eq_true rfl) (Nat.le_of_ble_eq_true rfl) ⟨_, rfl, ⟨e0.symm, rfl⟩⟩ dL_cell_13
end LW95b
/-- the words of the tables make the classes known -/
theorem KX_of {l : Launch} {s : State} {b : Nat} (hts : ∀ w ∈ lw_tbl, w.before #[Value.ref b] s = true) : ∃ (gC : Nat → ClassId) (gI : Nat → Nat → Nat) (gA : Nat → ClassId), KX (l, gC, gI, gA, s.heap) s := by
  have hg : ∀ w ∈ GW, w.before #[Value.ref b] s = true := fun w hw => hts w (List.mem_filter.mp hw).1
  have hk7 : ∀ ci, ci < 7 → ∃ (cC : ClassId) (iS : Nat → Nat), u_Kn s (fT ci).1 (fT ci).2.1 (fT ci).2.2.1 cC iS := fun ci h => by
    have hi : (Cond.instantiable (fT ci).1 (fT ci).2.2.1).before #[Value.ref b] s = true := by
      rcases (show ci = 0 ∨ ci = 1 ∨ ci = 2 ∨ ci = 3 ∨ ci = 4 ∨ ci = 5 ∨ ci = 6 by omega) with rfl | rfl | rfl | rfl | rfl | rfl | rfl
      · exact hg _ ins_0
      · exact hg _ ins_1
      · exact hg _ ins_2
      · exact hg _ ins_3
      · exact hg _ ins_4
      · exact hg _ ins_5
      · exact hg _ ins_6
    exact u_known hg (fw ci h).1 hi
  have hkn : ∀ ci, ∃ (cC : ClassId) (iS : Nat → Nat), ci < 7 → u_Kn s (fT ci).1 (fT ci).2.1 (fT ci).2.2.1 cC iS := fun ci => by
    by_cases h : ci < 7
    · obtain ⟨cC, iS, hk⟩ := hk7 ci h
      exact ⟨cC, iS, fun _ => hk⟩
    · obtain ⟨cC, iS, hk⟩ := hk7 0 (by decide)
      exact ⟨cC, iS, fun z => absurd z h⟩
  have hpr : ∀ ty : FieldType, (ty = .int ∨ ty = .long ∨ ty = .boolean) → ∃ cA : ClassId, ArrOfT s cA ty ∧ va_RA s cA ty := fun ty hty => by
    have hw : (Cond.arrayClass ty).before #[Value.ref b] s = true := by
      rcases hty with rfl | rfl | rfl
      · exact hg _ ac_int
      · exact hg _ ac_long
      · exact hg _ ac_boolean
    obtain ⟨c, k, comp, h1, h2, h3⟩ := Cond.arrayClass_spec hw
    refine ⟨c, fun n z => ?_, ?_⟩
    · exact ⟨fun q => (fun w => by cases w), k, h2, comp, h3⟩
    · rcases hty with rfl | rfl | rfl <;> exact h1
  have hob : ∀ C : String, va_AO C s → ∃ cA : ClassId, ArrOfT s cA (.object C) ∧ va_RA s cA (.object C) := fun C hw => by
    obtain ⟨comp, c, k, h1, h2, h3, h4, h5⟩ := Cond.arrayOver_spec hw
    exact ⟨c, fun n z => ⟨fun q => (fun w => by cases w), k, h3, comp, h4⟩, ⟨k, comp, h3, h4, h1, h5⟩⟩
  have o0 : va_AO RX0 s := va_AO.of (hts (.arrayOver (.object RX0)) (by decide +kernel))
  have o2 : va_AO RX2 s := va_AO.of (hts (.arrayOver (.object RX2)) (by decide +kernel))
  have o4 : va_AO RX4 s := va_AO.of (hts (.arrayOver (.object RX4)) (by decide +kernel))
  obtain ⟨c1, a1⟩ := hpr .int (Or.inl rfl)
  obtain ⟨c2, a2⟩ := hpr .long (Or.inr (Or.inl rfl))
  obtain ⟨c3, a3⟩ := hpr .boolean (Or.inr (Or.inr rfl))
  obtain ⟨c4, a4⟩ := hob RX0 o0
  obtain ⟨c5, a5⟩ := hob RX2 o2
  obtain ⟨c6, a6⟩ := hob RX4 o4
  refine ⟨fun ci => Classical.choose (hkn ci), fun ci => Classical.choose (Classical.choose_spec (hkn ci)), fun k => if k = 1 then c1 else if k = 2 then c2 else if k = 3 then c3 else if k = 4 then c4 else if k = 5 then c5 else c6, ⟨fun ci q hq => ?_, fun k q hq => ?_⟩, fun w hw => ?_, o0, o2, o4⟩
  · have hci : ci < 7 := (List.getElem?_eq_some_iff.mp hq).1
    have e : q = ((fT ci).1, (fT ci).2.1, (fT ci).2.2.1) := Option.some.inj (hq.symm.trans (fw ci hci).2.2.2)
    rw [e]
    exact Classical.choose_spec (Classical.choose_spec (hkn ci)) hci
  · have hk : k < 6 := (List.getElem?_eq_some_iff.mp hq).1
    rcases (show k = 0 ∨ k = 1 ∨ k = 2 ∨ k = 3 ∨ k = 4 ∨ k = 5 by omega) with rfl | rfl | rfl | rfl | rfl | rfl
    · cases hq; exact a1
    · cases hq; exact a2
    · cases hq; exact a3
    · cases hq; exact a4
    · cases hq; exact a5
    · cases hq; exact a6
  · have hn := (List.mem_filter.mp hw).2
    refine va_Nw.of ?_ (hts w (List.mem_filter.mp hw).1)
    cases w <;> first | rfl | (simp [isNest] at hn; done)
