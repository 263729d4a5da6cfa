/-! ===== a method's beginning and end; calls; new cells ===== -/
section MC
variable {G : GP} {F : FX} {M : MD} {R : Room} {h : AH} {cells slots : Nat} {Q : State → Prop} {pc : Nat} {lv lv' : List (Option Value)} {rest : List Value}
theorem MA.intro {k mc ms : Nat} {As : List Value} {Qa : Option Value → AH → Prop} (hy : plainName M.1.cls = true) (hn : (lg_sl As).length ≤ M.2.2.1) (he : lvE As M.2.2.1 = lv) (body : ∀ F : FX, CX G F M (Rm k mc ms) → WA G F M h 0 0 (MQA G F mc ms Qa) 0 lv []) : MA G M k mc ms As h Qa := by
  subst he
  refine Met.ofW (cc := M.2.1) (maxL := M.2.2.1) (ret := M.2.2.2) hy rfl ?_
  intro p e s m args below meth c s₁ B hml hv
  obtain ⟨rfl, hp, hK⟩ := hv
  have hts := atoms_spec (ws := wsM M) B.pre
  have hlv := LV.entry As hn
  rw [lg_entry_eq]
  exact body (p, e, (headSpec (wsM M) (Rm k mc ms)).room, s, m, As.toArray, below, meth, c) ⟨B.exec, B.bytes, hml, B.returns, findClass_of_methodNamed B.named, fun w hw => hts w (List.mem_cons_of_mem _ hw), B.notSynchronized, (name_of_methodNamed B.named B.method).1, rfl, hK⟩ s.heap [] _ hp (fun q h => by cases h) hlv
theorem MA.mono {k mc ms : Nat} {As : List Value} {Qa Qb : Option Value → AH → Prop} (hm : MA G M k mc ms As h Qa) (hq : ∀ r h', Qa r h' → Qb r h') : MA G M k mc ms As h Qb := by
  unfold MA Met at hm ⊢
  intro p e ha hc hk s m args below hf happ hP hK
  obtain ⟨a, o, h1, h2, h3, ⟨r, h', e1, e2, e3⟩, h5⟩ := hm p e ha hc hk s m args below hf happ hP hK
  exact ⟨a, o, h1, h2, h3, ⟨r, h', e1, e2, hq r h' e3⟩, h5⟩
/-- ends: the answer's kind is the method's -/
theorem r_iret (C : CX G F M R) {mc ms : Nat} {Qa : Option Value → AH → Prop} {v : Int32} (hr : M.2.2.2 = some .int) (hc : cells ≤ mc) (hs : slots ≤ ms) (hq : Qa (some (.int v)) h) (hd : decode M.2.1 pc = .ok (.ireturn, 1)) : WA G F M h cells slots (MQA G F mc ms Qa) pc lv [.int v] := fun H locs ls hp hl hlv => W.widen hc hs (W.iret (v := v) C.1 C.2.1 (C.2.2.2.1.trans hr) (fun t ht hW => ⟨_, h, rfl, by rw [ht]; exact hp, hq⟩) hl hd C.2.2.2.2.2.2.1)
theorem r_zret (C : CX G F M R) {mc ms : Nat} {Qa : Option Value → AH → Prop} {v : Int32} (hr : M.2.2.2 = some .boolean) (hv : v = 0 ∨ v = 1) (hc : cells ≤ mc) (hs : slots ≤ ms) (hq : Qa (some (.int v)) h) (hd : decode M.2.1 pc = .ok (.ireturn, 1)) : WA G F M h cells slots (MQA G F mc ms Qa) pc lv [.int v] := fun H locs ls hp hl hlv => W.widen hc hs (W.zret (v := v) (ty := .boolean) C.1 C.2.1 (C.2.2.2.1.trans hr) (by rcases hv with rfl | rfl <;> rfl) (fun t ht hW => ⟨_, h, rfl, by rw [ht]; exact hp, hq⟩) hl hd C.2.2.2.2.2.2.1)
theorem r_lret (C : CX G F M R) {mc ms : Nat} {Qa : Option Value → AH → Prop} {v : Int64} (hr : M.2.2.2 = some .long) (hc : cells ≤ mc) (hs : slots ≤ ms) (hq : Qa (some (.long v)) h) (hd : decode M.2.1 pc = .ok (.lreturn, 1)) : WA G F M h cells slots (MQA G F mc ms Qa) pc lv [.long v] := fun H locs ls hp hl hlv => W.widen hc hs (W.lret (v := v) C.1 C.2.1 (C.2.2.2.1.trans hr) (fun t ht hW => ⟨_, h, rfl, by rw [ht]; exact hp, hq⟩) hl hd C.2.2.2.2.2.2.1)
theorem r_vret (C : CX G F M R) {mc ms : Nat} {Qa : Option Value → AH → Prop} (hr : M.2.2.2 = none) (hc : cells ≤ mc) (hs : slots ≤ ms) (hq : Qa none h) (hd : decode M.2.1 pc = .ok (.return_, 1)) : WA G F M h cells slots (MQA G F mc ms Qa) pc lv [] := fun H locs ls hp hl hlv => W.widen hc hs (W.vret C.1 C.2.1 (C.2.2.2.1.trans hr) (fun t ht hW => ⟨_, h, rfl, by rw [ht]; exact hp, hq⟩) hl hd C.2.2.2.2.2.2.1)
theorem r_aret (C : CX G F M R) {mc ms : Nat} {Qa : Option Value → AH → Prop} {o : Option Nat} {rt : FieldType} (hr : M.2.2.2 = some rt) (hrt : (∃ n, rt = .object n) ∨ ∃ t, rt = .array t) (hc : cells ≤ mc) (hs : slots ≤ ms) (hq : Qa (some (va_rf o)) h) (hd : decode M.2.1 pc = .ok (.areturn, 1)) : WA G F M h cells slots (MQA G F mc ms Qa) pc lv [va_rf o] := fun H locs ls hp hl hlv => W.widen hc hs (W.aret (v := va_rf o) C.1 C.2.1 (C.2.2.2.1.trans hr) hrt (by cases o with | none => exact Or.inl rfl | some a => exact Or.inr ⟨a, rfl⟩) (fun t ht hW => ⟨_, h, rfl, by rw [ht]; exact hp, hq⟩) hl hd C.2.2.2.2.2.2.1)
/-- a call that goes from h to where Qc holds -/
def CR (G : GP) (F : FX) (M : MD) (h : AH) (cells slots mc ms pc : Nat) (st rest : List Value) (Qc : Option Value → AH → Prop) : Prop :=
  ∀ (H : Heap) (locs : List Loc) (ls : Array Slot), HP G h H → ls.size = M.2.2.1 → va_Run (fp F) (gl G) (fe F) (fr F) (fs F) (fm F) (fa F) (fb F) (fh F) (fc F) H locs cells slots mc ms (F0 (fm F) pc ls st) rest (QA G Qc #[]) (fun q => gb G ≤ q)
theorem r_call {mc ms : Nat} {st : List Value} {Qc : Option Value → AH → Prop} (hr : CR G F M h cells slots mc ms pc st rest Qc) (kk : ∀ r h', Qc r h' → WA G F M h' (cells + mc) (slots + ms) Q (pc + 3) lv (r.toList ++ rest)) : WA G F M h cells slots Q pc lv st := by
  intro H locs ls hp hl hlv T hT X
  obtain ⟨v, st₀, t, T', L, h0, X', hL, e1, e2, ⟨r, h', hv, hh, hq⟩, st⟩ := hr H locs ls hp hlv.1 T hT X
  cases hv
  obtain ⟨t2, a1, b1⟩ := kk v h' hq T'.heap (locs ++ L) ls (by rw [e1]; exact hh) (fun q hq => by
      rcases List.mem_append.mp hq with h | h
      · exact hl q h
      · exact hL q h) hlv T' rfl X'
  exact ⟨t2, st t2 a1, b1⟩
def Oi (q : Int32 → AH → Prop) : Option Value → AH → Prop := fun r h' => ∃ v : Int32, r = some (.int v) ∧ q v h'
def Ol (q : Int64 → AH → Prop) : Option Value → AH → Prop := fun r h' => ∃ v : Int64, r = some (.long v) ∧ q v h'
def Ov (q : AH → Prop) : Option Value → AH → Prop := fun r h' => r = none ∧ q h'
def Oq (q : Option Nat → AH → Prop) : Option Value → AH → Prop := fun r h' => ∃ o : Option Nat, r = some (va_rf o) ∧ q o h'
theorem r_calli {mc ms : Nat} {st : List Value} {q : Int32 → AH → Prop} (hr : CR G F M h cells slots mc ms pc st rest (Oi q)) (kk : ∀ (v : Int32) (h' : AH), q v h' → WA G F M h' (cells + mc) (slots + ms) Q (pc + 3) lv (.int v :: rest)) : WA G F M h cells slots Q pc lv st := r_call hr fun r h' hq => by
  obtain ⟨v, rfl, hq⟩ := hq
  exact kk v h' hq
theorem r_calll {mc ms : Nat} {st : List Value} {q : Int64 → AH → Prop} (hr : CR G F M h cells slots mc ms pc st rest (Ol q)) (kk : ∀ (v : Int64) (h' : AH), q v h' → WA G F M h' (cells + mc) (slots + ms) Q (pc + 3) lv (.long v :: rest)) : WA G F M h cells slots Q pc lv st := r_call hr fun r h' hq => by
  obtain ⟨v, rfl, hq⟩ := hq
  exact kk v h' hq
theorem r_callv {mc ms : Nat} {st : List Value} {q : AH → Prop} (hr : CR G F M h cells slots mc ms pc st rest (Ov q)) (kk : ∀ (h' : AH), q h' → WA G F M h' (cells + mc) (slots + ms) Q (pc + 3) lv rest) : WA G F M h cells slots Q pc lv st := r_call hr fun r h' hq => by
  obtain ⟨rfl, hq⟩ := hq
  exact kk h' hq
theorem r_callq {mc ms : Nat} {st : List Value} {q : Option Nat → AH → Prop} (hr : CR G F M h cells slots mc ms pc st rest (Oq q)) (kk : ∀ (o : Option Nat) (h' : AH), q o h' → WA G F M h' (cells + mc) (slots + ms) Q (pc + 3) lv (va_rf o :: rest)) : WA G F M h cells slots Q pc lv st := r_call hr fun r h' hq => by
  obtain ⟨v, rfl, hq⟩ := hq
  exact kk v h' hq
/-- what the tables say of a method that is called -/
def CM (D : MD) (n : Nat) : Prop := Cond.code D.1 D.2.1 D.2.2.1 D.2.2.2 ∈ GW ∧ Cond.initialized D.1.cls ∈ GW ∧ (D.1.cls ≠ "java/lang/invoke/MethodHandle" ∧ D.1.cls ≠ "java/lang/invoke/VarHandle" ∧ (parseMethodDescriptor D.1.desc).map (fun d => d.parameters.length) = some n)
theorem gin {M D : MD} (h : Cond.code D.1 D.2.1 D.2.2.1 D.2.2.2 ∈ GW) : GoodIn GW (wsM D) := fun w hw => by
  rcases List.mem_cons.mp hw with e | e
  · subst e; exact ⟨h, gw_good h⟩
  · exact ⟨e, gw_good e⟩
/-- there is room for a callee of level k -/
def RO (R : Room) (D : MD) (k cells slots mc ms : Nat) : Prop := (k + 1 ≤ R.frames ∧ 8 + (D.2.2.1 + 11) + 38 * k ≤ R.locals) ∧ cells + mc ≤ R.cells ∧ slots + ms ≤ R.slots
theorem pre_ok {As : List Value} {s : State} {H : Heap} (hK : KX G s) (hp : HP G h H) : PreS s H (va_Pc As (fun U => HP G h U.heap ∧ KX G U)) As :=
  ⟨fun a U g mk q => ⟨q.1, q.2.1, q.2.2.calling⟩, fun U hU hW => ⟨rfl, by rw [hU]; exact hp, hK.warm hW⟩⟩
theorem cr_S (C : CX G F M R) {D : MD} {k mc ms n idx : Nat} {As st : List Value} {Qc : Option Value → AH → Prop} (hm : MA G D k mc ms As h Qc) (hd : decode M.2.1 pc = .ok (.invokestatic idx, 3)) (cm : CM D n) (hln : Cond.methodLink M.1.cls idx D.1 ∈ GW) (hst : Cond.static D.1 ∈ GW) (hro : RO R D k cells slots mc ms) (hn : As.length = n) (hs : st = As.reverse ++ rest) (hw : (rest.map fun v => v.category).sum ≤ 8) : CR G F M h cells slots mc ms pc st rest Qc := by
  intro H locs ls hp hls
  obtain ⟨hx, hb, hml, hrt, hown, hts, hlk, hnm, hRm, hK⟩ := C
  obtain ⟨c1, c2, c3⟩ := cm
  subst hRm
  exact va_runS (nL := M.2.2.1) (Ts := GW) (own := M.1.cls) (As := As) (rest := rest) ⟨hx, hb, hml, hown, hts⟩ hm ⟨callB_of n hts (gin (M := M) c1) rfl rfl rfl (hts _ c2) (hts _ hln) c3 hro.1, hts _ hst⟩ (pre_ok hK hp) rfl hn hls hs (lv_room hw) hd hro.2
theorem cr_SN (C : CX G F M R) {D : MD} {k mc ms n idx : Nat} {As st : List Value} {Qc : Option Value → AH → Prop} (hm : MA G D k mc ms As h Qc) (hd : decode M.2.1 pc = .ok (.invokestatic idx, 3)) (cm : CM D n) (hln : Cond.methodLinkNest M.1.cls idx D.1 "LooseMarks" ∈ NW) (hst : Cond.static D.1 ∈ GW) (hro : RO R D k cells slots mc ms) (hn : As.length = n) (hs : st = As.reverse ++ rest) (hw : (rest.map fun v => v.category).sum ≤ 8) : CR G F M h cells slots mc ms pc st rest Qc := by
  intro H locs ls hp hls
  obtain ⟨hx, hb, hml, hrt, hown, hts, hlk, hnm, hRm, hK⟩ := C
  obtain ⟨c1, c2, c3⟩ := cm
  subst hRm
  exact va_runSN (nL := M.2.2.1) (Ts := GW) (own := M.1.cls) (As := As) (rest := rest) ⟨hx, hb, hml, hown, hts⟩ hm ⟨va_cnB n hts (gin (M := M) c1) rfl rfl rfl (hK.2.1 _ hln) (hts _ c2) c3 hro.1, hts _ hst, trivial⟩ (pre_ok hK hp) rfl hn hls hs (lv_room hw) hd hro.2
theorem cr_I (C : CX G F M R) {D : MD} {k mc ms n idx b : Nat} {As st : List Value} {Qc : Option Value → AH → Prop} (hm : MA G D k mc ms (.ref b :: As) h Qc) (hd : decode M.2.1 pc = .ok (.invokespecial idx, 3)) (cm : CM D n) (hret : D.2.2.2 = none) (hnm : D.1.name = "<init>") (hln : Cond.methodLink M.1.cls idx D.1 ∈ GW) (hst : Cond.instanceMethod D.1 ∈ GW) (hro : RO R D k cells slots mc ms) (hn : As.length = n) (hs : st = As.reverse ++ .ref b :: rest) (hw : (rest.map fun v => v.category).sum ≤ 8) : CR G F M h cells slots mc ms pc st rest Qc := by
  intro H locs ls hp hls
  obtain ⟨hx, hb, hml, hrt, hown, hts, hlk, hnm', hRm, hK⟩ := C
  obtain ⟨c1, c2, c3⟩ := cm
  subst hRm
  have hw0 : wsM D = Cond.code D.1 D.2.1 D.2.2.1 none :: GW := by rw [← hret]
  exact va_runI (nL := M.2.2.1) (Ts := GW) (own := M.1.cls) (As := As) (rest := rest) ⟨hx, hb, hml, hown, hts⟩ hm ⟨callB_of n hts (gin (M := M) c1) hw0 rfl rfl (hts _ c2) (hts _ hln) c3 hro.1, hnm, hts _ hst⟩ (pre_ok hK hp) rfl hn hls hs (lv_room hw) hd hro.2
theorem cr_IN (C : CX G F M R) {D : MD} {k mc ms n idx b : Nat} {As st : List Value} {Qc : Option Value → AH → Prop} (hm : MA G D k mc ms (.ref b :: As) h Qc) (hd : decode M.2.1 pc = .ok (.invokespecial idx, 3)) (cm : CM D n) (hret : D.2.2.2 = none) (hnm : D.1.name = "<init>") (hln : Cond.methodLinkNest M.1.cls idx D.1 "LooseMarks" ∈ NW) (hst : Cond.instanceMethod D.1 ∈ GW) (hro : RO R D k cells slots mc ms) (hn : As.length = n) (hs : st = As.reverse ++ .ref b :: rest) (hw : (rest.map fun v => v.category).sum ≤ 8) : CR G F M h cells slots mc ms pc st rest Qc := by
  intro H locs ls hp hls
  obtain ⟨hx, hb, hml, hrt, hown, hts, hlk, hnm', hRm, hK⟩ := C
  obtain ⟨c1, c2, c3⟩ := cm
  subst hRm
  have hw0 : wsM D = Cond.code D.1 D.2.1 D.2.2.1 none :: GW := by rw [← hret]
  exact va_runIN (nL := M.2.2.1) (Ts := GW) (own := M.1.cls) (As := As) (rest := rest) ⟨hx, hb, hml, hown, hts⟩ hm ⟨va_cnB n hts (gin (M := M) c1) hw0 rfl rfl (hK.2.1 _ hln) (hts _ c2) c3 hro.1, hnm, hts _ hst⟩ (pre_ok hK hp) rfl hn hls hs (lv_room hw) hd hro.2
theorem recv_ok {s : State} {H : Heap} (hK : KX G s) (hp : HP G h H) {b ci : Nat} (hs : hS h b = (0, ci)) {Cn : String} (hC : (fT ci).1 = Cn) : ∃ cell : Cell, H[b]? = some cell ∧ cell.vm.isStatics = false ∧ s.vm.findClass Cn = some cell.cls := by
  obtain ⟨-, -, hci, cell, g1, g2, g3, -⟩ := hp.obj hs
  exact ⟨cell, g1, by rw [g3]; rfl, by rw [g2, ← hC]; exact (hK.1.1 ci _ (fw ci hci).2.2.2).2.1⟩
theorem cr_V (C : CX G F M R) {D : MD} {k mc ms n idx b ci : Nat} {As st : List Value} {Qc : Option Value → AH → Prop} (hm : MA G D k mc ms (.ref b :: As) h Qc) (hd : decode M.2.1 pc = .ok (.invokevirtual idx, 3)) (cm : CM D n) (hln : Cond.methodLink M.1.cls idx D.1 ∈ GW) (hst : Cond.instanceMethod D.1 ∈ GW) (hse : Cond.selects D.1.cls D.1 D.1 ∈ GW) (hb : hS h b = (0, ci)) (hC : (fT ci).1 = D.1.cls) (hro : RO R D k cells slots mc ms) (hn : As.length = n) (hs : st = As.reverse ++ .ref b :: rest) (hw : (rest.map fun v => v.category).sum ≤ 8) : CR G F M h cells slots mc ms pc st rest Qc := by
  intro H locs ls hp hls
  obtain ⟨hx, hb', hml, hrt, hown, hts, hlk, hnm, hRm, hK⟩ := C
  obtain ⟨c1, c2, c3⟩ := cm
  subst hRm
  have hpre := pre_ok (G := G) (As := .ref b :: As) hK hp
  exact va_runV (nL := M.2.2.1) (Ts := GW) (own := M.1.cls) (C := D.1.cls) (As := As) (rest := rest) ⟨hx, hb', hml, hown, hts⟩ hm ⟨callB_of n hts (gin (M := M) c1) rfl rfl rfl (hts _ c2) (hts _ hln) c3 hro.1, hts _ hst, hts _ hse⟩ ⟨hpre.1, recv_ok hK hp hb hC, hpre.2⟩ rfl hn hls hs (lv_room hw) hd hro.2
/-- Object's constructor -/
theorem r_objInit (C : CX G F M R) {idx a : Nat} (hl1 : Cond.methodLink M.1.cls idx Lib.objectInit ∈ GW) (hl2 : Cond.instanceMethod Lib.objectInit ∈ GW) (hl3 : Cond.code Lib.objectInit ⟨#[0xb1]⟩ 1 none ∈ GW) (hf : 1 ≤ R.frames) (hlo : (rest.map fun v => v.category).sum + 12 ≤ R.locals) (hd : decode M.2.1 pc = .ok (.invokespecial idx, 3)) (kk : WA G F M h cells slots Q (pc + 3) lv rest) : WA G F M h cells slots Q pc lv (.ref a :: rest) := by
  intro H locs ls hp hl hlv
  obtain ⟨hx, hb, hml, hrt, hown, hts, hlk, hnm, hRm, hK⟩ := C
  subst hRm
  exact W.objInit hx hb hown (hts _ hl1) (hts _ hl2) (hts _ hl3) rfl (by rw [hml]; exact hlv.1) rfl hd hf (by show 2 * 0 + _ + 12 ≤ _; omega) (kk H locs ls hp hl hlv)
/-- a new object -/
theorem r_new (C : CX G F M R) {idx ci : Nat} (hci : ci < 7) (hl1 : Cond.classLink M.1.cls idx (fT ci).1 ∈ GW) (hl2 : Cond.instantiable (fT ci).1 (fT ci).2.2.1 ∈ GW) (hl3 : Cond.initialized (fT ci).1 ∈ GW) (hdf : ∀ j, j < (fT ci).2.2.1 → defaultValue ((fT ci).2.2.2 j) = if fR ci j = true then .null else .int 0) (hc : cells + 1 ≤ R.cells) (hsl : slots + (fT ci).2.2.1 ≤ R.slots) (hd : decode M.2.1 pc = .ok (.new idx, 3)) (kk : WA G F M (hnew h (0, ci)) (cells + 1) (slots + (fT ci).2.2.1) Q (pc + 3) lv (.ref (hN h) :: rest)) : WA G F M h cells slots Q pc lv rest := by
  intro H locs ls hp hl hlv
  obtain ⟨hx, hb, hml, hrt, hown, hts, hlk, hnm, hRm, hK⟩ := C
  subst hRm
  obtain ⟨w1, w2, w3, w4⟩ := fw ci hci
  have hKn := hK.1.1 ci _ w4
  refine W.newcK hx hb hown (hts _ hl1) (hts _ hl2) (hts _ hl3) rfl hd hc hsl hKn.2.1 hp.1 fun H1 kC hkC e1 z1 o1 => ?_
  refine kk H1 locs ls (hp.new z1 o1 ?_) hl hlv
  unfold hat
  have es : hS (hnew h (0, ci)) (hN h) = (0, ci) := by rw [hS_new, if_pos rfl]
  rw [es]
  refine ⟨hci, (u_born _ hts w1 hKn hkC e1 w2).to fun j hj => ?_⟩
  show defaultValue ((fT ci).2.2.2 j) = _
  rw [hdf j hj]
  unfold hval
  rw [hR_new, hI_new, if_pos rfl, if_pos rfl]
  rfl
theorem new_arr_i {h : AH} {k N : Nat} (hk : k = 1 ∨ k = 3) : harr (hnew h (k, N)) (hN h) = (N, .inl (fun _ => 0)) := by
  have es : hS (hnew h (k, N)) (hN h) = (k, N) := by rw [hS_new, if_pos rfl]
  have ei : hI (hnew h (k, N)) (hN h) = fun _ => 0 := by funext j; rw [hI_new, if_pos rfl]
  rw [harr_i es hk, ei]
theorem new_arr_l {h : AH} {N : Nat} : harr (hnew h (2, N)) (hN h) = (N, .inr (.inl (fun _ => 0))) := by
  have es : hS (hnew h (2, N)) (hN h) = (2, N) := by rw [hS_new, if_pos rfl]
  have ei : hL (hnew h (2, N)) (hN h) = fun _ => 0 := by funext j; rw [hL_new, if_pos rfl]
  rw [harr_l es, ei]
theorem new_arr_q {h : AH} {k N : Nat} (hk : 4 ≤ k) : harr (hnew h (k, N)) (hN h) = (N, .inr (.inr (.inr (.inr (fun _ => none))))) := by
  have es : hS (hnew h (k, N)) (hN h) = (k, N) := by rw [hS_new, if_pos rfl]
  have ei : hR (hnew h (k, N)) (hN h) = fun _ => none := by funext j; rw [hR_new, if_pos rfl]
  rw [harr_q es hk, ei]
theorem hat_new_arr {G : GP} {h : AH} {k N : Nat} {H1 : Heap} (h0 : k ≠ 0) (hh : H1[hN h]? = some (vp_cell (gA G k) (harr (hnew h (k, N)) (hN h)))) : hat G (hnew h (k, N)) (hN h) H1 := by
  have es : hS (hnew h (k, N)) (hN h) = (k, N) := by rw [hS_new, if_pos rfl]
  unfold hat
  rw [es]
  show if k = 0 then _ else _
  rw [if_neg h0]
  exact hh
theorem nI_nn {N : Nat} (hNb : N ≤ 100000) : ¬ nI N < 0 ∧ (nI N).toNatClampNeg = N := ⟨nI_pos (by omega), nI_clamp (by omega)⟩
theorem r_newai (C : CX G F M R) {n : Int32} {N : Nat} (hl0 : Cond.arrayClass .int ∈ GW) (hn : n = nI N) (hNb : N ≤ 100000) (hc : cells + 1 ≤ R.cells) (hsl : slots + N ≤ R.slots) (hd : decode M.2.1 pc = .ok (.newarray .int, 2)) (kk : WA G F M (hnew h (1, N)) (cells + 1) (slots + N) Q (pc + 2) lv (.ref (hN h) :: rest)) : WA G F M h cells slots Q pc lv (.int n :: rest) := by
  intro H locs ls hp hl hlv
  obtain ⟨hx, hb, hml, hrt, hown, hts, hlk, hnm, hRm, hK⟩ := C
  subst hRm
  subst hn
  refine va_newaK (atype := .int) hx hb (hts _ hl0) rfl hd rfl (nI_nn hNb).1 (nI_nn hNb).2 (by show N * 4 ≤ _; omega) hc hsl hp.1 fun H1 cA e1 z1 o1 hAr hNm => ?_
  have hcA : cA = gA G 1 := Option.some.inj (hNm.symm.trans (K_at hK 0 rfl).2)
  subst hcA
  refine kk H1 locs ls (hp.new z1 o1 (hat_new_arr (by decide) ?_)) hl hlv
  rw [new_arr_i (Or.inl rfl), e1]
  rfl
theorem r_newaz (C : CX G F M R) {n : Int32} {N : Nat} (hl0 : Cond.arrayClass .boolean ∈ GW) (hn : n = nI N) (hNb : N ≤ 100000) (hc : cells + 1 ≤ R.cells) (hsl : slots + N ≤ R.slots) (hd : decode M.2.1 pc = .ok (.newarray .boolean, 2)) (kk : WA G F M (hnew h (3, N)) (cells + 1) (slots + N) Q (pc + 2) lv (.ref (hN h) :: rest)) : WA G F M h cells slots Q pc lv (.int n :: rest) := by
  intro H locs ls hp hl hlv
  obtain ⟨hx, hb, hml, hrt, hown, hts, hlk, hnm, hRm, hK⟩ := C
  subst hRm
  subst hn
  refine va_newaK (atype := .boolean) hx hb (hts _ hl0) rfl hd rfl (nI_nn hNb).1 (nI_nn hNb).2 (by show N * 1 ≤ _; omega) hc hsl hp.1 fun H1 cA e1 z1 o1 hAr hNm => ?_
  have hcA : cA = gA G 3 := Option.some.inj (hNm.symm.trans (K_at hK 2 rfl).2)
  subst hcA
  refine kk H1 locs ls (hp.new z1 o1 (hat_new_arr (by decide) ?_)) hl hlv
  rw [new_arr_i (Or.inr rfl), e1]
  rfl
theorem r_newal (C : CX G F M R) {n : Int32} {N : Nat} (hl0 : Cond.arrayClass .long ∈ GW) (hn : n = nI N) (hNb : N ≤ 100000) (hc : cells + 1 ≤ R.cells) (hsl : slots + N ≤ R.slots) (hd : decode M.2.1 pc = .ok (.newarray .long, 2)) (kk : WA G F M (hnew h (2, N)) (cells + 1) (slots + N) Q (pc + 2) lv (.ref (hN h) :: rest)) : WA G F M h cells slots Q pc lv (.int n :: rest) := by
  intro H locs ls hp hl hlv
  obtain ⟨hx, hb, hml, hrt, hown, hts, hlk, hnm, hRm, hK⟩ := C
  subst hRm
  subst hn
  refine va_newaK (atype := .long) hx hb (hts _ hl0) rfl hd rfl (nI_nn hNb).1 (nI_nn hNb).2 (by show N * 8 ≤ _; omega) hc hsl hp.1 fun H1 cA e1 z1 o1 hAr hNm => ?_
  have hcA : cA = gA G 2 := Option.some.inj (hNm.symm.trans (K_at hK 1 rfl).2)
  subst hcA
  refine kk H1 locs ls (hp.new z1 o1 (hat_new_arr (by decide) ?_)) hl hlv
  rw [new_arr_l, e1]
  rfl
theorem r_newq (C : CX G F M R) {n : Int32} {N k idx : Nat} (h4 : 4 ≤ k) (h6 : k ≤ 6) (hl0 : Cond.classLink M.1.cls idx (eC k) ∈ GW) (hn : n = nI N) (hNb : N ≤ 100000) (hc : cells + 1 ≤ R.cells) (hsl : slots + N ≤ R.slots) (hd : decode M.2.1 pc = .ok (.anewarray idx, 3)) (kk : WA G F M (hnew h (k, N)) (cells + 1) (slots + N) Q (pc + 3) lv (.ref (hN h) :: rest)) : WA G F M h cells slots Q pc lv (.int n :: rest) := by
  intro H locs ls hp hl hlv
  obtain ⟨hx, hb, hml, hrt, hown, hts, hlk, hnm, hRm, hK⟩ := C
  subst hRm
  subst hn
  have hov : va_AO (eC k) (fs F) := by
    rcases (show k = 4 ∨ k = 5 ∨ k = 6 by omega) with rfl | rfl | rfl
    · exact hK.2.2.1
    · exact hK.2.2.2.1
    · exact hK.2.2.2.2
  obtain ⟨z1, z2⟩ := nI_nn hNb
  refine W.anew hx hb hown (hts _ hl0) (va_AO.use hov) rfl hd rfl z1 (by rw [z2]; omega) hc (by rw [z2]; exact hsl) fun cA kA comp f1 f2 f3 f4 => ?_
  rw [z2]
  obtain ⟨kB, compB, -, -, -, b4⟩ := (K_q hK h4 h6).2
  have hcA : cA = gA G k := Option.some.inj (f1.symm.trans b4)
  subst hcA
  have hz := hp.1
  refine (congrArg (fun z => W (fp F) (gl G) (fe F) (fr F) (fs F) (fm F) (fa F) (fb F) (fh F) (fc F) _ locs (cells + 1) (slots + N) Q (F0 (fm F) (pc + 3) ls (.ref z :: rest))) hz).mpr (kk _ locs ls (hp.new (by rw [Array.size_push, hz]) (fun q hq => by rw [Array.getElem?_push, if_neg (by omega)]) (hat_new_arr (by omega) ?_)) hl hlv)
  rw [new_arr_q h4, ← hz, Array.getElem?_push_size, vp_cell_q]
  exact congrArg some (arrV_new _ _ _)
end MC
