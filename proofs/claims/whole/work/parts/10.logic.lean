/-! ===== the abstract machine: a heap of typed cells at known addresses; W over it ===== -/
abbrev vwCl : List vw_C := [(RX0, TX0, 8), (RX1, TX1, 4), (RX2, TX2, 9), (RX3, TX3, 2), (RX4, TX4, 4), (RX5, TX5, 14), (RX6, TX6, 31)]
def fT : Nat → String × u_T × Nat × (Nat → FieldType) := fun ci => match ci with
  | 0 => (RX0, TX0, 8, tyX0)
  | 1 => (RX1, TX1, 4, tyX1)
  | 2 => (RX2, TX2, 9, tyX2)
  | 3 => (RX3, TX3, 2, tyX3)
  | 4 => (RX4, TX4, 4, tyX4)
  | 5 => (RX5, TX5, 14, tyX5)
  | _ => (RX6, TX6, 31, tyX6)
/-- a field that holds a reference -/
def fR (ci k : Nat) : Bool := match (fT ci).2.2.2 k with
  | .int => false
  | .boolean => false
  | _ => true
def isNest : Cond → Bool
  | .fieldLinkNest _ _ _ _ _ _ => true
  | .methodLinkNest _ _ _ _ => true
  | .castable _ _ => true
  | _ => false
def GW : List Cond := lw_tbl.filter goodWord
def NW : List Cond := lw_tbl.filter isNest
theorem gw_of {w : Cond} (i : Nat) (h : lw_tbl[i]? = some w) (hg : goodWord w = true) : w ∈ GW := List.mem_filter.mpr ⟨List.mem_of_getElem? h, hg⟩
theorem nw_of {w : Cond} (i : Nat) (h : lw_tbl[i]? = some w) (hg : isNest w = true) : w ∈ NW := List.mem_filter.mpr ⟨List.mem_of_getElem? h, hg⟩
theorem gw_good {w : Cond} (h : w ∈ GW) : (w.onTables && w.keeps) = true ∨ ∃ ty, w = .arrayClass ty := good_of_word (List.mem_filter.mp h).2
set_option maxRecDepth 100000 in
theorem uw_0 : ∀ w ∈ u_ws RX0 TX0 8, w ∈ lw_tbl ∧ goodWord w = true := by decide +kernel
set_option maxRecDepth 100000 in
theorem uw_1 : ∀ w ∈ u_ws RX1 TX1 4, w ∈ lw_tbl ∧ goodWord w = true := by decide +kernel
set_option maxRecDepth 100000 in
theorem uw_2 : ∀ w ∈ u_ws RX2 TX2 9, w ∈ lw_tbl ∧ goodWord w = true := by decide +kernel
set_option maxRecDepth 100000 in
theorem uw_3 : ∀ w ∈ u_ws RX3 TX3 2, w ∈ lw_tbl ∧ goodWord w = true := by decide +kernel
set_option maxRecDepth 100000 in
theorem uw_4 : ∀ w ∈ u_ws RX4 TX4 4, w ∈ lw_tbl ∧ goodWord w = true := by decide +kernel
set_option maxRecDepth 100000 in
theorem uw_5 : ∀ w ∈ u_ws RX5 TX5 14, w ∈ lw_tbl ∧ goodWord w = true := by decide +kernel
set_option maxRecDepth 100000 in
theorem uw_6 : ∀ w ∈ u_ws RX6 TX6 31, w ∈ lw_tbl ∧ goodWord w = true := by decide +kernel
/-- what the tables say of class ci -/
theorem fw (ci : Nat) (h : ci < 7) : (∀ w ∈ u_ws (fT ci).1 (fT ci).2.1 (fT ci).2.2.1, w ∈ GW) ∧ (∀ k, k < (fT ci).2.2.1 → parseFieldDescriptor ((fT ci).2.1 k).2.2.1 = some ((fT ci).2.2.2 k)) ∧ (∀ a, a < (fT ci).2.2.1 → ∀ b, b < (fT ci).2.2.1 → a ≠ b → ((fT ci).2.1 a).2.1 ≠ ((fT ci).2.1 b).2.1) ∧ vwCl[ci]? = some ((fT ci).1, (fT ci).2.1, (fT ci).2.2.1) := by
  match ci, h with
  | 0, _ => exact ⟨fun w hw => List.mem_filter.mpr (uw_0 w hw), tyX0_ok, nmX0, rfl⟩
  | 1, _ => exact ⟨fun w hw => List.mem_filter.mpr (uw_1 w hw), tyX1_ok, nmX1, rfl⟩
  | 2, _ => exact ⟨fun w hw => List.mem_filter.mpr (uw_2 w hw), tyX2_ok, nmX2, rfl⟩
  | 3, _ => exact ⟨fun w hw => List.mem_filter.mpr (uw_3 w hw), tyX3_ok, nmX3, rfl⟩
  | 4, _ => exact ⟨fun w hw => List.mem_filter.mpr (uw_4 w hw), tyX4_ok, nmX4, rfl⟩
  | 5, _ => exact ⟨fun w hw => List.mem_filter.mpr (uw_5 w hw), tyX5_ok, nmX5, rfl⟩
  | 6, _ => exact ⟨fun w hw => List.mem_filter.mpr (uw_6 w hw), tyX6_ok, nmX6, rfl⟩
/-- the abstract heap: shape of a cell (kind, number); its ints; its references; its longs; the next address.
kinds: 0 an object (of class number), 1 int[], 2 long[], 3 boolean[], 4 Channel[], 5 Mark[], 6 Task[] (of length number), 9 nothing -/
abbrev AH : Type := (Nat → Nat × Nat) × (Nat → Nat → Int32) × (Nat → Nat → Option Nat) × (Nat → Nat → Int64) × Nat
def hS (h : AH) : Nat → Nat × Nat := h.1
def hI (h : AH) : Nat → Nat → Int32 := h.2.1
def hR (h : AH) : Nat → Nat → Option Nat := h.2.2.1
def hL (h : AH) : Nat → Nat → Int64 := h.2.2.2.1
def hN (h : AH) : Nat := h.2.2.2.2
def pI (h : AH) (a k : Nat) (v : Int32) : AH := (hS h, va_up (hI h) a (va_up (hI h a) k v), hR h, hL h, hN h)
def pR (h : AH) (a k : Nat) (v : Option Nat) : AH := (hS h, hI h, va_up (hR h) a (va_up (hR h a) k v), hL h, hN h)
def pL (h : AH) (a k : Nat) (v : Int64) : AH := (hS h, hI h, hR h, va_up (hL h) a (va_up (hL h a) k v), hN h)
/-- the ints (longs) of a cell all at once -/
def pIs (h : AH) (a : Nat) (f : Nat → Int32) : AH := (hS h, va_up (hI h) a f, hR h, hL h, hN h)
def pLs (h : AH) (a : Nat) (f : Nat → Int64) : AH := (hS h, hI h, hR h, va_up (hL h) a f, hN h)
/-- a new cell, blank -/
def hnew (h : AH) (sh : Nat × Nat) : AH := (va_up (hS h) (hN h) sh, va_up (hI h) (hN h) (fun _ => 0), va_up (hR h) (hN h) (fun _ => none), va_up (hL h) (hN h) (fun _ => 0), hN h + 1)
/-- launch, classes' numbers, fields' slots, arrays' classes by kind, the heap at the law's start -/
abbrev GP : Type := Launch × (Nat → ClassId) × (Nat → Nat → Nat) × (Nat → ClassId) × Heap
abbrev gl (G : GP) : Launch := G.1
abbrev gC (G : GP) : Nat → ClassId := G.2.1
abbrev gI (G : GP) : Nat → Nat → Nat := G.2.2.1
abbrev gA (G : GP) : Nat → ClassId := G.2.2.2.1
abbrev gH (G : GP) : Heap := G.2.2.2.2
abbrev gb (G : GP) : Nat := (gH G).size
def hval (h : AH) (ci a k : Nat) : Value := if fR ci k = true then va_rf (hR h a k) else .int (hI h a k)
def harr (h : AH) (a : Nat) : vp_A := ((hS h a).2, if (hS h a).1 = 2 then .inr (.inl (hL h a)) else if 4 ≤ (hS h a).1 then .inr (.inr (.inr (.inr (hR h a)))) else .inl (hI h a))
def hat (G : GP) (h : AH) (a : Nat) (H : Heap) : Prop :=
  if (hS h a).1 = 0 then (hS h a).2 < 7 ∧ t_OB a (gC G (hS h a).2) (fT (hS h a).2).2.2.1 (gI G (hS h a).2) H (hval h (hS h a).2 a)
  else H[a]? = some (vp_cell (gA G (hS h a).1) (harr h a))
/-- the heap H is as h says from the law's start on, and as it was below -/
def HP (G : GP) (h : AH) (H : Heap) : Prop :=
  H.size = hN h ∧ gb G ≤ hN h ∧ (∀ q, q < gb G → H[q]? = (gH G)[q]?) ∧ ∀ a, (hS h a).1 ≠ 9 → gb G ≤ a ∧ a < hN h ∧ hat G h a H
abbrev tysG (G : GP) : List (ClassId × FieldType) := [(gA G 1, .int), (gA G 2, .long), (gA G 3, .boolean), (gA G 4, .object RX0), (gA G 5, .object RX2), (gA G 6, .object RX4)]
def KX (G : GP) (U : State) : Prop := va_K (gC G, gI G) vwCl (tysG G) U ∧ (∀ w ∈ NW, va_Nw w U) ∧ va_AO RX0 U ∧ va_AO RX2 U ∧ va_AO RX4 U
theorem KX.warm {G : GP} {s U : State} (hW : s.WarmedH U.vm) (h : KX G s) : KX G U := by
  obtain ⟨h1, h2, h3, h4, h5⟩ := h
  refine ⟨va_K.moved hW.alike h1, fun w hw => ?_, va_AO.moved hW.alike h3, va_AO.moved hW.alike h4, va_AO.moved hW.alike h5⟩
  have hn := (List.mem_filter.mp hw).2
  have hz := h2 w hw
  cases w <;> first | exact va_Nw.warmF hW hz | exact va_Nw.warmM hW hz | exact va_Nw.warmC hW hz | (simp [isNest] at hn; done)
theorem KX.calling {G : GP} {U : State} {g : JFrame} {mk : MethodId} {a : Array Value} (h : KX G U) : KX G (U.calling g mk a) := by
  obtain ⟨h1, h2, h3, h4, h5⟩ := h
  refine ⟨va_K.moved (u := U) (U := U.calling g mk a) (Vm.Alike.refl U.vm) h1, fun w hw => ?_, va_AO.moved (u := U) (U := U.calling g mk a) (Vm.Alike.refl U.vm) h3, va_AO.moved (u := U) (U := U.calling g mk a) (Vm.Alike.refl U.vm) h4, va_AO.moved (u := U) (U := U.calling g mk a) (Vm.Alike.refl U.vm) h5⟩
  have hn := (List.mem_filter.mp hw).2
  have hz := h2 w hw
  cases w <;> first | (simp [isNest] at hn; done) | exact va_Nw.same rfl rfl hz
/-- a frame's fixed things -/
abbrev FX : Type := Program × Env × Room × State × MethodId × Array Value × List Frame × Method × Code
abbrev fp (F : FX) : Program := F.1
abbrev fe (F : FX) : Env := F.2.1
abbrev fr (F : FX) : Room := F.2.2.1
abbrev fs (F : FX) : State := F.2.2.2.1
abbrev fm (F : FX) : MethodId := F.2.2.2.2.1
abbrev fa (F : FX) : Array Value := F.2.2.2.2.2.1
abbrev fb (F : FX) : List Frame := F.2.2.2.2.2.2.1
abbrev fh (F : FX) : Method := F.2.2.2.2.2.2.2.1
abbrev fc (F : FX) : Code := F.2.2.2.2.2.2.2.2
/-- a method: its name, code, locals, return type -/
abbrev MD : Type := MethodName × ByteArray × Nat × Option FieldType
def Rm (k mc ms : Nat) : Room := { frames := k, cells := mc, slots := ms, locals := 38 * k }
def CX (G : GP) (F : FX) (M : MD) (R : Room) : Prop :=
  (fp F).tables.exec = Jvm.exec ∧ (fc F).code = M.2.1 ∧ (fc F).maxLocals = M.2.2.1 ∧ (fh F).sig.returnType = M.2.2.2 ∧ (fs F).vm.findClass M.1.cls = some (fm F).cls ∧ (∀ w ∈ GW, w.before (fa F) (fs F) = true) ∧ (fh F).locks = false ∧ (fh F).name = M.1.name ∧ fr F = R ∧ KX G (fs F)
/-- the locals, by place -/
def LV (ls : Array Slot) (nL : Nat) (lv : List (Option Value)) : Prop := ls.size = nL ∧ lv_wf ls ∧ ∀ (i : Nat) (v : Value), lv[i]? = some (some v) → ls[i]? = some (.val v)
/-- the walk, over an abstract heap -/
def WA (G : GP) (F : FX) (M : MD) (h : AH) (cells slots : Nat) (Q : State → Prop) (pc : Nat) (lv : List (Option Value)) (st : List Value) : Prop :=
  ∀ (H : Heap) (locs : List Loc) (ls : Array Slot), HP G h H → (∀ q ∈ locs, gb G ≤ q.base) → LV ls M.2.2.1 lv → W (fp F) (gl G) (fe F) (fr F) (fs F) (fm F) (fa F) (fb F) (fh F) (fc F) H locs cells slots Q (F0 (fm F) pc ls st)
def QA (G : GP) (Q : Option Value → AH → Prop) : Array Value → State → Outcome → State → Prop := fun _ _ o t => ∃ (r : Option Value) (h' : AH), o = .returned r ∧ HP G h' t.heap ∧ Q r h'
abbrev MQA (G : GP) (F : FX) (mc ms : Nat) (Q : Option Value → AH → Prop) : State → Prop := MQ (fb F) (QA G Q) (fa F) (fs F) mc ms (fun q => gb G ≤ q)
abbrev wsM (M : MD) : List Cond := Cond.code M.1 M.2.1 M.2.2.1 M.2.2.2 :: GW
/-- a method's contract: from h, with these arguments, it returns, and Q holds of the answer and the heap behind it -/
def MA (G : GP) (M : MD) (k mc ms : Nat) (As : List Value) (h : AH) (Q : Option Value → AH → Prop) : Prop :=
  Met (gl G) M.1 (wsM M) (Rm k mc ms) (va_Pc As (fun U => HP G h U.heap ∧ KX G U)) (QA G Q) mc ms (fun q => gb G ≤ q)
