/-! ===== rows over natural numbers; heap reads by an equation; booleans ===== -/
noncomputable def cif {α : Type} (p : Prop) (a b : α) : α := @ite α p (Classical.propDecidable p) a b
theorem cif_t {α : Type} {p : Prop} {a b : α} (h : p) : cif p a b = a := if_pos h
theorem cif_f {α : Type} {p : Prop} {a b : α} (h : ¬ p) : cif p a b = b := if_neg h
theorem cif_c {α : Type} {p q : Prop} {a b : α} (h : p ↔ q) : cif p a b = cif q a b := by
  by_cases hp : p
  · rw [cif_t hp, cif_t (h.mp hp)]
  · rw [cif_f hp, cif_f (fun z => hp (h.mpr z))]
/-- a boolean as an int -/
noncomputable def bI (p : Prop) : Int32 := cif p 1 0
theorem bI_t {p : Prop} (h : p) : bI p = 1 := cif_t h
theorem bI_f {p : Prop} (h : ¬ p) : bI p = 0 := cif_f h
theorem bI_01 {p : Prop} : bI p = 0 ∨ bI p = 1 := by
  by_cases h : p
  · exact Or.inr (bI_t h)
  · exact Or.inl (bI_f h)
theorem bI_0 {p : Prop} : bI p = 0 ↔ ¬ p := by
  by_cases h : p
  · rw [bI_t h]; exact ⟨fun q => absurd q (by decide), fun q => absurd h q⟩
  · rw [bI_f h]; exact ⟨fun _ => h, fun _ => rfl⟩
theorem bI_1 {p : Prop} : bI p = 1 ↔ p := by
  by_cases h : p
  · rw [bI_t h]; exact ⟨fun _ => h, fun _ => rfl⟩
  · rw [bI_f h]; exact ⟨fun q => absurd q (by decide), fun q => absurd q h⟩
theorem bI_congr {p q : Prop} (h : p ↔ q) : bI p = bI q := cif_c h
theorem tt1 {p : Prop} (h : p) : nI 1 = bI p := (bI_t h).symm
theorem ff0 {p : Prop} (h : ¬ p) : nI 0 = bI p := (bI_f h).symm
theorem nI_0i {n : Nat} (h : n < 2147483648) : nI n = 0 ↔ n = 0 := by
  rw [← nI_0]; exact nI_eq h (by decide)
theorem nI_m1 {n : Nat} (h : n < 2147483648) : ¬ nI n = -1 := fun e => by
  have := congrArg Int32.toInt e
  rw [nI_toInt h] at this
  have h1 : (-1 : Int32).toInt = -1 := by decide
  omega
section NR
variable {G : GP} {F : FX} {M : MD} {R : Room} {h : AH} {cells slots : Nat} {Q : State → Prop} {pc : Nat} {lv lv' : List (Option Value)} {rest : List Value}
theorem r_getIe (C : CX G F M R) {idx a ci k : Nat} {v : Int32} (hf : FL M.1.cls idx ci k) (hs : hS h a = (0, ci)) (hr : fR ci k = false) (he : hI h a k = v) (hd : decode M.2.1 pc = .ok (.getfield idx, 3)) (kk : WA G F M h cells slots Q (pc + 3) lv (.int v :: rest)) : WA G F M h cells slots Q pc lv (.ref a :: rest) := by
  subst he; exact r_getI C hf hs hr hd kk
theorem n_iald (C : CX G F M R) {a n i : Nat} {v : Int32} (hs : hS h a = (1, n)) (hin : i < n) (he : hI h a i = v) (hd : decode M.2.1 pc = .ok (.iaload, 1)) (kk : WA G F M h cells slots Q (pc + 1) lv (.int v :: rest)) (hn : n < 2147483648 := by decide) : WA G F M h cells slots Q pc lv (.int (nI i) :: .ref a :: rest) := by
  refine r_iald C hs (vp_in_nI hin hn) hd ?_
  rw [nI_clamp (by omega), he]; exact kk
theorem n_zald (C : CX G F M R) {a n i : Nat} {v : Int32} (hs : hS h a = (3, n)) (hin : i < n) (he : hI h a i = v) (hd : decode M.2.1 pc = .ok (.baload, 1)) (kk : WA G F M h cells slots Q (pc + 1) lv (.int v :: rest)) (hn : n < 2147483648 := by decide) : WA G F M h cells slots Q pc lv (.int (nI i) :: .ref a :: rest) := by
  refine r_zald C hs (vp_in_nI hin hn) hd ?_
  rw [nI_clamp (by omega), he]; exact kk
theorem n_lald (C : CX G F M R) {a n i : Nat} {v : Int64} (hs : hS h a = (2, n)) (hin : i < n) (he : hL h a i = v) (hd : decode M.2.1 pc = .ok (.laload, 1)) (kk : WA G F M h cells slots Q (pc + 1) lv (.long v :: rest)) (hn : n < 2147483648 := by decide) : WA G F M h cells slots Q pc lv (.int (nI i) :: .ref a :: rest) := by
  refine r_lald C hs (vp_in_nI hin hn) hd ?_
  rw [nI_clamp (by omega), he]; exact kk
theorem n_aald (C : CX G F M R) {a k n i : Nat} {o : Option Nat} (hs : hS h a = (k, n)) (hk : 4 ≤ k ∧ k ≤ 6) (hin : i < n) (he : hR h a i = o) (hd : decode M.2.1 pc = .ok (.aaload, 1)) (kk : WA G F M h cells slots Q (pc + 1) lv (va_rf o :: rest)) (hn : n < 2147483648) : WA G F M h cells slots Q pc lv (.int (nI i) :: .ref a :: rest) := by
  refine r_aald C hs hk.1 hk.2 (vp_in_nI hin hn) hd ?_
  rw [nI_clamp (by omega), he]; exact kk
theorem n_iast (C : CX G F M R) {a n i : Nat} {x : Int32} (hs : hS h a = (1, n)) (hin : i < n) (hd : decode M.2.1 pc = .ok (.iastore, 1)) (kk : WA G F M (pI h a i x) cells slots Q (pc + 1) lv rest) (hn : n < 2147483648 := by decide) : WA G F M h cells slots Q pc lv (.int x :: .int (nI i) :: .ref a :: rest) := by
  refine r_iast C hs (vp_in_nI hin hn) hd ?_
  rw [nI_clamp (by omega)]; exact kk
theorem n_zast (C : CX G F M R) {a n i : Nat} {x : Int32} (hs : hS h a = (3, n)) (hin : i < n) (hx : x = 0 ∨ x = 1) (hd : decode M.2.1 pc = .ok (.bastore, 1)) (kk : WA G F M (pI h a i x) cells slots Q (pc + 1) lv rest) (hn : n < 2147483648 := by decide) : WA G F M h cells slots Q pc lv (.int x :: .int (nI i) :: .ref a :: rest) := by
  refine r_zast C hs (vp_in_nI hin hn) hx hd ?_
  rw [nI_clamp (by omega)]; exact kk
theorem n_last (C : CX G F M R) {a n i : Nat} {x : Int64} (hs : hS h a = (2, n)) (hin : i < n) (hd : decode M.2.1 pc = .ok (.lastore, 1)) (kk : WA G F M (pL h a i x) cells slots Q (pc + 1) lv rest) (hn : n < 2147483648 := by decide) : WA G F M h cells slots Q pc lv (.long x :: .int (nI i) :: .ref a :: rest) := by
  refine r_last C hs (vp_in_nI hin hn) hd ?_
  rw [nI_clamp (by omega)]; exact kk
theorem n_aast (C : CX G F M R) {a k n v i : Nat} (hs : hS h a = (k, n)) (hk : 4 ≤ k ∧ k ≤ 6) (hv : hS h v = (0, eN k)) (hin : i < n) (hd : decode M.2.1 pc = .ok (.aastore, 1)) (kk : WA G F M (pR h a i (some v)) cells slots Q (pc + 1) lv rest) (hn : n < 2147483648) : WA G F M h cells slots Q pc lv (.ref v :: .int (nI i) :: .ref a :: rest) := by
  refine r_aast C hs hk.1 hk.2 hv (vp_in_nI hin hn) hd ?_
  rw [nI_clamp (by omega)]; exact kk
theorem n_iadd (C : CX G F M R) {a b : Nat} (hd : decode M.2.1 pc = .ok (.iadd, 1)) (k : WA G F M h cells slots Q (pc + 1) lv (.int (nI (a + b)) :: rest)) : WA G F M h cells slots Q pc lv (.int (nI b) :: .int (nI a) :: rest) := r_iadd C hd (by rw [nI_add]; exact k)
theorem n_imul (C : CX G F M R) {a b : Nat} (hd : decode M.2.1 pc = .ok (.imul, 1)) (k : WA G F M h cells slots Q (pc + 1) lv (.int (nI (a * b)) :: rest)) : WA G F M h cells slots Q pc lv (.int (nI b) :: .int (nI a) :: rest) := r_imul C hd (by rw [pk_mul]; exact k)
theorem n_isub (C : CX G F M R) {a b : Nat} (hab : b ≤ a) (hd : decode M.2.1 pc = .ok (.isub, 1)) (k : WA G F M h cells slots Q (pc + 1) lv (.int (nI (a - b)) :: rest)) : WA G F M h cells slots Q pc lv (.int (nI b) :: .int (nI a) :: rest) := r_isub C hd (by rw [pk_sub hab]; exact k)
theorem n_idiv (C : CX G F M R) {a b : Nat} (ha : a < 2147483648) (h0 : 0 < b) (hb : b < 2147483648) (hd : decode M.2.1 pc = .ok (.idiv, 1)) (k : WA G F M h cells slots Q (pc + 1) lv (.int (nI (a / b)) :: rest)) : WA G F M h cells slots Q pc lv (.int (nI b) :: .int (nI a) :: rest) := r_idiv C hd (nI_ne0 h0 hb) (pk_div ha h0 hb) k
theorem n_irem (C : CX G F M R) {a b : Nat} (ha : a < 2147483648) (h0 : 0 < b) (hb : b < 2147483648) (hd : decode M.2.1 pc = .ok (.irem, 1)) (k : WA G F M h cells slots Q (pc + 1) lv (.int (nI (a % b)) :: rest)) : WA G F M h cells slots Q pc lv (.int (nI b) :: .int (nI a) :: rest) := r_irem C hd (nI_ne0 h0 hb) (pk_rem ha h0 hb) k
/-- an int local that holds a natural number grows by one -/
theorem n_iinc (C : CX G F M R) {i a : Nat} (hd : decode M.2.1 pc = .ok (.iinc i 1, 3)) (hx : lv[i]? = some (some (.int (nI a)))) (hn : i < M.2.2.1) (hok : lvok lv i = true) (he : lv.set i (some (.int (nI (a + 1)))) = lv') (k : WA G F M h cells slots Q (pc + 3) lv' rest) : WA G F M h cells slots Q pc lv rest := r_iinc C hd hx (nI_1 a) hn hok he k
theorem n_icmp_eq (C : CX G F M R) {a b : Nat} {off : Int} {tgt : Nat} (ha : a < 2147483648) (hb : b < 2147483648) (hd : decode M.2.1 pc = .ok (.if_icmp .eq off, 3)) (ht : (pc : Int) + off = (tgt : Int)) (kt : a = b → WA G F M h cells slots Q tgt lv rest) (kf : a ≠ b → WA G F M h cells slots Q (pc + 3) lv rest) : WA G F M h cells slots Q pc lv (.int (nI b) :: .int (nI a) :: rest) := r_icmp_eq C hd ht (fun q => kt ((nI_eq ha hb).mp q)) (fun q => kf (fun z => q ((nI_eq ha hb).mpr z)))
theorem n_icmp_ne (C : CX G F M R) {a b : Nat} {off : Int} {tgt : Nat} (ha : a < 2147483648) (hb : b < 2147483648) (hd : decode M.2.1 pc = .ok (.if_icmp .ne off, 3)) (ht : (pc : Int) + off = (tgt : Int)) (kt : a ≠ b → WA G F M h cells slots Q tgt lv rest) (kf : a = b → WA G F M h cells slots Q (pc + 3) lv rest) : WA G F M h cells slots Q pc lv (.int (nI b) :: .int (nI a) :: rest) := r_icmp_ne C hd ht (fun q => kt (fun z => q ((nI_eq ha hb).mpr z))) (fun q => kf ((nI_eq ha hb).mp q))
theorem n_icmp_lt (C : CX G F M R) {a b : Nat} {off : Int} {tgt : Nat} (ha : a < 2147483648) (hb : b < 2147483648) (hd : decode M.2.1 pc = .ok (.if_icmp .lt off, 3)) (ht : (pc : Int) + off = (tgt : Int)) (kt : a < b → WA G F M h cells slots Q tgt lv rest) (kf : b ≤ a → WA G F M h cells slots Q (pc + 3) lv rest) : WA G F M h cells slots Q pc lv (.int (nI b) :: .int (nI a) :: rest) := r_icmp_lt C hd ht (fun q => kt ((nI_ltI ha hb).mp q)) (fun q => kf (Nat.not_lt.mp (fun z => q ((nI_ltI ha hb).mpr z))))
theorem n_icmp_ge (C : CX G F M R) {a b : Nat} {off : Int} {tgt : Nat} (ha : a < 2147483648) (hb : b < 2147483648) (hd : decode M.2.1 pc = .ok (.if_icmp .ge off, 3)) (ht : (pc : Int) + off = (tgt : Int)) (kt : b ≤ a → WA G F M h cells slots Q tgt lv rest) (kf : a < b → WA G F M h cells slots Q (pc + 3) lv rest) : WA G F M h cells slots Q pc lv (.int (nI b) :: .int (nI a) :: rest) := r_icmp_ge C hd ht (fun q => kt ((nI_leI hb ha).mp q)) (fun q => kf (Nat.not_le.mp (fun z => q ((nI_leI hb ha).mpr z))))
theorem n_icmp_gt (C : CX G F M R) {a b : Nat} {off : Int} {tgt : Nat} (ha : a < 2147483648) (hb : b < 2147483648) (hd : decode M.2.1 pc = .ok (.if_icmp .gt off, 3)) (ht : (pc : Int) + off = (tgt : Int)) (kt : b < a → WA G F M h cells slots Q tgt lv rest) (kf : a ≤ b → WA G F M h cells slots Q (pc + 3) lv rest) : WA G F M h cells slots Q pc lv (.int (nI b) :: .int (nI a) :: rest) := r_icmp_gt C hd ht (fun q => kt ((nI_ltI hb ha).mp q)) (fun q => kf (Nat.not_lt.mp (fun z => q ((nI_ltI hb ha).mpr z))))
theorem n_icmp_le (C : CX G F M R) {a b : Nat} {off : Int} {tgt : Nat} (ha : a < 2147483648) (hb : b < 2147483648) (hd : decode M.2.1 pc = .ok (.if_icmp .le off, 3)) (ht : (pc : Int) + off = (tgt : Int)) (kt : a ≤ b → WA G F M h cells slots Q tgt lv rest) (kf : b < a → WA G F M h cells slots Q (pc + 3) lv rest) : WA G F M h cells slots Q pc lv (.int (nI b) :: .int (nI a) :: rest) := r_icmp_le C hd ht (fun q => kt ((nI_leI ha hb).mp q)) (fun q => kf (Nat.not_le.mp (fun z => q ((nI_leI ha hb).mpr z))))
theorem n_if_eq (C : CX G F M R) {a : Nat} {off : Int} {tgt : Nat} (ha : a < 2147483648) (hd : decode M.2.1 pc = .ok (.ifCond .eq off, 3)) (ht : (pc : Int) + off = (tgt : Int)) (kt : a = 0 → WA G F M h cells slots Q tgt lv rest) (kf : a ≠ 0 → WA G F M h cells slots Q (pc + 3) lv rest) : WA G F M h cells slots Q pc lv (.int (nI a) :: rest) := r_if_eq C hd ht (fun q => kt ((nI_0i ha).mp q)) (fun q => kf (fun z => q ((nI_0i ha).mpr z)))
theorem n_if_ne (C : CX G F M R) {a : Nat} {off : Int} {tgt : Nat} (ha : a < 2147483648) (hd : decode M.2.1 pc = .ok (.ifCond .ne off, 3)) (ht : (pc : Int) + off = (tgt : Int)) (kt : a ≠ 0 → WA G F M h cells slots Q tgt lv rest) (kf : a = 0 → WA G F M h cells slots Q (pc + 3) lv rest) : WA G F M h cells slots Q pc lv (.int (nI a) :: rest) := r_if_ne C hd ht (fun q => kt (fun z => q ((nI_0i ha).mpr z))) (fun q => kf ((nI_0i ha).mp q))
theorem n_if_le (C : CX G F M R) {a : Nat} {off : Int} {tgt : Nat} (ha : a < 2147483648) (hd : decode M.2.1 pc = .ok (.ifCond .le off, 3)) (ht : (pc : Int) + off = (tgt : Int)) (kt : a = 0 → WA G F M h cells slots Q tgt lv rest) (kf : 0 < a → WA G F M h cells slots Q (pc + 3) lv rest) : WA G F M h cells slots Q pc lv (.int (nI a) :: rest) := r_if_le C hd ht (fun q => kt (by rw [← nI_0, nI_leI ha (by decide)] at q; omega)) (fun q => kf (by
  rcases Nat.eq_zero_or_pos a with z | z
  · subst z; exact absurd (by rw [nI_0]; decide) q
  · exact z))
theorem n_if_gt (C : CX G F M R) {a : Nat} {off : Int} {tgt : Nat} (ha : a < 2147483648) (hd : decode M.2.1 pc = .ok (.ifCond .gt off, 3)) (ht : (pc : Int) + off = (tgt : Int)) (kt : 0 < a → WA G F M h cells slots Q tgt lv rest) (kf : a = 0 → WA G F M h cells slots Q (pc + 3) lv rest) : WA G F M h cells slots Q pc lv (.int (nI a) :: rest) := r_if_gt C hd ht (fun q => kt (by
  rcases Nat.eq_zero_or_pos a with z | z
  · subst z; exact absurd q (by rw [nI_0]; decide)
  · exact z)) (fun q => kf (by
  rcases Nat.eq_zero_or_pos a with z | z
  · exact z
  · exact absurd (by rw [← nI_0]; exact nI_lt z ha) q))
theorem n_if_lt (C : CX G F M R) {a : Nat} {off : Int} (ha : a < 2147483648) (hd : decode M.2.1 pc = .ok (.ifCond .lt off, 3)) {tgt : Nat} (ht : (pc : Int) + off = (tgt : Int)) (kf : WA G F M h cells slots Q (pc + 3) lv rest) : WA G F M h cells slots Q pc lv (.int (nI a) :: rest) := r_if_lt C hd ht (fun q => absurd q (nI_pos ha)) (fun _ => kf)
theorem n_if_ge (C : CX G F M R) {a : Nat} {off : Int} (ha : a < 2147483648) (hd : decode M.2.1 pc = .ok (.ifCond .ge off, 3)) {tgt : Nat} (ht : (pc : Int) + off = (tgt : Int)) (kt : WA G F M h cells slots Q tgt lv rest) : WA G F M h cells slots Q pc lv (.int (nI a) :: rest) := r_if_ge C hd ht (fun _ => kt) (fun q => absurd (nI_pos' ha) q)
theorem b_if_eq (C : CX G F M R) {p : Prop} {off : Int} {tgt : Nat} (hd : decode M.2.1 pc = .ok (.ifCond .eq off, 3)) (ht : (pc : Int) + off = (tgt : Int)) (kt : ¬ p → WA G F M h cells slots Q tgt lv rest) (kf : p → WA G F M h cells slots Q (pc + 3) lv rest) : WA G F M h cells slots Q pc lv (.int (bI p) :: rest) := r_if_eq C hd ht (fun q => kt (bI_0.mp q)) (fun q => kf (Classical.not_not.mp (fun z => q (bI_0.mpr z))))
theorem b_if_ne (C : CX G F M R) {p : Prop} {off : Int} {tgt : Nat} (hd : decode M.2.1 pc = .ok (.ifCond .ne off, 3)) (ht : (pc : Int) + off = (tgt : Int)) (kt : p → WA G F M h cells slots Q tgt lv rest) (kf : ¬ p → WA G F M h cells slots Q (pc + 3) lv rest) : WA G F M h cells slots Q pc lv (.int (bI p) :: rest) := r_if_ne C hd ht (fun q => kt (Classical.not_not.mp (fun z => q (bI_0.mpr z)))) (fun q => kf (bI_0.mp q))
end NR
