/-! ===== the reference: the end of a mark, keeping a row ===== -/
theorem uN_45 {t : TS} {a b : Nat → Nat} {j k c v : Nat} (hjk : j ≠ k) : uN (uNs (uNs t j a) k b) j c v = uNs (uNs t j (va_up a c v)) k b := by
  unfold uN
  rw [tN_uNs_n hjk, tN_uNs_s, uNs_comm (j := k) (k := j) (Ne.symm hjk), uNs_same]
theorem uN_45' {t : TS} {a b : Nat → Nat} {j k c v : Nat} : uN (uNs (uNs t j a) k b) k c v = uNs (uNs t j a) k (va_up b c v) := by
  unfold uN
  rw [tN_uNs_s, uNs_same]
theorem up_lt {f : Nat → Nat} {c : Nat} (h : ∀ i, i < c → f i = 0) : ∀ i, i < c + 1 → va_up f c 0 i = 0 := fun i hi => by
  unfold va_up
  split
  · rfl
  · exact h i (by omega)
theorem m1_0 : (-1 : Int32) = nI 0 - 1 := by decide
section ME
variable {G : GP} {F : FX} {m : Nat} {cells slots : Nat} {Q : State → Prop}
/-- end's first loop -/
theorem end_l1 {R : Room} (C : CX G F mX6_end R) {h0 : AH} {x : Int32} {t : TS} (k : ∀ h, RM m (uNs (uNs t 4 (fun _ => 0)) 5 (fun _ => 0)) h → Fr m (m + 24) h0 h → WA G F mX6_end h cells slots Q 66 [some (.ref m), some (.int x), some (.int (nI 48))] []) :
    ∀ (n c : Nat) (a b : Nat → Nat) (h : AH), c + n = 48 → (∀ i, i < c → a i = 0) → (∀ i, i < c → b i = 0) → RM m (uNs (uNs t 4 a) 5 b) h → Fr m (m + 24) h0 h → WA G F mX6_end h cells slots Q 40 [some (.ref m), some (.int x), some (.int (nI c))] [] := by
  intro n
  induction n with
  | zero =>
    intro c a b h hc ha hb E f
    obtain rfl : c = 48 := by omega
    refine r_iload_n (pc := 40) C dX6_end_40 rfl rfl ?_
    refine r_bipush (pc := 41) (v := (nI 48)) C dX6_end_41 (by decide) ?_
    refine n_icmp_ge (pc := 43) (tgt := 66) C (by omega) (by omega) dX6_end_43 (by decide) (fun c43 => ?_) (fun c43 => absurd c43 (by omega))
    refine k h ?_ f
    have E2 := (E.c_came (fun _ => 0) (fun i hi => by rw [tN_uNs_s, hb i hi]))
    rw [uNs_same] at E2
    have E3 := (E2.c_bar (fun _ => 0) (fun i hi => by rw [tN_uNs_n (by decide), tN_uNs_s, ha i hi]))
    rw [uNs_comm (j := 4) (k := 5) (by decide), uNs_same, uNs_comm (j := 5) (k := 4) (by decide)] at E3
    exact E3
  | succ n ih =>
    intro c a b h hc ha hb E f
    refine r_iload_n (pc := 40) C dX6_end_40 rfl rfl ?_
    refine r_bipush (pc := 41) (v := (nI 48)) C dX6_end_41 (by decide) ?_
    refine n_icmp_ge (pc := 43) (tgt := 66) C (by omega) (by omega) dX6_end_43 (by decide) (fun c43 => absurd c43 (by omega)) (fun c43 => ?_)
    refine r_aload_n (pc := 46) C dX6_end_46 rfl rfl ?_
    refine r_getR (pc := 47) C fl_X6_39 E.L.o rfl E.L.r12 dX6_end_47 ?_
    refine r_iload_n (pc := 50) C dX6_end_50 rfl rfl ?_
    refine r_iconst (pc := 51) (v := (-1)) C dX6_end_51 (by decide) ?_
    refine n_iast (pc := 52) C E.L.s12 (by omega) dX6_end_52 ?_
    have E := E.p_bar c 0 m1_0
    rw [uN_45 (by decide)] at E
    refine r_aload_n (pc := 53) C dX6_end_53 rfl rfl ?_
    refine r_getR (pc := 54) C fl_X6_42 E.L.o rfl E.L.r13 dX6_end_54 ?_
    refine r_iload_n (pc := 57) C dX6_end_57 rfl rfl ?_
    refine r_iconst (pc := 58) (v := (nI 0)) C dX6_end_58 (by decide) ?_
    refine n_zast (pc := 59) C E.L.s13 (by omega) (by first | exact Or.inl rfl | exact Or.inr rfl | exact bI_01) dX6_end_59 ?_
    have E := E.p_came c 0
    rw [uN_45'] at E
    refine n_iinc (pc := 60) (lv' := [_, _, _]) C dX6_end_60 rfl (by decide) rfl rfl ?_
    refine r_goto (pc := 63) (tgt := 40) C dX6_end_63 (by decide) ?_
    exact ih (c + 1) _ _ _ (by omega) (up_lt ha) (up_lt hb) E ((f.pI (by omega) (by omega)).pI (by omega) (by omega))
end ME
