/-! ===== the class: a mark's end ===== -/
theorem TS_ext {a b : TS} (h1 : ∀ j, tN a j = tN b j) (h2 : tI a = tI b) (h3 : tL a = tL b) (h4 : tC a = tC b) (h5 : tK a = tK b) : a = b := by
  obtain ⟨a1, a2, a3, a4, a5⟩ := a
  obtain ⟨b1, b2, b3, b4, b5⟩ := b
  have e1 : a1 = b1 := funext h1
  have e2 : a2 = b2 := h2
  have e3 : a3 = b3 := h3
  have e4 : a4 = b4 := h4
  have e5 : a5 = b5 := h5
  subst e1; subst e2; subst e3; subst e4; subst e5; rfl
theorem ES_ext {a b : ES} (h1 : ∀ j, xN a j = xN b j) (h2 : ∀ j, xI a j = xI b j) : a = b := by
  obtain ⟨a1, a2⟩ := a
  obtain ⟨b1, b2⟩ := b
  have e1 : a1 = b1 := funext h1
  have e2 : a2 = b2 := funext h2
  subst e1; subst e2; rfl
theorem tN_s {t : TS} {j k : Nat} {f : Nat → Nat} : tN (uNs t j f) k = if k = j then f else tN t k := rfl
theorem tN_u {t : TS} {j i v k : Nat} : tN (uN t j i v) k = if k = j then va_up (tN t j) i v else tN t k := rfl
theorem xN_s {e : ES} {j k : Nat} {f : Nat → Nat} : xN (vNs e j f) k = if k = j then f else xN e k := rfl
theorem xN_u {e : ES} {j i v k : Nat} : xN (vN e j i v) k = if k = j then va_up (xN e j) i v else xN e k := rfl
theorem xI_s {e : ES} {j k : Nat} {f : Nat → Int32} : xI (vIs e j f) k = if k = j then f else xI e k := rfl
theorem xI_u {e : ES} {j i k : Nat} {v : Int32} : xI (vI e j i v) k = if k = j then va_up (xI e j) i v else xI e k := rfl
def zb {α : Type} (z : α) (n : Nat) (f : Nat → α) : Nat → α := fun c => if c < n then z else f c
theorem zb_up {α : Type} {z : α} {n : Nat} {f : Nat → α} : va_up (zb z n f) n z = zb z (n + 1) f := by
  funext c
  unfold va_up zb
  by_cases h : c = n
  · rw [if_pos h, if_pos (by omega)]
  · rw [if_neg h]
    by_cases h2 : c < n
    · rw [if_pos h2, if_pos (by omega)]
    · rw [if_neg h2, if_neg (by omega)]
theorem zb_0 {α : Type} {z : α} {f : Nat → α} : zb z 0 f = f := by
  funext c; unfold zb; rw [if_neg (Nat.not_lt_zero c)]
theorem RX.eq {x m : Nat} {t t' : TS} {e e' : ES} {h : AH} (E : RX x m t e h) (h1 : t = t') (h2 : e = e') : RX x m t' e' h := by
  subst h1; subst h2; exact E
theorem RX.z37 {x m : Nat} {t : TS} {e : ES} {h : AH} (E : RX x m t e h) (i : Nat) (v : Int32) (f : Nat → Nat) : RX x m (uNs (uI t 3 i v) 7 f) e h := E
section CE60
variable {G : GP} {F : FX} {x m : Nat} {Q : State → Prop}
theorem xend_l1 (C : CX G F mX5_endMark (Rm 1 0 0)) {t : TS} {e : ES} {h0 : AH} {z : Int32} {a : Nat} (hS0 : 2 ≤ tN t 0 0 ∧ tN t 0 0 ≤ 4)
    (kk : ∀ h x3, RX x m (uNs (uNs t 4 (zb 0 (16 * (tN t 0 0 - 1)) (tN t 4))) 5 (zb 0 (16 * (tN t 0 0 - 1)) (tN t 5))) (vNs e 1 (zb 0 (16 * (tN t 0 0 - 1)) (xN e 1))) h → Fq (Px m) h0 h → WA G F mX5_endMark h 0 0 Q 58 [some (.ref x), some (.int z), some (.ref a), some (.int x3)] []) :
    ∀ (n c : Nat) (h : AH), c + n = 16 * (tN t 0 0 - 1) → RX x m (uNs (uNs t 4 (zb 0 c (tN t 4))) 5 (zb 0 c (tN t 5))) (vNs e 1 (zb 0 c (xN e 1))) h → Fq (Px m) h0 h → WA G F mX5_endMark h 0 0 Q 34 [some (.ref x), some (.int z), some (.ref a), some (.int (nI c))] [] := by
  intro n
  induction n with
  | zero =>
    intro c h hc E f
    obtain rfl : c = 16 * (tN t 0 0 - 1) := by omega
    refine r_iload_n (pc := 34) C dX5_endMark_34 rfl rfl ?_
    refine r_aload_n (pc := 35) C dX5_endMark_35 rfl rfl ?_
    refine r_getR (pc := 36) C fl_X5_75 E.L.o rfl E.L.r4 dX5_endMark_36 ?_
    refine r_alen (pc := 39) C (show hS h (x + 14) = (4, 16 * (tN t 0 0 - 1)) from E.L.s4) (by decide) (by decide) dX5_endMark_39 ?_
    refine n_icmp_ge (pc := 40) (tgt := 58) C (by omega) (by omega) dX5_endMark_40 (by decide) (fun c40 => ?_) (fun c40 => absurd c40 (by omega))
    exact kk h _ E f
  | succ n ih =>
    intro c h hc E f
    have b : x + 20 * tN t 0 0 ≤ m := E.L.b.2.2.2
    have hcc : c < 16 * (tN t 0 0 - 1) := by omega
    have L := E.L.ch (c := c) hcc
    refine r_iload_n (pc := 34) C dX5_endMark_34 rfl rfl ?_
    refine r_aload_n (pc := 35) C dX5_endMark_35 rfl rfl ?_
    refine r_getR (pc := 36) C fl_X5_75 E.L.o rfl E.L.r4 dX5_endMark_36 ?_
    refine r_alen (pc := 39) C (show hS h (x + 14) = (4, 16 * (tN t 0 0 - 1)) from E.L.s4) (by decide) (by decide) dX5_endMark_39 ?_
    refine n_icmp_ge (pc := 40) (tgt := 58) C (by omega) (by omega) dX5_endMark_40 (by decide) (fun c40 => absurd c40 (by omega)) (fun c40 => ?_)
    refine r_aload_n (pc := 43) C dX5_endMark_43 rfl rfl ?_
    refine r_getR (pc := 44) C fl_X5_75 E.L.o rfl E.L.r4 dX5_endMark_44 ?_
    refine r_iload_n (pc := 47) C dX5_endMark_47 rfl rfl ?_
    refine n_aald (pc := 48) C (show hS h (x + 14) = (4, 16 * (tN t 0 0 - 1)) from E.L.s4) (by decide) (by omega) L.1 dX5_endMark_48 ?_ (by omega)
    refine r_callv (cr_V (pc := 49) C (c_X0_forgetMark L.2.1) dX5_endMark_49 cm_X0_forgetMark ml_X5_343 im_X0_forgetMark se_X0_forgetMark L.2.1 rfl ⟨⟨Nat.le_of_ble_eq_true rfl, Nat.le_of_ble_eq_true rfl⟩, Nat.le_of_ble_eq_true rfl, Nat.le_of_ble_eq_true rfl⟩ rfl rfl (Nat.le_of_ble_eq_true rfl)) (fun h49 hq49 => ?_)
    subst hq49
    refine n_iinc (pc := 52) (lv' := [_, _, _, _]) C dX5_endMark_52 rfl (by decide) rfl rfl ?_
    refine r_goto (pc := 55) (tgt := 34) C dX5_endMark_55 (by decide) ?_
    refine ih (c + 1) _ (by omega) ?_ (((f.pI (Or.inl (by omega))).pI (Or.inl (by omega))).pI (Or.inl (by omega)))
    have E1 := ((E.p_bar (c := c) hcc 0 (z := -1) (by decide)).p_came (c := c) hcc 0).p_loose (c := c) hcc 0
    refine RX.eq E1 (TS_ext (fun j => ?_) rfl rfl rfl rfl) (ES_ext (fun j => ?_) (fun j => rfl))
    · simp only [tN_u, tN_s]
      by_cases h5 : j = 5
      · subst h5; simp [zb_up]
      · by_cases h4 : j = 4
        · subst h4; simp [zb_up]
        · simp [h4, h5]
    · simp only [xN_u, xN_s]
      by_cases h1 : j = 1
      · subst h1; simp [zb_up]
      · simp [h1]
theorem xend_l2 (C : CX G F mX5_endMark (Rm 1 0 0)) {t : TS} {e : ES} {h0 : AH} {z : Int32} {a : Nat} (hS0 : 2 ≤ tN t 0 0 ∧ tN t 0 0 ≤ 4)
    (kk : ∀ h x3, RX x m (uNs t 6 (zb 0 (4 * tN t 0 0) (tN t 6))) (vIs (vNs e 2 (zb 0 (4 * tN t 0 0) (xN e 2))) 0 (zb 0 (4 * tN t 0 0) (xI e 0))) h → Fq (Px m) h0 h → WA G F mX5_endMark h 0 0 Q 84 [some (.ref x), some (.int z), some (.ref a), some (.int x3)] []) :
    ∀ (n i : Nat) (h : AH), i + n = 4 * tN t 0 0 → RX x m (uNs t 6 (zb 0 i (tN t 6))) (vIs (vNs e 2 (zb 0 i (xN e 2))) 0 (zb 0 i (xI e 0))) h → Fq (Px m) h0 h → WA G F mX5_endMark h 0 0 Q 60 [some (.ref x), some (.int z), some (.ref a), some (.int (nI i))] [] := by
  intro n
  induction n with
  | zero =>
    intro i h hi E f
    obtain rfl : i = 4 * tN t 0 0 := by omega
    refine r_iload_n (pc := 60) C dX5_endMark_60 rfl rfl ?_
    refine r_aload_n (pc := 61) C dX5_endMark_61 rfl rfl ?_
    refine r_getR (pc := 62) C fl_X5_84 E.L.o rfl E.L.r5 dX5_endMark_62 ?_
    refine r_alen (pc := 65) C (show hS h (x + 16 * tN t 0 0 - 1) = (6, 4 * tN t 0 0) from E.L.s5) (by decide) (by decide) dX5_endMark_65 ?_
    refine n_icmp_ge (pc := 66) (tgt := 84) C (by omega) (by omega) dX5_endMark_66 (by decide) (fun c66 => ?_) (fun c66 => absurd c66 (by omega))
    exact kk h _ E f
  | succ n ih =>
    intro i h hi E f
    have b : x + 20 * tN t 0 0 ≤ m := E.L.b.2.2.2
    have hii : i < 4 * tN t 0 0 := by omega
    have L : hR h (x + 16 * tN t 0 0 - 1) i = some (x + 16 * tN t 0 0 + i) ∧ hS h (x + 16 * tN t 0 0 + i) = (0, 4) := E.L.tk (i := i) hii
    refine r_iload_n (pc := 60) C dX5_endMark_60 rfl rfl ?_
    refine r_aload_n (pc := 61) C dX5_endMark_61 rfl rfl ?_
    refine r_getR (pc := 62) C fl_X5_84 E.L.o rfl E.L.r5 dX5_endMark_62 ?_
    refine r_alen (pc := 65) C (show hS h (x + 16 * tN t 0 0 - 1) = (6, 4 * tN t 0 0) from E.L.s5) (by decide) (by decide) dX5_endMark_65 ?_
    refine n_icmp_ge (pc := 66) (tgt := 84) C (by omega) (by omega) dX5_endMark_66 (by decide) (fun c66 => absurd c66 (by omega)) (fun c66 => ?_)
    refine r_aload_n (pc := 69) C dX5_endMark_69 rfl rfl ?_
    refine r_getR (pc := 70) C fl_X5_84 E.L.o rfl E.L.r5 dX5_endMark_70 ?_
    refine r_iload_n (pc := 73) C dX5_endMark_73 rfl rfl ?_
    refine n_aald (pc := 74) C (show hS h (x + 16 * tN t 0 0 - 1) = (6, 4 * tN t 0 0) from E.L.s5) (by decide) (by omega) L.1 dX5_endMark_74 ?_ (by omega)
    refine r_callv (cr_V (pc := 75) C (c_X4_forgetMark L.2) dX5_endMark_75 cm_X4_forgetMark ml_X5_346 im_X4_forgetMark se_X4_forgetMark L.2 rfl ⟨⟨Nat.le_of_ble_eq_true rfl, Nat.le_of_ble_eq_true rfl⟩, Nat.le_of_ble_eq_true rfl, Nat.le_of_ble_eq_true rfl⟩ rfl rfl (Nat.le_of_ble_eq_true rfl)) (fun h75 hq75 => ?_)
    subst hq75
    refine n_iinc (pc := 78) (lv' := [_, _, _, _]) C dX5_endMark_78 rfl (by decide) rfl rfl ?_
    refine r_goto (pc := 81) (tgt := 60) C dX5_endMark_81 (by decide) ?_
    refine ih (i + 1) _ (by omega) ?_ (((f.pI (Or.inl (by omega))).pI (Or.inl (by omega))).pI (Or.inl (by omega)))
    have E1 := ((E.p_took (i := i) hii 0).p_cm (i := i) hii 0).p_fc (i := i) hii 0
    refine RX.eq E1 (TS_ext (fun j => ?_) rfl rfl rfl rfl) (ES_ext (fun j => ?_) (fun j => ?_))
    · simp only [tN_u, tN_s]
      by_cases h5 : j = 6
      · subst h5; simp [zb_up]
      · simp [h5]
    · show xN (vN (vNs e 2 (zb 0 i (xN e 2))) 2 i 0) j = xN (vNs e 2 (zb 0 (i + 1) (xN e 2))) j
      simp only [xN_u, xN_s]
      by_cases h1 : j = 2
      · subst h1; simp [zb_up]
      · simp [h1]
    · show xI (vI (vIs (vNs e 2 (zb 0 i (xN e 2))) 0 (zb 0 i (xI e 0))) 0 i 0) j = xI (vIs (vNs e 2 (zb 0 (i + 1) (xN e 2))) 0 (zb 0 (i + 1) (xI e 0))) j
      simp only [xI_u, xI_s]
      by_cases h1 : j = 0
      · subst h1; simp [zb_up]
      · simp only [if_neg h1]; rfl
theorem xend_l2s (C : CX G F mX5_endMark (Rm 1 0 0)) {t : TS} {e : ES} {h0 h : AH} {z : Int32} {a : Nat} (E : RX x m t e h) (f : Fq (Px m) h0 h) (hS0 : 2 ≤ tN t 0 0 ∧ tN t 0 0 ≤ 4)
    (kk : ∀ h x3, RX x m (uNs t 6 (zb 0 (4 * tN t 0 0) (tN t 6))) (vIs (vNs e 2 (zb 0 (4 * tN t 0 0) (xN e 2))) 0 (zb 0 (4 * tN t 0 0) (xI e 0))) h → Fq (Px m) h0 h → WA G F mX5_endMark h 0 0 Q 84 [some (.ref x), some (.int z), some (.ref a), some (.int x3)] []) : WA G F mX5_endMark h 0 0 Q 60 [some (.ref x), some (.int z), some (.ref a), some (.int (nI 0))] [] := by
  refine xend_l2 C hS0 kk (4 * tN t 0 0) 0 h (Nat.zero_add _) ?_ f
  rw [zb_0, zb_0, zb_0]
  refine RX.eq E (TS_ext (fun j => ?_) rfl rfl rfl rfl) (ES_ext (fun j => ?_) (fun j => ?_))
  · simp only [tN_s]
    by_cases h5 : j = 6
    · subst h5; rfl
    · simp [h5]
  · show xN _ j = xN (vNs _ 2 _) j
    rw [xN_s]
    by_cases h5 : j = 2
    · subst h5; rfl
    · rw [if_neg h5]
  · rw [xI_s]
    by_cases h5 : j = 0
    · subst h5; rfl
    · rw [if_neg h5]; rfl
theorem xend_l1s (C : CX G F mX5_endMark (Rm 1 0 0)) {t : TS} {e : ES} {h0 h : AH} {z : Int32} {a : Nat} (E : RX x m t e h) (f : Fq (Px m) h0 h) (hS0 : 2 ≤ tN t 0 0 ∧ tN t 0 0 ≤ 4)
    (kk : ∀ h x3, RX x m (uNs (uNs t 4 (zb 0 (16 * (tN t 0 0 - 1)) (tN t 4))) 5 (zb 0 (16 * (tN t 0 0 - 1)) (tN t 5))) (vNs e 1 (zb 0 (16 * (tN t 0 0 - 1)) (xN e 1))) h → Fq (Px m) h0 h → WA G F mX5_endMark h 0 0 Q 58 [some (.ref x), some (.int z), some (.ref a), some (.int x3)] []) : WA G F mX5_endMark h 0 0 Q 34 [some (.ref x), some (.int z), some (.ref a), some (.int (nI 0))] [] := by
  refine xend_l1 C hS0 kk (16 * (tN t 0 0 - 1)) 0 h (Nat.zero_add _) ?_ f
  rw [zb_0, zb_0, zb_0]
  refine RX.eq E (TS_ext (fun j => ?_) rfl rfl rfl rfl) (ES_ext (fun j => ?_) (fun j => rfl))
  · simp only [tN_s]
    by_cases h5 : j = 5
    · subst h5; rfl
    · by_cases h4 : j = 4
      · subst h4; simp
      · simp [h4, h5]
  · simp only [xN_s]
    by_cases h5 : j = 1
    · subst h5; rfl
    · simp [h5]
end CE60
/-- what the class knows besides, when a mark has ended -/
def xEnd (e : ES) (j : Nat) (v : Int32) : ES := vIs (vNs (vNs (vI e 1 j v) 1 (fun _ => 0)) 2 (fun _ => 0)) 0 (fun _ => 0)
section CF60
variable {G : GP} {x m : Nat} {t : TS} {e : ES} {h : AH}
theorem c_X5_endMarkN (E : RX x m t e h) (B : TB t) (hu : tN t 0 5 = 0) (z : Int32) : MA G mX5_endMark 1 0 0 [.ref x, .int z] h (Ov (fun h' => h' = h)) := by
  have b := B.marks
  refine MA.intro (lv := [some (.ref x), some (.int z), none, none]) (by decide) (Nat.le_of_ble_eq_true rfl) rfl (fun F C => ?_)
  refine r_aload_n (pc := 0) C dX5_endMark_0 rfl rfl ?_
  refine r_aload_n (pc := 1) C dX5_endMark_1 rfl rfl ?_
  refine r_getIe (pc := 2) C fl_X5_40 E.L.o rfl E.uw dX5_endMark_2 ?_
  refine r_callq (cr_V (pc := 5) C (c_X5_markAt E B _) dX5_endMark_5 cm_X5_markAt ml_X5_124 im_X5_markAt se_X5_markAt E.L.o rfl ⟨⟨Nat.le_of_ble_eq_true rfl, Nat.le_of_ble_eq_true rfl⟩, Nat.le_of_ble_eq_true rfl, Nat.le_of_ble_eq_true rfl⟩ rfl rfl (Nat.le_of_ble_eq_true rfl)) (fun v5 h5 hq5 => ?_)
  obtain ⟨rfl, rfl⟩ := hq5
  rw [uw0 hu, show mkA t m (-1) = none from cif_f (m1_no (by omega))]
  refine r_astore_nN (pc := 8) (lv' := [_, _, _, _]) C dX5_endMark_8 rfl (by decide) rfl rfl ?_
  refine r_aload_nN (pc := 9) C dX5_endMark_9 rfl rfl ?_
  refine r_ifnonnullN (pc := 10) C dX5_endMark_10 ?_
  exact r_vret (pc := 13) C rfl (Nat.le_of_ble_eq_true rfl) (Nat.le_of_ble_eq_true rfl) ⟨rfl, rfl⟩ dX5_endMark_13
theorem c_X5_endMark (E : RX x m t e h) (B : TB t) {j : Nat} (hu : tN t 0 5 = j + 1) {how : Nat} (hh : how ≤ 3) : MA G mX5_endMark 1 0 0 [.ref x, .int (nI how)] h (Ov (fun h' => RX x m (spEnd t how) (xEnd e j (tI t 0 1)) h' ∧ Fq (Px m) h h')) := by
  have b := B.marks
  have b1 := B.uw
  have b2 := B.S
  have b3 := E.L.b
  have hj : j < tN t 0 4 := by omega
  have L := E.L.M hj
  refine MA.intro (lv := [some (.ref x), some (.int (nI how)), none, none]) (by decide) (Nat.le_of_ble_eq_true rfl) rfl (fun F C => ?_)
  have t32 : ∀ h', RX x m (uN (uN t 9 j how) 0 5 0) (vI e 1 j (tI t 0 1)) h' → Fq (Px m) h h' → WA G F mX5_endMark h' 0 0 (MQA G F 0 0 (Ov (fun h' => RX x m (spEnd t how) (xEnd e j (tI t 0 1)) h' ∧ Fq (Px m) h h'))) 32 [some (.ref x), some (.int (nI how)), some (.ref (m + 24 + 7 * j)), none] [] := by
    intro h' E f
    refine r_iconst (pc := 32) (v := (nI 0)) C dX5_endMark_32 (by decide) ?_
    refine r_istore_n (pc := 33) (lv' := [_, _, _, _]) C dX5_endMark_33 rfl (by decide) rfl rfl ?_
    refine xend_l1s C E f b2 (fun h1 x3 E1 f1 => ?_)
    refine r_iconst (pc := 58) (v := (nI 0)) C dX5_endMark_58 (by decide) ?_
    refine r_istore_n (pc := 59) (lv' := [_, _, _, _]) C dX5_endMark_59 rfl (by decide) rfl rfl ?_
    refine xend_l2s C E1 f1 b2 (fun h2 x3 E2 f2 => ?_)
    refine r_vret (pc := 84) C rfl (Nat.le_refl _) (Nat.le_refl _) ⟨rfl, ?_, f2⟩ dX5_endMark_84
    have E3 := (((((E2.c_bar (fun _ => 0) (fun c hc => ?_)).c_came (fun _ => 0) (fun c hc => ?_)).c_loose (fun _ => 0) (fun c hc => ?_)).c_took (fun _ => 0) (fun c hc => ?_)).c_cm (fun _ => 0) (fun c hc => ?_)).c_fc (fun _ => 0) (fun c hc => ?_)
    · refine RX.eq (E3.z37 (tN t 0 5 - 1) (tI t 0 1 - tI t 2 (tN t 0 5 - 1)) (fun _ => 0)) (TS_ext (fun j => ?_) rfl rfl rfl rfl) (ES_ext (fun j => ?_) (fun j => ?_))
      · unfold spEnd
        rw [hu, Nat.add_sub_cancel]
        simp only [tN_s]
        by_cases h7 : j = 7
        · simp [h7]
        · by_cases h6 : j = 6
          · subst h6; rfl
          · by_cases h5 : j = 5
            · subst h5; rfl
            · by_cases h4 : j = 4
              · subst h4; rfl
              · simp only [if_neg h7, if_neg h6, if_neg h5, if_neg h4]
                show tN (uI _ 3 _ _) j = _
                rw [tN_uI]
                simp only [tN_s, if_neg h6, if_neg h5, if_neg h4]
                rfl
      · unfold xEnd
        show xN (vNs (vNs _ 1 (fun _ => 0)) 2 (fun _ => 0)) j = xN (vNs (vNs _ 1 (fun _ => 0)) 2 (fun _ => 0)) j
        simp only [xN_s]
        by_cases h2 : j = 2
        · simp [h2]
        · by_cases h1 : j = 1
          · simp [h1]
          · simp only [if_neg h2, if_neg h1]
            show xN (vIs (vNs _ 2 _) 0 _) j = _
            show xN (vNs _ 2 _) j = _
            simp only [xN_s, if_neg h2, if_neg h1]
      · unfold xEnd
        simp only [xI_s]
        by_cases h0 : j = 0
        · simp [h0]
        · simp only [if_neg h0]
          show xI (vIs _ 0 _) j = _
          rw [xI_s, if_neg h0]
          rfl
    · exact (if_pos hc).symm
    · exact (if_pos hc).symm
    · exact (if_pos hc).symm
    · exact (if_pos hc).symm
    · exact (if_pos hc).symm
    · exact (if_pos hc).symm
  refine r_aload_n (pc := 0) C dX5_endMark_0 rfl rfl ?_
  refine r_aload_n (pc := 1) C dX5_endMark_1 rfl rfl ?_
  refine r_getIe (pc := 2) C fl_X5_40 E.L.o rfl E.uw dX5_endMark_2 ?_
  refine r_callq (cr_V (pc := 5) C (c_X5_markAt E B _) dX5_endMark_5 cm_X5_markAt ml_X5_124 im_X5_markAt se_X5_markAt E.L.o rfl ⟨⟨Nat.le_of_ble_eq_true rfl, Nat.le_of_ble_eq_true rfl⟩, Nat.le_of_ble_eq_true rfl, Nat.le_of_ble_eq_true rfl⟩ rfl rfl (Nat.le_of_ble_eq_true rfl)) (fun v5 h5 hq5 => ?_)
  obtain ⟨rfl, rfl⟩ := hq5
  rw [uwS hu, mkA_n B hj]
  refine r_astore_n (pc := 8) (lv' := [_, _, _, _]) C dX5_endMark_8 rfl (by decide) rfl rfl ?_
  refine r_aload_n (pc := 9) C dX5_endMark_9 rfl rfl ?_
  refine r_ifnonnull (pc := 10) (tgt := 14) C dX5_endMark_10 (by decide) ?_
  refine r_aload_n (pc := 14) C dX5_endMark_14 rfl rfl ?_
  refine r_iload_n (pc := 15) C dX5_endMark_15 rfl rfl ?_
  refine r_putI (pc := 16) C fl_X5_132 L.1 rfl rfl rfl rfl dX5_endMark_16 ?_
  have E := E.p_stat hj how
  refine r_aload_n (pc := 19) C dX5_endMark_19 rfl rfl ?_
  refine r_aload_n (pc := 20) C dX5_endMark_20 rfl rfl ?_
  refine r_getIe (pc := 21) C fl_X5_43 E.L.o rfl (show _ = tI t 0 1 from E.turns) dX5_endMark_21 ?_
  refine r_putI (pc := 24) C fl_X5_218 (show hS h5 (m + 24 + 7 * j) = _ from L.1) rfl rfl rfl rfl dX5_endMark_24 ?_
  have E := E.p_ended (j := j) hj (tI t 0 1)
  refine r_aload_n (pc := 27) C dX5_endMark_27 rfl rfl ?_
  refine r_iconst (pc := 28) (v := (-1)) C dX5_endMark_28 (by decide) ?_
  refine r_putI (pc := 29) C fl_X5_40 E.L.o rfl rfl rfl rfl dX5_endMark_29 ?_
  have E := E.p_uw 0 (z := -1) (by decide)
  exact t32 _ E (((Fq.rf.pI (Or.inr (by omega))).pI (Or.inr (by omega))).pI (Or.inl (by omega)))
/-- the part of Ext that speaks of the input and of the marks -/
def ExtA (t : TS) (e : ES) : Prop :=
  (∀ k, k < 16 → unrOK t k (xN e 0 k)) ∧ (∀ k, xN e 0 k ≤ 200) ∧ (∀ j, j < tN t 0 4 → xN e 3 j = lsN t j 48) ∧
  (∀ j, j < tN t 0 4 → ∀ s, s < tN t 0 0 → xN e 4 (4 * j + s) = tN t 10 (4 * j + s)) ∧ ∀ j, j < tN t 0 4 → tN t 9 j ≠ 0 → xI e 1 j - tI t 2 j = tI t 3 j
theorem Ext.A (H : Ext t e) : ExtA t e := ⟨H.1, H.2.1, H.2.2.2.2.1, H.2.2.2.2.2.1, H.2.2.2.2.2.2.2⟩
theorem cmN_0 (h5 : ∀ c, tN t 5 c = 0) {s q : Nat} : ∀ n, cmN t s q n = 0
  | 0 => rfl
  | n + 1 => by unfold cmN; rw [cmN_0 h5 n, h5]
theorem ExtA.end (A : ExtA t e) {j how : Nat} (hu : tN t 0 5 = j + 1) : Ext (spEnd t how) (xEnd e j (tI t 0 1)) := by
  obtain ⟨a1, a2, a5, a6, a8⟩ := A
  refine ⟨fun k hk => ?_, a2, fun c hc => ?_, fun s q hs hq => ?_, fun i hi => ?_, a6, fun s q hs hq => ?_, fun i hi h9 => ?_⟩
  · have := a1 k hk
    unfold unrOK at this ⊢
    simp only [cnt_cg (t := t) (t' := spEnd t how) rfl]
    exact this
  · show 0 = if tN (spEnd t how) 0 5 = 0 then 0 else _
    exact (if_pos rfl).symm
  · rw [cmN_0 (t := spEnd t how) (fun c => rfl)]
    show 0 = _
    split <;> rfl
  · rw [lsN_cg (t := t) (t' := spEnd t how) rfl]; exact a5 i hi
  · exact ⟨⟨fun z => absurd rfl z, fun z => absurd rfl z.1⟩, fun z => absurd rfl z⟩
  · have h9' : tN (uN t 9 (tN t 0 5 - 1) how) 9 i ≠ 0 := h9
    show xI (vI e 1 j (tI t 0 1)) 1 i - tI t 2 i = tI (uI t 3 (tN t 0 5 - 1) (tI t 0 1 - tI t 2 (tN t 0 5 - 1))) 3 i
    rw [hu, Nat.add_sub_cancel] at h9' ⊢
    rw [xI_vI, tI_uI]
    rw [tN_uN] at h9'
    by_cases hij : i = j
    · rw [if_pos ⟨rfl, hij⟩, if_pos ⟨rfl, hij⟩, hij]
    · rw [if_neg (fun z => hij z.2)] at h9'
      rw [if_neg (fun z => hij z.2), if_neg (fun z => hij z.2)]
      exact a8 i hi h9'
theorem c_X5_giveUp (E : RX x m t e h) (B : TB t) (H : Ext t e) : MA G mX5_giveUp 2 0 0 [.ref x] h (Oi (XP x m h (spGive t))) := by
  have b := B.marks
  have b1 := B.uw
  refine MA.intro (lv := [some (.ref x), none]) (by decide) (Nat.le_of_ble_eq_true rfl) rfl (fun F C => ?_)
  by_cases hu : tN t 0 5 = 0
  · have e0 : spGive t = (-103, t) := cif_t hu
    refine r_aload_n (pc := 0) C dX5_giveUp_0 rfl rfl ?_
    refine r_getIe (pc := 1) C fl_X5_40 E.L.o rfl E.uw dX5_giveUp_1 ?_
    refine r_iconst (pc := 4) (v := (-1)) C dX5_giveUp_4 (by decide) ?_
    refine r_icmp_ne (pc := 5) (tgt := 11) C dX5_giveUp_5 (by decide) (fun c5 => absurd c5 (fun z => z (uw0 hu))) (fun c5 => ?_)
    refine r_bipush (pc := 8) (v := (-103)) C dX5_giveUp_8 (by decide) ?_
    exact r_iret (pc := 10) C rfl (Nat.le_of_ble_eq_true rfl) (Nat.le_of_ble_eq_true rfl) ⟨_, rfl, (xp e0 E H Fq.rf)⟩ dX5_giveUp_10
  · have e0 : spGive t = (nI (tN t 0 5 - 1), spEnd t 3) := cif_f hu
    have hj : tN t 0 5 = tN t 0 5 - 1 + 1 := by omega
    refine r_aload_n (pc := 0) C dX5_giveUp_0 rfl rfl ?_
    refine r_getIe (pc := 1) C fl_X5_40 E.L.o rfl E.uw dX5_giveUp_1 ?_
    refine r_iconst (pc := 4) (v := (-1)) C dX5_giveUp_4 (by decide) ?_
    refine r_icmp_ne (pc := 5) (tgt := 11) C dX5_giveUp_5 (by decide) (fun c5 => ?_) (fun c5 => absurd c5 (fun z => hu ((uwm1 (by omega)).mp z)))
    refine r_aload_n (pc := 11) C dX5_giveUp_11 rfl rfl ?_
    refine r_getIe (pc := 12) C fl_X5_40 E.L.o rfl E.uw dX5_giveUp_12 ?_
    refine r_istore_n (pc := 15) (lv' := [_, _]) C dX5_giveUp_15 rfl (by decide) rfl rfl ?_
    refine r_aload_n (pc := 16) C dX5_giveUp_16 rfl rfl ?_
    refine r_iconst (pc := 17) (v := (nI 3)) C dX5_giveUp_17 (by decide) ?_
    refine r_callv (cr_V (pc := 18) C (c_X5_endMark E B hj (how := 3) (by decide)) dX5_giveUp_18 cm_X5_endMark ml_X5_120 im_X5_endMark se_X5_endMark E.L.o rfl ⟨⟨Nat.le_of_ble_eq_true rfl, Nat.le_of_ble_eq_true rfl⟩, Nat.le_of_ble_eq_true rfl, Nat.le_of_ble_eq_true rfl⟩ rfl rfl (Nat.le_of_ble_eq_true rfl)) (fun h18 hq18 => ?_)
    obtain ⟨E2, f2⟩ := hq18
    refine r_iload_n (pc := 21) C dX5_giveUp_21 rfl rfl ?_
    exact r_iret (pc := 22) C rfl (Nat.le_of_ble_eq_true rfl) (Nat.le_of_ble_eq_true rfl) ⟨_, rfl, (by rw [uwS hj]; exact xp e0 E2 (H.A.end hj) f2)⟩ dX5_giveUp_22
end CF60
