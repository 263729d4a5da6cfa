/-! ===== the class: audit, its parts ===== -/
/-- the flow's numbers -/
def FLW (x : Nat) (h : AH) (N : Nat → Nat) (S : Nat → Int64) : Prop := (∀ i, i < 64 → hI h (x + 11) i = nI (N i)) ∧ ∀ i, i < 64 → hL h (x + 12) i = S i
/-- one more row of gap g -/
def fN1 (t : TS) (g r : Nat) (N : Nat → Nat) : Nat → Nat := va_up N (16 * g + tN t 2 r) (N (16 * g + tN t 2 r) + 1)
def fL1 (t : TS) (g r : Nat) (S : Nat → Int64) : Nat → Int64 := va_up S (16 * g + tN t 2 r) (S (16 * g + tN t 2 r) + tL t 0 r)
def fNs (t : TS) (g : Nat) : List Nat → (Nat → Nat) → (Nat → Nat)
  | [], N => N
  | r :: l, N => fNs t g l (fN1 t g r N)
def fLs (t : TS) (g : Nat) : List Nat → (Nat → Int64) → (Nat → Int64)
  | [], S => S
  | r :: l, S => fLs t g l (fL1 t g r S)
theorem fNs_at {t : TS} (hk : ∀ i, tN t 2 i ≤ 15) {g g' k : Nat} (h : k < 16) : ∀ (l : List Nat) (N : Nat → Nat), fNs t g l N (16 * g' + k) = N (16 * g' + k) + (if g' = g then kcN t k l else 0)
  | [], N => by simp [fNs, kcN]
  | r :: l, N => by
    have := hk r
    show fNs t g l (fN1 t g r N) (16 * g' + k) = _
    rw [fNs_at hk h l]
    unfold fN1
    by_cases e : 16 * g' + k = 16 * g + tN t 2 r
    · have e1 : g' = g := by omega
      have e2 : tN t 2 r = k := by omega
      subst e1
      rw [← e, up_s, if_pos rfl, if_pos rfl]
      show _ = _ + ((if tN t 2 r = k then 1 else 0) + kcN t k l)
      rw [if_pos e2]; omega
    · rw [up_ne e]
      by_cases e1 : g' = g
      · subst e1
        rw [if_pos rfl, if_pos rfl]
        show _ = _ + ((if tN t 2 r = k then 1 else 0) + kcN t k l)
        rw [if_neg (by omega)]; omega
      · rw [if_neg e1, if_neg e1]
theorem fLs_at {t : TS} (hk : ∀ i, tN t 2 i ≤ 15) {g g' k : Nat} (h : k < 16) : ∀ (l : List Nat) (S : Nat → Int64), fLs t g l S (16 * g' + k) = S (16 * g' + k) + (if g' = g then ksN t k l else 0)
  | [], S => by simp [fLs, ksN]
  | r :: l, S => by
    have := hk r
    show fLs t g l (fL1 t g r S) (16 * g' + k) = _
    rw [fLs_at hk h l]
    unfold fL1
    by_cases e : 16 * g' + k = 16 * g + tN t 2 r
    · have e1 : g' = g := by omega
      have e2 : tN t 2 r = k := by omega
      subst e1
      rw [← e, up_s, if_pos rfl, if_pos rfl]
      show _ = _ + ((if tN t 2 r = k then tL t 0 r else 0) + ksN t k l)
      rw [if_pos e2, Int64.add_assoc]
    · rw [up_ne e]
      by_cases e1 : g' = g
      · subst e1
        rw [if_pos rfl, if_pos rfl]
        show _ = _ + ((if tN t 2 r = k then tL t 0 r else 0) + ksN t k l)
        rw [if_neg (by omega), Int64.zero_add]
      · rw [if_neg e1, if_neg e1]
def Pf (x : Nat) : Nat → Prop := fun z => z = x + 11 ∨ z = x + 12
theorem FLW.one {x : Nat} {h : AH} {N : Nat → Nat} {S : Nat → Int64} (f : FLW x h N S) {t : TS} {g r : Nat} {i : Nat} (hi : i = 16 * g + tN t 2 r) : FLW x (pL (pI h (x + 11) i (nI (N i + 1))) (x + 12) i (S i + tL t 0 r)) (fN1 t g r N) (fL1 t g r S) := by
  subst hi
  refine ⟨fun b hb => ?_, fun b hb => ?_⟩
  · show hI (pI h (x + 11) _ _) (x + 11) b = _
    rw [hI_eq]
    unfold fN1 va_up
    split
    · rfl
    · exact f.1 b hb
  · rw [hL_eq]
    unfold fL1 va_up
    split
    · rfl
    · exact f.2 b hb
section CA77
variable {G : GP} {x m : Nat} {t : TS} {e : ES} {F : FX} {Q : State → Prop}
theorem addf_l (C : CX G F mX5_addFlow (Rm 3 0 0)) (B : TB t) {h0 : AH} {c : Nat} (hc : c < 16 * (tN t 0 0 - 1)) {N0 : Nat → Nat} {S0 : Nat → Int64}
    (k : ∀ h x2 x3, RX x m t e h → FLW x h N0 S0 → Fq (Pf x) h0 h → WA G F mX5_addFlow h 0 0 Q 57 [some (.ref x), some (.ref (x + 15 + c)), some (.int x2), some (.int x3)] []) :
    ∀ (rest : List Nat) (i : Nat) (h : AH) (N : Nat → Nat) (S : Nat → Int64), (tC t c).drop i = rest → i ≤ (tC t c).length → fNs t (c / 16) rest N = N0 → fLs t (c / 16) rest S = S0 → RX x m t e h → FLW x h N S → Fq (Pf x) h0 h → WA G F mX5_addFlow h 0 0 Q 7 [some (.ref x), some (.ref (x + 15 + c)), some (.int (fsI rest)), some (.int (nI i))] [] := by
  have b := B.S
  have bf := B.fed
  have bl := B.len c
  intro rest
  induction rest with
  | nil =>
    intro i h N S hd hi hN hS E f ff
    have hi2 : (tC t c).length ≤ i := List.drop_eq_nil_iff.mp hd
    have hN : N = N0 := hN
    have hS : S = S0 := hS
    subst hN
    subst hS
    have K := E.k_ch c hc
    refine r_iload_n (pc := 7) C dX5_addFlow_7 rfl rfl ?_
    refine r_aload_n (pc := 8) C dX5_addFlow_8 rfl rfl ?_
    refine r_getIe (pc := 9) C fl_X5_189 (E.L.ch hc).2.1 rfl K.2.2.2.1 dX5_addFlow_9 ?_
    refine n_icmp_ge (pc := 12) (tgt := 57) C (by omega) (by omega) dX5_addFlow_12 (by decide) (fun c12 => ?_) (fun c12 => absurd c12 (by omega))
    exact k _ _ _ E f ff
  | cons r rest ih =>
    intro i h N S hd hi hN hS E f ff
    have hilt : i < (tC t c).length := by
      rcases Nat.lt_or_ge i (tC t c).length with z | z
      · exact z
      · rw [List.drop_eq_nil_iff.mpr z] at hd; cases hd
    have hrm : r ∈ tC t c := List.mem_of_mem_drop (i := i) (by rw [hd]; exact List.mem_cons_self ..)
    have hr := B.row hrm
    have hd2 : (tC t c).drop (i + 1) = rest := by rw [← List.tail_drop, hd]; rfl
    have K := E.k_ch c hc
    have CH := (E.k_beh c hc).drop i
    rw [hd] at CH
    have k15 := B.key r
    have ek : keyI t (nI r) = nI (tN t 2 r) := by
      unfold keyI
      rw [cif_t ⟨r, hr, rfl⟩, nI_clamp (by omega)]
    have ev : valI t (nI r) = tL t 0 r := by
      unfold valI
      rw [cif_t ⟨r, hr, rfl⟩, nI_clamp (by omega)]
    have hg : c / 16 < 4 := by omega
    have bx := E.L.b
    have f2 : Fq (Pf x) h (pL (pI h (x + 11) (16 * (c / 16) + tN t 2 r) (nI (N (16 * (c / 16) + tN t 2 r) + 1))) (x + 12) (16 * (c / 16) + tN t 2 r) (S (16 * (c / 16) + tN t 2 r) + tL t 0 r)) := (Fq.rf.pI (Or.inl rfl)).pL (Or.inr rfl)
    have E2 := E.fq f2 (fun a ha => by unfold Pf at ha; omega)
    have hb13 : hI (pL (pI h (x + 11) (16 * (c / 16) + tN t 2 r) (nI (N (16 * (c / 16) + tN t 2 r) + 1))) (x + 12) (16 * (c / 16) + tN t 2 r) (S (16 * (c / 16) + tN t 2 r) + tL t 0 r)) (x + 13) r = fsI rest := by show hI (pI h (x + 11) _ _) (x + 13) r = _; rw [hI_ne (by omega)]; exact CH.1
    have hr' : fsI (r :: rest) = nI r := rfl
    rw [hr']
    refine r_iload_n (pc := 7) C dX5_addFlow_7 rfl rfl ?_
    refine r_aload_n (pc := 8) C dX5_addFlow_8 rfl rfl ?_
    refine r_getIe (pc := 9) C fl_X5_189 (E.L.ch hc).2.1 rfl K.2.2.2.1 dX5_addFlow_9 ?_
    refine n_icmp_ge (pc := 12) (tgt := 57) C (by omega) (by omega) dX5_addFlow_12 (by decide) (fun c12 => absurd c12 (by omega)) (fun c12 => ?_)
    refine r_aload_n (pc := 15) C dX5_addFlow_15 rfl rfl ?_
    refine r_getR (pc := 16) C fl_X5_33 E.L.o rfl E.L.r7 dX5_addFlow_16 ?_
    refine r_aload_n (pc := 19) C dX5_addFlow_19 rfl rfl ?_
    refine r_getIe (pc := 20) C fl_X5_356 (E.L.ch hc).2.1 rfl K.1 dX5_addFlow_20 ?_
    refine r_calli (cr_S (pc := 23) C (c_X5_gapOf _ c (by omega)) dX5_addFlow_23 cm_X5_gapOf ml_X5_353 st_X5_gapOf ⟨⟨Nat.le_of_ble_eq_true rfl, Nat.le_of_ble_eq_true rfl⟩, Nat.le_of_ble_eq_true rfl, Nat.le_of_ble_eq_true rfl⟩ rfl rfl (Nat.le_of_ble_eq_true rfl)) (fun v23 h23 hq23 => ?_)
    obtain ⟨rfl, rfl⟩ := hq23
    refine r_aload_n (pc := 26) C dX5_addFlow_26 rfl rfl ?_
    refine r_getR (pc := 27) C fl_X5_16 E.L.o rfl E.L.r2 dX5_addFlow_27 ?_
    refine r_iload_n (pc := 30) C dX5_addFlow_30 rfl rfl ?_
    refine r_calli (cr_V (pc := 31) C (c_X1_keyOf E.L.I E.K1 bf _) dX5_addFlow_31 cm_X1_keyOf ml_X5_204 im_X1_keyOf se_X1_keyOf E.L.I.1 rfl ⟨⟨Nat.le_of_ble_eq_true rfl, Nat.le_of_ble_eq_true rfl⟩, Nat.le_of_ble_eq_true rfl, Nat.le_of_ble_eq_true rfl⟩ rfl rfl (Nat.le_of_ble_eq_true rfl)) (fun v31 h31 hq31 => ?_)
    obtain ⟨rfl, rfl⟩ := hq31
    rw [ek]
    refine r_aload_n (pc := 34) C dX5_addFlow_34 rfl rfl ?_
    refine r_getR (pc := 35) C fl_X5_16 E.L.o rfl E.L.r2 dX5_addFlow_35 ?_
    refine r_iload_n (pc := 38) C dX5_addFlow_38 rfl rfl ?_
    refine r_calll (cr_V (pc := 39) C (c_X1_valueOf E.L.I E.K1 bf _) dX5_addFlow_39 cm_X1_valueOf ml_X5_207 im_X1_valueOf se_X1_valueOf E.L.I.1 rfl ⟨⟨Nat.le_of_ble_eq_true rfl, Nat.le_of_ble_eq_true rfl⟩, Nat.le_of_ble_eq_true rfl, Nat.le_of_ble_eq_true rfl⟩ rfl rfl (Nat.le_of_ble_eq_true rfl)) (fun v39 h39 hq39 => ?_)
    obtain ⟨rfl, rfl⟩ := hq39
    rw [ev]
    refine r_callv (cr_V (pc := 42) C (c_X3_count E.L.F hg (by omega) (f.1 _ (by omega)) (f.2 _ (by omega))) dX5_addFlow_42 cm_X3_count ml_X5_307 im_X3_count se_X3_count E.L.F.1 rfl ⟨⟨Nat.le_of_ble_eq_true rfl, Nat.le_of_ble_eq_true rfl⟩, Nat.le_of_ble_eq_true rfl, Nat.le_of_ble_eq_true rfl⟩ rfl rfl (Nat.le_of_ble_eq_true rfl)) (fun h42 hq42 => ?_)
    subst hq42
    refine r_aload_n (pc := 45) C dX5_addFlow_45 rfl rfl ?_
    refine r_iload_n (pc := 46) C dX5_addFlow_46 rfl rfl ?_
    refine r_calli (cr_V (pc := 47) C (c_X0_rowBehind (E2.L.ch hc).2.1 (E2.L.ch hc).2.2 E2.L.sb (by omega) hb13) dX5_addFlow_47 cm_X0_rowBehind ml_X5_340 im_X0_rowBehind se_X0_rowBehind (E2.L.ch hc).2.1 rfl ⟨⟨Nat.le_of_ble_eq_true rfl, Nat.le_of_ble_eq_true rfl⟩, Nat.le_of_ble_eq_true rfl, Nat.le_of_ble_eq_true rfl⟩ rfl rfl (Nat.le_of_ble_eq_true rfl)) (fun v47 h47 hq47 => ?_)
    obtain ⟨rfl, rfl⟩ := hq47
    refine r_istore_n (pc := 50) (lv' := [_, _, _, _]) C dX5_addFlow_50 rfl (by decide) rfl rfl ?_
    refine n_iinc (pc := 51) (lv' := [_, _, _, _]) C dX5_addFlow_51 rfl (by decide) rfl rfl ?_
    refine r_goto (pc := 54) (tgt := 7) C dX5_addFlow_54 (by decide) ?_
    exact ih (i + 1) _ _ _ hd2 (by omega) hN hS E2 (f.one rfl) (ff.tr f2)
theorem c_X5_addFlow {h : AH} (E : RX x m t e h) (B : TB t) {c : Nat} (hc : c < 16 * (tN t 0 0 - 1)) {N : Nat → Nat} {S : Nat → Int64} (f : FLW x h N S) : MA G mX5_addFlow 3 0 0 [.ref x, .ref (x + 15 + c)] h (Ov (fun h' => RX x m t e h' ∧ FLW x h' (fNs t (c / 16) (tC t c) N) (fLs t (c / 16) (tC t c) S) ∧ Fq (Pf x) h h')) := by
  refine MA.intro (lv := [some (.ref x), some (.ref (x + 15 + c)), none, none]) (by decide) (Nat.le_of_ble_eq_true rfl) rfl (fun F C => ?_)
  have K := E.k_ch c hc
  have t57 : ∀ h2 x2 x3, RX x m t e h2 → FLW x h2 (fNs t (c / 16) (tC t c) N) (fLs t (c / 16) (tC t c) S) → Fq (Pf x) h h2 → WA G F mX5_addFlow h2 0 0 (MQA G F 0 0 (Ov (fun h' => RX x m t e h' ∧ FLW x h' (fNs t (c / 16) (tC t c) N) (fLs t (c / 16) (tC t c) S) ∧ Fq (Pf x) h h'))) 57 [some (.ref x), some (.ref (x + 15 + c)), some (.int x2), some (.int x3)] [] := by
    intro h2 x2 x3 E2 f2 ff
    exact r_vret (pc := 57) C rfl (Nat.le_of_ble_eq_true rfl) (Nat.le_of_ble_eq_true rfl) ⟨rfl, ⟨E2, f2, ff⟩⟩ dX5_addFlow_57
  refine r_aload_n (pc := 0) C dX5_addFlow_0 rfl rfl ?_
  refine r_getIe (pc := 1) C fl_X5_337 (E.L.ch hc).2.1 rfl K.2.1 dX5_addFlow_1 ?_
  refine r_istore_n (pc := 4) (lv' := [_, _, _, _]) C dX5_addFlow_4 rfl (by decide) rfl rfl ?_
  refine r_iconst (pc := 5) (v := (nI 0)) C dX5_addFlow_5 (by decide) ?_
  refine r_istore_n (pc := 6) (lv' := [_, _, _, _]) C dX5_addFlow_6 rfl (by decide) rfl rfl ?_
  exact addf_l C B hc t57 (tC t c) 0 h N S rfl (Nat.zero_le _) rfl rfl E f Fq.rf
/-- rows kept -/
def kNs (t : TS) : List (Nat × Nat) → (Nat → Nat) → (Nat → Nat)
  | [], N => N
  | p :: l, N => kNs t l (fN1 t (p.1 / 16) p.2 N)
def kLs (t : TS) : List (Nat × Nat) → (Nat → Int64) → (Nat → Int64)
  | [], S => S
  | p :: l, S => kLs t l (fL1 t (p.1 / 16) p.2 S)
theorem kNs_at (hk : ∀ i, tN t 2 i ≤ 15) {g' k : Nat} (h : k < 16) : ∀ (l : List (Nat × Nat)) (N : Nat → Nat), kNs t l N (16 * g' + k) = N (16 * g' + k) + kcK t g' k l
  | [], N => by simp [kNs, kcK]
  | p :: l, N => by
    have := hk p.2
    show kNs t l (fN1 t (p.1 / 16) p.2 N) (16 * g' + k) = _
    rw [kNs_at hk h l]
    show _ = _ + ((if p.1 / 16 = g' ∧ tN t 2 p.2 = k then 1 else 0) + kcK t g' k l)
    unfold fN1
    by_cases e : 16 * g' + k = 16 * (p.1 / 16) + tN t 2 p.2
    · rw [← e, up_s, if_pos ⟨by omega, by omega⟩]; omega
    · rw [up_ne e, if_neg (by omega)]; omega
theorem kLs_at (hk : ∀ i, tN t 2 i ≤ 15) {g' k : Nat} (h : k < 16) : ∀ (l : List (Nat × Nat)) (S : Nat → Int64), kLs t l S (16 * g' + k) = S (16 * g' + k) + ksK t g' k l
  | [], S => by simp [kLs, ksK]
  | p :: l, S => by
    have := hk p.2
    show kLs t l (fL1 t (p.1 / 16) p.2 S) (16 * g' + k) = _
    rw [kLs_at hk h l]
    show _ = _ + ((if p.1 / 16 = g' ∧ tN t 2 p.2 = k then tL t 0 p.2 else 0) + ksK t g' k l)
    unfold fL1
    by_cases e : 16 * g' + k = 16 * (p.1 / 16) + tN t 2 p.2
    · rw [← e, up_s, if_pos ⟨by omega, by omega⟩, Int64.add_assoc]
    · rw [up_ne e, if_neg (by omega), Int64.zero_add]
theorem addk_l (C : CX G F mX5_addKeptFlow (Rm 3 0 0)) (B : TB t) {h0 : AH} {j : Nat} (hj : j < tN t 0 4) {N0 : Nat → Nat} {S0 : Nat → Int64}
    (k : ∀ h x2 x3, RX x m t e h → FLW x h N0 S0 → Fq (Pf x) h0 h → WA G F mX5_addKeptFlow h 0 0 Q 53 [some (.ref x), some (.ref (m + 24 + 7 * j)), some (.int x2), x3] []) :
    ∀ (rest : List (Nat × Nat)) (i : Nat) (h : AH) (N : Nat → Nat) (S : Nat → Int64) (x3 : Option Value), (tK t j).drop i = rest → i ≤ (tK t j).length → kNs t rest N = N0 → kLs t rest S = S0 → RX x m t e h → FLW x h N S → Fq (Pf x) h0 h → WA G F mX5_addKeptFlow h 0 0 Q 2 [some (.ref x), some (.ref (m + 24 + 7 * j)), some (.int (nI i)), x3] [] := by
  have b := B.S
  have bf := B.fed
  have bk := B.klen j
  intro rest
  induction rest with
  | nil =>
    intro i h N S x3 hd hi hN hS E f ff
    have hi2 : (tK t j).length ≤ i := List.drop_eq_nil_iff.mp hd
    have hN : N = N0 := hN
    have hS : S = S0 := hS
    subst hN
    subst hS
    have f5 := (E.k_mo j hj).2.1
    refine r_iload_n (pc := 2) C dX5_addKeptFlow_2 rfl rfl ?_
    refine r_aload_n (pc := 3) C dX5_addKeptFlow_3 rfl rfl ?_
    refine r_getIe (pc := 4) C fl_X5_212 (E.L.M hj).1 rfl f5 dX5_addKeptFlow_4 ?_
    refine n_icmp_ge (pc := 7) (tgt := 53) C (by omega) (by omega) dX5_addKeptFlow_7 (by decide) (fun c7 => ?_) (fun c7 => absurd c7 (by omega))
    exact k _ _ _ E f ff
  | cons p rest ih =>
    intro i h N S x3 hd hi hN hS E f ff
    have hilt : i < (tK t j).length := by
      rcases Nat.lt_or_ge i (tK t j).length with z | z
      · exact z
      · rw [List.drop_eq_nil_iff.mpr z] at hd; cases hd
    have hp : (tK t j)[i]? = some p := by
      have : ((tK t j).drop i)[0]? = some p := by rw [hd]; rfl
      rw [List.getElem?_drop] at this; exact this
    have hpm : p ∈ tK t j := List.mem_of_getElem? hp
    have hd2 : (tK t j).drop (i + 1) = rest := by rw [← List.tail_drop, hd]; rfl
    have f5 := (E.k_mo j hj).2.1
    have fr := E.k_mr j hj i hilt
    have fc := E.k_mf j hj i hilt
    rw [List.getD_eq_getElem?_getD, hp] at fr fc
    have fr : hI h (m + 24 + 7 * j + 4) i = nI p.2 := fr
    have fc : hI h (m + 24 + 7 * j + 5) i = nI p.1 := fc
    have kr := B.krow hpm
    have k15 := B.key p.2
    have ek : keyI t (nI p.2) = nI (tN t 2 p.2) := by
      unfold keyI
      rw [cif_t ⟨p.2, kr.2, rfl⟩, nI_clamp (by omega)]
    have ev : valI t (nI p.2) = tL t 0 p.2 := by
      unfold valI
      rw [cif_t ⟨p.2, kr.2, rfl⟩, nI_clamp (by omega)]
    have hg : p.1 / 16 < 4 := by omega
    have bx := E.L.b
    have f2 : Fq (Pf x) h (pL (pI h (x + 11) (16 * (p.1 / 16) + tN t 2 p.2) (nI (N (16 * (p.1 / 16) + tN t 2 p.2) + 1))) (x + 12) (16 * (p.1 / 16) + tN t 2 p.2) (S (16 * (p.1 / 16) + tN t 2 p.2) + tL t 0 p.2)) := (Fq.rf.pI (Or.inl rfl)).pL (Or.inr rfl)
    have E2 := E.fq f2 (fun a ha => by unfold Pf at ha; omega)
    refine r_iload_n (pc := 2) C dX5_addKeptFlow_2 rfl rfl ?_
    refine r_aload_n (pc := 3) C dX5_addKeptFlow_3 rfl rfl ?_
    refine r_getIe (pc := 4) C fl_X5_212 (E.L.M hj).1 rfl f5 dX5_addKeptFlow_4 ?_
    refine n_icmp_ge (pc := 7) (tgt := 53) C (by omega) (by omega) dX5_addKeptFlow_7 (by decide) (fun c7 => absurd c7 (by omega)) (fun c7 => ?_)
    refine r_aload_n (pc := 10) C dX5_addKeptFlow_10 rfl rfl ?_
    refine r_iload_n (pc := 11) C dX5_addKeptFlow_11 rfl rfl ?_
    refine r_calli (cr_V (pc := 12) C (c_X2_rowKept (E.L.M hj) f5 bk hilt fr) dX5_addKeptFlow_12 cm_X2_rowKept ml_X5_350 im_X2_rowKept se_X2_rowKept (E.L.M hj).1 rfl ⟨⟨Nat.le_of_ble_eq_true rfl, Nat.le_of_ble_eq_true rfl⟩, Nat.le_of_ble_eq_true rfl, Nat.le_of_ble_eq_true rfl⟩ rfl rfl (Nat.le_of_ble_eq_true rfl)) (fun v12 h12 hq12 => ?_)
    obtain ⟨rfl, rfl⟩ := hq12
    refine r_istore_n (pc := 15) (lv' := [_, _, _, _]) C dX5_addKeptFlow_15 rfl (by decide) rfl rfl ?_
    refine r_aload_n (pc := 16) C dX5_addKeptFlow_16 rfl rfl ?_
    refine r_getR (pc := 17) C fl_X5_33 E.L.o rfl E.L.r7 dX5_addKeptFlow_17 ?_
    refine r_aload_n (pc := 20) C dX5_addKeptFlow_20 rfl rfl ?_
    refine r_iload_n (pc := 21) C dX5_addKeptFlow_21 rfl rfl ?_
    refine r_calli (cr_V (pc := 22) C (c_X2_channelKept (E.L.M hj) f5 bk hilt fc) dX5_addKeptFlow_22 cm_X2_channelKept ml_X5_347 im_X2_channelKept se_X2_channelKept (E.L.M hj).1 rfl ⟨⟨Nat.le_of_ble_eq_true rfl, Nat.le_of_ble_eq_true rfl⟩, Nat.le_of_ble_eq_true rfl, Nat.le_of_ble_eq_true rfl⟩ rfl rfl (Nat.le_of_ble_eq_true rfl)) (fun v22 h22 hq22 => ?_)
    obtain ⟨rfl, rfl⟩ := hq22
    refine r_calli (cr_S (pc := 25) C (c_X5_gapOf _ p.1 (by omega)) dX5_addKeptFlow_25 cm_X5_gapOf ml_X5_353 st_X5_gapOf ⟨⟨Nat.le_of_ble_eq_true rfl, Nat.le_of_ble_eq_true rfl⟩, Nat.le_of_ble_eq_true rfl, Nat.le_of_ble_eq_true rfl⟩ rfl rfl (Nat.le_of_ble_eq_true rfl)) (fun v25 h25 hq25 => ?_)
    obtain ⟨rfl, rfl⟩ := hq25
    refine r_aload_n (pc := 28) C dX5_addKeptFlow_28 rfl rfl ?_
    refine r_getR (pc := 29) C fl_X5_16 E.L.o rfl E.L.r2 dX5_addKeptFlow_29 ?_
    refine r_iload_n (pc := 32) C dX5_addKeptFlow_32 rfl rfl ?_
    refine r_calli (cr_V (pc := 33) C (c_X1_keyOf E.L.I E.K1 bf _) dX5_addKeptFlow_33 cm_X1_keyOf ml_X5_204 im_X1_keyOf se_X1_keyOf E.L.I.1 rfl ⟨⟨Nat.le_of_ble_eq_true rfl, Nat.le_of_ble_eq_true rfl⟩, Nat.le_of_ble_eq_true rfl, Nat.le_of_ble_eq_true rfl⟩ rfl rfl (Nat.le_of_ble_eq_true rfl)) (fun v33 h33 hq33 => ?_)
    obtain ⟨rfl, rfl⟩ := hq33
    rw [ek]
    refine r_aload_n (pc := 36) C dX5_addKeptFlow_36 rfl rfl ?_
    refine r_getR (pc := 37) C fl_X5_16 E.L.o rfl E.L.r2 dX5_addKeptFlow_37 ?_
    refine r_iload_n (pc := 40) C dX5_addKeptFlow_40 rfl rfl ?_
    refine r_calll (cr_V (pc := 41) C (c_X1_valueOf E.L.I E.K1 bf _) dX5_addKeptFlow_41 cm_X1_valueOf ml_X5_207 im_X1_valueOf se_X1_valueOf E.L.I.1 rfl ⟨⟨Nat.le_of_ble_eq_true rfl, Nat.le_of_ble_eq_true rfl⟩, Nat.le_of_ble_eq_true rfl, Nat.le_of_ble_eq_true rfl⟩ rfl rfl (Nat.le_of_ble_eq_true rfl)) (fun v41 h41 hq41 => ?_)
    obtain ⟨rfl, rfl⟩ := hq41
    rw [ev]
    refine r_callv (cr_V (pc := 44) C (c_X3_count E.L.F hg (by omega) (f.1 _ (by omega)) (f.2 _ (by omega))) dX5_addKeptFlow_44 cm_X3_count ml_X5_307 im_X3_count se_X3_count E.L.F.1 rfl ⟨⟨Nat.le_of_ble_eq_true rfl, Nat.le_of_ble_eq_true rfl⟩, Nat.le_of_ble_eq_true rfl, Nat.le_of_ble_eq_true rfl⟩ rfl rfl (Nat.le_of_ble_eq_true rfl)) (fun h44 hq44 => ?_)
    subst hq44
    refine n_iinc (pc := 47) (lv' := [_, _, _, _]) C dX5_addKeptFlow_47 rfl (by decide) rfl rfl ?_
    refine r_goto (pc := 50) (tgt := 2) C dX5_addKeptFlow_50 (by decide) ?_
    exact ih (i + 1) _ _ _ _ hd2 (by omega) hN hS E2 (f.one rfl) (ff.tr f2)
theorem c_X5_addKeptFlow {h : AH} (E : RX x m t e h) (B : TB t) {j : Nat} (hj : j < tN t 0 4) {N : Nat → Nat} {S : Nat → Int64} (f : FLW x h N S) : MA G mX5_addKeptFlow 3 0 0 [.ref x, .ref (m + 24 + 7 * j)] h (Ov (fun h' => RX x m t e h' ∧ FLW x h' (kNs t (tK t j) N) (kLs t (tK t j) S) ∧ Fq (Pf x) h h')) := by
  refine MA.intro (lv := [some (.ref x), some (.ref (m + 24 + 7 * j)), none, none]) (by decide) (Nat.le_of_ble_eq_true rfl) rfl (fun F C => ?_)
  have t53 : ∀ h2 x2 x3, RX x m t e h2 → FLW x h2 (kNs t (tK t j) N) (kLs t (tK t j) S) → Fq (Pf x) h h2 → WA G F mX5_addKeptFlow h2 0 0 (MQA G F 0 0 (Ov (fun h' => RX x m t e h' ∧ FLW x h' (kNs t (tK t j) N) (kLs t (tK t j) S) ∧ Fq (Pf x) h h'))) 53 [some (.ref x), some (.ref (m + 24 + 7 * j)), some (.int x2), x3] [] := by
    intro h2 x2 x3 E2 f2 ff
    exact r_vret (pc := 53) C rfl (Nat.le_of_ble_eq_true rfl) (Nat.le_of_ble_eq_true rfl) ⟨rfl, ⟨E2, f2, ff⟩⟩ dX5_addKeptFlow_53
  refine r_iconst (pc := 0) (v := (nI 0)) C dX5_addKeptFlow_0 (by decide) ?_
  refine r_istore_n (pc := 1) (lv' := [_, _, _, _]) C dX5_addKeptFlow_1 rfl (by decide) rfl rfl ?_
  exact addk_l C B hj t53 (tK t j) 0 h N S _ rfl (Nat.zero_le _) rfl rfl E f Fq.rf
end CA77
