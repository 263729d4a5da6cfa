/-! ===== the class: keeping rows, taking part ===== -/
/-- what Ext says of the loose channels, with mark j under way -/
def EU (j : Nat) (t : TS) (e : ES) : Prop := (∀ c, c < 16 * (tN t 0 0 - 1) → xN e 1 c = tN t 12 (48 * j + c)) ∧ ExtA t e
def ExtB (t : TS) (e : ES) : Prop :=
  (∀ s q, s < tN t 0 0 → q < 4 → xN e 2 (4 * s + q) = if s = 0 then 0 else cmN t s q (tN t 1 (s - 1))) ∧
  ∀ s q, s < tN t 0 0 → q < 4 → (tN t 7 (4 * s + q) ≠ 0 ↔ (xN e 2 (4 * s + q) ≠ 0 ∧ tN t 6 (4 * s + q) = 0)) ∧ (tN t 7 (4 * s + q) ≠ 0 → xI e 0 (4 * s + q) = tI t 1 (4 * s + q))
theorem Ext.U {t : TS} {e : ES} (H : Ext t e) {j : Nat} (hu : tN t 0 5 = j + 1) : EU j t e := ⟨fun c hc => by rw [H.2.2.1 c hc, hu, if_neg (by omega), Nat.add_sub_cancel], H.A⟩
theorem Ext.B {t : TS} {e : ES} (H : Ext t e) : ExtB t e := ⟨H.2.2.2.1, H.2.2.2.2.2.2.1⟩
theorem EU.ext {t : TS} {e : ES} {j : Nat} (U : EU j t e) (V : ExtB t e) (hu : tN t 0 5 = j + 1) : Ext t e := ⟨U.2.1, U.2.2.1, fun c hc => by rw [hu, if_neg (by omega), Nat.add_sub_cancel]; exact U.1 c hc, V.1, U.2.2.2.1, U.2.2.2.2.1, V.2, U.2.2.2.2.2⟩
theorem ExtA.cg {t t' : TS} {e : ES} (H : ExtA t e) (h00 : tN t' 0 0 = tN t 0 0) (h03 : tN t' 0 3 = tN t 0 3) (h04 : tN t' 0 4 = tN t 0 4) (h2 : tN t' 2 = tN t 2) (h3 : tN t' 3 = tN t 3) (h9 : tN t' 9 = tN t 9) (h10 : tN t' 10 = tN t 10) (h12 : tN t' 12 = tN t 12) (i2 : tI t' 2 = tI t 2) (i3 : tI t' 3 = tI t 3) : ExtA t' e := by
  obtain ⟨a1, a2, a3, a4, a5⟩ := H
  unfold ExtA unrOK
  simp only [cnt_cg h2, lsN_cg h12, h00, h03, h04, h2, h3, h9, h10, i2, i3]
  exact ⟨a1, a2, a3, a4, a5⟩
theorem ExtB.cg {t t' : TS} {e e' : ES} (H : ExtB t e) (h00 : tN t' 0 0 = tN t 0 0) (h1 : tN t' 1 = tN t 1) (h5 : tN t' 5 = tN t 5) (h6 : tN t' 6 = tN t 6) (h7 : tN t' 7 = tN t 7) (i1 : tI t' 1 = tI t 1) (e2 : xN e' 2 = xN e 2) (e0 : xI e' 0 = xI e 0) : ExtB t' e' := by
  obtain ⟨a1, a2⟩ := H
  unfold ExtB
  simp only [cmN_cg h5, h00, h1, h6, h7, i1, e2, e0]
  exact ⟨a1, a2⟩
theorem lsN_put {t : TS} {j c : Nat} (h0 : tN t 12 (48 * j + c) = 0) (hc : c < 48) : ∀ j' n, n ≤ 48 → lsN (uN t 12 (48 * j + c) 1) j' n = lsN t j' n + (if j' = j ∧ c < n then 1 else 0) := by
  intro j' n
  induction n with
  | zero => intro _; rw [if_neg (by omega)]; rfl
  | succ n ih =>
    intro hn
    unfold lsN
    rw [ih (by omega), tN_uN]
    by_cases h1 : 48 * j' + n = 48 * j + c
    · have e1 : j' = j := by omega
      have e2 : n = c := by omega
      subst e1; subst e2
      rw [if_neg (by omega), if_pos ⟨rfl, rfl⟩, if_pos ⟨rfl, Nat.lt_succ_self _⟩, h0]
    · rw [if_neg (show ¬ (12 = 12 ∧ 48 * j' + n = 48 * j + c) from fun z => h1 z.2)]
      by_cases h2 : j' = j ∧ c < n
      · rw [if_pos h2, if_pos ⟨h2.1, by omega⟩]; omega
      · rw [if_neg h2, if_neg (fun z => h2 ⟨z.1, by omega⟩)]; omega
theorem uN_same {t : TS} {j i v : Nat} (h : tN t j i = v) : uN t j i v = t := by
  refine TS_ext (fun k => ?_) rfl rfl rfl rfl
  rw [tN_u]
  by_cases hk : k = j
  · subst hk
    rw [if_pos rfl]
    funext l
    unfold va_up
    by_cases hl : l = i
    · rw [if_pos hl, hl, h]
    · rw [if_neg hl]
  · rw [if_neg hk]
section CP61
variable {G : GP} {x m : Nat}
/-- the pictures behind loosen -/
theorem RX.loosen {t : TS} {e : ES} {h : AH} (E : RX x m t e h) (B : TB t) {j c : Nat} (hj : j < tN t 0 4) (hc : c < 16 * (tN t 0 0 - 1)) (U : EU j t e) : ∃ e', RX x m (uN t 12 (48 * j + c) 1) e' (if xN e 1 c = 0 then pI (pI h (x + 15 + c) 7 (nI 1)) (m + 24 + 7 * j) 6 (nI (xN e 3 j + 1)) else h) ∧ EU j (uN t 12 (48 * j + c) 1) e' ∧ xN e' 2 = xN e 2 ∧ xI e' 0 = xI e 0 := by
  have b := B.S
  have b1 := (B.bool (48 * j + c)).2.2.2
  have hlc := U.1 c hc
  by_cases h0 : xN e 1 c = 0
  · rw [if_pos h0]
    rw [h0] at hlc
    refine ⟨vN (vN e 1 c 1) 3 j (xN e 3 j + 1), (E.p_loose hc 1).p_ln hj (xN e 3 j + 1), ⟨fun d hd => ?_, ?_⟩, rfl, rfl⟩
    · show xN (vN e 1 c 1) 1 d = _
      rw [xN_vN, tN_uN]
      by_cases q : d = c
      · rw [if_pos ⟨rfl, q⟩, if_pos ⟨rfl, by rw [q]⟩]
      · rw [if_neg (fun z => q z.2), if_neg (fun z => q (by omega))]; exact U.1 d hd
    · obtain ⟨a1, a2, a3, a4, a5⟩ := U.2
      refine ⟨fun k hk => ?_, a2, fun i hi => ?_, a4, a5⟩
      · have := a1 k hk
        unfold unrOK at this ⊢
        simp only [cnt_cg (t := t) (t' := uN t 12 (48 * j + c) 1) rfl]
        exact this
      · show xN (vN (vN e 1 c 1) 3 j (xN e 3 j + 1)) 3 i = _
        rw [xN_vN, lsN_put hlc.symm (by omega) i 48 (Nat.le_refl _)]
        by_cases q : i = j
        · rw [if_pos ⟨rfl, q⟩, if_pos ⟨q, by omega⟩, q, a3 j hj]
        · rw [if_neg (fun z => q z.2), if_neg (fun z => q z.1)]; exact a3 i hi
  · rw [if_neg h0]
    have e1 : uN t 12 (48 * j + c) 1 = t := uN_same (by omega)
    rw [e1]
    exact ⟨e, E, U, rfl, rfl⟩
theorem RX.kp {t : TS} {e : ES} {h : AH} (E : RX x m t e h) {j c r : Nat} (hj : j < tN t 0 4) : RX x m (uK t j (tK t j ++ [(c, r)])) e (pI (pI (pI h (m + 24 + 7 * j + 4) (tK t j).length (nI r)) (m + 24 + 7 * j + 5) (tK t j).length (nI c)) (m + 24 + 7 * j) 5 (nI ((tK t j).length + 1))) := by
  refine E.g_keep hj ?_ ?_ ?_ rfl (((Fq.rf.pI (Or.inr (Or.inl rfl))).pI (Or.inr (Or.inr rfl))).pI (Or.inl rfl))
  · rw [hI_eq, hI_ne (by omega), hI_ne (by omega)]
  · rw [hI_ne (by omega), hI_ne (by omega), hI_eq]
  · rw [hI_ne (by omega), hI_eq, hI_ne (by omega)]
theorem EU.cg {t t' : TS} {e : ES} {j : Nat} (H : EU j t e) (h00 : tN t' 0 0 = tN t 0 0) (h03 : tN t' 0 3 = tN t 0 3) (h04 : tN t' 0 4 = tN t 0 4) (h2 : tN t' 2 = tN t 2) (h3 : tN t' 3 = tN t 3) (h9 : tN t' 9 = tN t 9) (h10 : tN t' 10 = tN t 10) (h12 : tN t' 12 = tN t 12) (i2 : tI t' 2 = tI t 2) (i3 : tI t' 3 = tI t 3) : EU j t' e := ⟨by rw [h00, h12]; exact H.1, H.2.cg h00 h03 h04 h2 h3 h9 h10 h12 i2 i3⟩
/-- all rows of l can be kept with the n that are there -/
def okK (n lim : Nat) (l : List Nat) : Prop := l = [] ∨ n + l.length ≤ lim
theorem keepL_ok {c j : Nat} : ∀ (l : List Nat) (t : TS), tN t 0 5 = j + 1 → okK (tK t j).length (tN t 0 2) l → spKeepL c l t = uK t j (tK t j ++ l.map (fun r => (c, r)))
  | [], t, hu, _ => by
    show t = uK t j (tK t j ++ [])
    rw [List.append_nil]
    refine TS_ext (fun _ => rfl) rfl rfl rfl (funext fun d => ?_)
    rw [tK_uK]
    by_cases h : d = j
    · rw [if_pos h, h]
    · rw [if_neg h]
  | r :: l, t, hu, ok => by
    have hle : (tK t j).length + (l.length + 1) ≤ tN t 0 2 := by
      rcases ok with z | z
      · cases z
      · exact z
    have e1 : spKeep t c r = uK t j (tK t j ++ [(c, r)]) := by
      unfold spKeep
      rw [hu, Nat.add_sub_cancel, if_neg (by omega)]
    unfold spKeepL
    rw [if_neg (by omega), e1]
    have e2 : tK (uK t j (tK t j ++ [(c, r)])) j = tK t j ++ [(c, r)] := by rw [tK_uK, if_pos rfl]
    rw [keepL_ok l (uK t j (tK t j ++ [(c, r)])) hu (Or.inr (by rw [e2]; simp; show _ ≤ tN t 0 2; omega)), e2]
    refine TS_ext (fun _ => rfl) rfl rfl rfl (funext fun d => ?_)
    simp only [tK_uK]
    by_cases h : d = j
    · simp [h]
    · simp [h]
theorem keepL_no {c j : Nat} : ∀ (l : List Nat) (t : TS), tN t 0 5 = j + 1 → ¬ okK (tK t j).length (tN t 0 2) l → spKeepL c l t = spEnd (uK t j (tK t j ++ (l.take (tN t 0 2 - (tK t j).length)).map (fun r => (c, r)))) 2
  | [], t, hu, no => absurd (Or.inl rfl) no
  | r :: l, t, hu, no => by
    have hle : tN t 0 2 < (tK t j).length + (l.length + 1) := by
      rcases Nat.lt_or_ge (tN t 0 2) ((tK t j).length + (l.length + 1)) with z | z
      · exact z
      · exact absurd (Or.inr z) no
    unfold spKeepL
    rw [if_neg (by omega)]
    by_cases h1 : tN t 0 2 < (tK t j).length + 1
    · have e1 : spKeep t c r = spEnd t 2 := by
        unfold spKeep
        rw [hu, Nat.add_sub_cancel, if_pos h1]
      rw [e1, show tN t 0 2 - (tK t j).length = 0 by omega, List.take_zero, List.map_nil, List.append_nil]
      have e3 : uK t j (tK t j) = t := by
        refine TS_ext (fun _ => rfl) rfl rfl rfl (funext fun d => ?_)
        rw [tK_uK]
        by_cases h : d = j
        · rw [if_pos h, h]
        · rw [if_neg h]
      rw [e3]
      cases l with
      | nil => rfl
      | cons a l => unfold spKeepL; exact if_pos rfl
    · have e1 : spKeep t c r = uK t j (tK t j ++ [(c, r)]) := by
        unfold spKeep
        rw [hu, Nat.add_sub_cancel, if_neg h1]
      have e2 : tK (uK t j (tK t j ++ [(c, r)])) j = tK t j ++ [(c, r)] := by rw [tK_uK, if_pos rfl]
      rw [e1, keepL_no l (uK t j (tK t j ++ [(c, r)])) hu (fun z => ?_), e2]
      · have e4 : tN (uK t j (tK t j ++ [(c, r)])) 0 2 - (tK t j ++ [(c, r)]).length = tN t 0 2 - (tK t j).length - 1 := by
          simp
          show tN t 0 2 - _ = _
          omega
        rw [e4, show tN t 0 2 - (tK t j).length = (tN t 0 2 - (tK t j).length - 1) + 1 by omega, List.take_succ_cons, Nat.add_sub_cancel]
        congr 1
        refine TS_ext (fun _ => rfl) rfl rfl rfl (funext fun d => ?_)
        simp only [tK_uK]
        by_cases h : d = j
        · simp [h]
        · simp [h]
      · rw [e2] at z
        rcases z with z | z
        · subst z; simp at hle; omega
        · simp at z
          have z : (tK t j).length + 1 + l.length ≤ tN t 0 2 := z
          omega
/-- rows kept so far -/
theorem over_l {F : FX} (C : CX G F mX5_overtake (Rm 1 0 0)) {h0 : AH} {j c : Nat} {t : TS} {e : ES} (B : TB t) (hj : j < tN t 0 4) (hc : c < 16 * (tN t 0 0 - 1))
    : ∀ (rest : List Nat) (i : Nat) (h : AH) (x3 : Int32), (tC t c).drop i = rest → i ≤ (tC t c).length → (i = 0 ∨ (tK t j).length + i ≤ tN t 0 2) → x3 = fsI rest → RX x m (uK t j (tK t j ++ ((tC t c).take i).map (fun r => (c, r)))) e h → Fq (Px m) h0 h → WA G F mX5_overtake h 0 0 (MQA G F 0 0 (Oi (fun v h' => v = bI (okK (tK t j).length (tN t 0 2) (tC t c)) ∧ RX x m (uK t j (tK t j ++ (cif (okK (tK t j).length (tN t 0 2) (tC t c)) (tC t c) ((tC t c).take (tN t 0 2 - (tK t j).length))).map (fun r => (c, r)))) e h' ∧ Fq (Px m) h0 h'))) 13 [some (.ref x), some (.ref (m + 24 + 7 * j)), some (.ref (x + 15 + c)), some (.int x3), some (.int (nI i))] [] := by
  have b := B.S
  have bl := B.len c
  have bk := B.klen j
  have bm := B.lim
  have bf := B.fed
  intro rest
  induction rest with
  | nil =>
    intro i h x3 hd hi ok hx E f
    have hi2 : (tC t c).length ≤ i := List.drop_eq_nil_iff.mp hd
    have hi3 : i = (tC t c).length := by omega
    subst hi3
    have L := E.L.ch (c := c) hc
    have hok : okK (tK t j).length (tN t 0 2) (tC t c) := by
      rcases ok with z | z
      · exact Or.inl (List.length_eq_zero_iff.mp z)
      · exact Or.inr z
    rw [List.take_length] at E
    refine r_iload (pc := 13) C dX5_overtake_13 rfl ?_
    refine r_aload_n (pc := 15) C dX5_overtake_15 rfl rfl ?_
    refine r_getIe (pc := 16) C fl_X5_189 L.2.1 rfl (show _ = nI (tC t c).length from (E.k_ch c hc).2.2.2.1) dX5_overtake_16 ?_
    refine n_icmp_ge (pc := 19) (tgt := 49) C (by omega) (by omega) dX5_overtake_19 (by decide) (fun c19 => ?_) (fun c19 => absurd c19 (by omega))
    refine r_iconst (pc := 49) (v := (nI 1)) C dX5_overtake_49 (by decide) ?_
    exact r_zret (pc := 50) C rfl (by first | exact bI_01 | exact Or.inl rfl | exact Or.inr rfl) (Nat.le_of_ble_eq_true rfl) (Nat.le_of_ble_eq_true rfl) ⟨_, rfl, ⟨tt1 hok, by rw [cif_t hok]; exact E, f⟩⟩ dX5_overtake_50
  | cons r rs ih =>
    intro i h x3 hd hi ok hx E f
    have hi2 : i < (tC t c).length := by
      rcases Nat.lt_or_ge i (tC t c).length with z | z
      · exact z
      · rw [List.drop_eq_nil_iff.mpr z] at hd; cases hd
    have hdg := drop_get hi2
    rw [hd] at hdg
    injection hdg with hr1 hr2
    have hrm : r ∈ tC t c := by rw [hr1]; exact getD_mem hi2
    have hr := B.row hrm
    subst hx
    have b3 := E.L.b
    have b4 : x + 20 * tN t 0 0 ≤ m := b3.2.2.2
    have L := E.L.ch (c := c) hc
    have M := E.L.M (j := j) hj
    have K := E.k_ch c hc
    have O : hI h (m + 24 + 7 * j) 5 = nI ((tK t j).length + i) := by
      have := (E.k_mo j hj).2.1
      rw [tK_uK, if_pos rfl] at this
      simp at this
      rw [this, Nat.min_eq_left (by omega)]
    have hch := (E.k_beh c hc).drop i
    rw [show tC (uK t j (tK t j ++ ((tC t c).take i).map (fun r => (c, r)))) c = tC t c from rfl, hd] at hch
    have e2 : (tK (uK t j (tK t j ++ ((tC t c).take i).map (fun r => (c, r)))) j).length = (tK t j).length + i := by
      rw [tK_uK, if_pos rfl]; simp; omega
    have E1 := E.kp (j := j) (c := c) (r := r) hj
    rw [e2] at E1
    have e3 : uK (uK t j (tK t j ++ ((tC t c).take i).map (fun r => (c, r)))) j (tK (uK t j (tK t j ++ ((tC t c).take i).map (fun r => (c, r)))) j ++ [(c, r)]) = uK t j (tK t j ++ ((tC t c).take (i + 1)).map (fun r => (c, r))) := by
      refine TS_ext (fun _ => rfl) rfl rfl rfl (funext fun d => ?_)
      simp only [tK_uK]
      by_cases h : d = j
      · have : (tC t c).take (i + 1) = (tC t c).take i ++ [r] := by
          rw [List.take_succ, hr1, List.getD_eq_getElem?_getD, List.getElem?_eq_getElem hi2]; rfl
        simp [h, this]
      · simp [h]
    rw [e3] at E1
    by_cases hlm : (tK t j).length + i < tN t 0 2
    · skip
      refine r_iload (pc := 13) C dX5_overtake_13 rfl ?_
      refine r_aload_n (pc := 15) C dX5_overtake_15 rfl rfl ?_
      refine r_getIe (pc := 16) C fl_X5_189 L.2.1 rfl (show _ = nI (tC t c).length from K.2.2.2.1) dX5_overtake_16 ?_
      refine n_icmp_ge (pc := 19) (tgt := 49) C (by omega) (by omega) dX5_overtake_19 (by decide) (fun c19 => absurd c19 (by omega)) (fun c19 => ?_)
      refine r_aload_n (pc := 22) C dX5_overtake_22 rfl rfl ?_
      refine r_aload_n (pc := 23) C dX5_overtake_23 rfl rfl ?_
      refine r_iload_n (pc := 24) C dX5_overtake_24 rfl rfl ?_
      refine r_aload_n (pc := 25) C dX5_overtake_25 rfl rfl ?_
      refine r_getIe (pc := 26) C fl_X5_52 E.L.o rfl (show _ = nI (tN t 0 2) from E.lim) dX5_overtake_26 ?_
      refine r_calli (cr_V (pc := 29) C (c_X2_keep (c := c) M L.2.1 (by omega) (show _ = nI c from K.1) O (by omega) bm) dX5_overtake_29 cm_X2_keep ml_X5_333 im_X2_keep se_X2_keep M.1 rfl ⟨⟨Nat.le_of_ble_eq_true rfl, Nat.le_of_ble_eq_true rfl⟩, Nat.le_of_ble_eq_true rfl, Nat.le_of_ble_eq_true rfl⟩ rfl rfl (Nat.le_of_ble_eq_true rfl)) (fun v29 h29 hq29 => ?_)
      obtain ⟨rfl, rfl⟩ := hq29
      rw [if_pos hlm]
      refine b_if_ne (pc := 32) (tgt := 37) C dX5_overtake_32 (by decide) (fun c32 => ?_) (fun c32 => absurd c32 (fun z => z hlm))
      refine r_aload_n (pc := 37) C dX5_overtake_37 rfl rfl ?_
      refine r_iload_n (pc := 38) C dX5_overtake_38 rfl rfl ?_
      refine r_calli (cr_V (pc := 39) C (c_X0_rowBehind (show hS h (x + 15 + c) = (0, 0) from L.2.1) (show hR h (x + 15 + c) 1 = some (x + 13) from L.2.2) (show hS h (x + 13) = _ from E.L.sb) (by omega) (show _ = fsI rs from (by rw [hI_ne (by omega), hI_ne (by omega), hI_ne (by omega)]; exact hch.1))) dX5_overtake_39 cm_X0_rowBehind ml_X5_340 im_X0_rowBehind se_X0_rowBehind (show hS h (x + 15 + c) = (0, 0) from L.2.1) rfl ⟨⟨Nat.le_of_ble_eq_true rfl, Nat.le_of_ble_eq_true rfl⟩, Nat.le_of_ble_eq_true rfl, Nat.le_of_ble_eq_true rfl⟩ rfl rfl (Nat.le_of_ble_eq_true rfl)) (fun v39 h39 hq39 => ?_)
      obtain ⟨rfl, rfl⟩ := hq39
      refine r_istore_n (pc := 42) (lv' := [_, _, _, _, _]) C dX5_overtake_42 rfl (by decide) rfl rfl ?_
      refine n_iinc (pc := 43) (lv' := [_, _, _, _, _]) C dX5_overtake_43 rfl (by decide) rfl rfl ?_
      refine r_goto (pc := 46) (tgt := 13) C dX5_overtake_46 (by decide) ?_
      exact ih (i + 1) _ _ hr2.symm (by omega) (Or.inr (by omega)) rfl E1 (((f.pI (Or.inr (by omega))).pI (Or.inr (by omega))).pI (Or.inr (by omega)))
    · have hno : ¬ okK (tK t j).length (tN t 0 2) (tC t c) := by
        rintro (z | z)
        · rw [z] at hi2; simp at hi2
        · omega
      have e4 : (tC t c).take (tN t 0 2 - (tK t j).length) = (tC t c).take i := by
        rcases ok with z | z
        · rw [z, show tN t 0 2 - (tK t j).length = 0 by omega]
        · rw [show tN t 0 2 - (tK t j).length = i by omega]
      refine r_iload (pc := 13) C dX5_overtake_13 rfl ?_
      refine r_aload_n (pc := 15) C dX5_overtake_15 rfl rfl ?_
      refine r_getIe (pc := 16) C fl_X5_189 L.2.1 rfl (show _ = nI (tC t c).length from K.2.2.2.1) dX5_overtake_16 ?_
      refine n_icmp_ge (pc := 19) (tgt := 49) C (by omega) (by omega) dX5_overtake_19 (by decide) (fun c19 => absurd c19 (by omega)) (fun c19 => ?_)
      refine r_aload_n (pc := 22) C dX5_overtake_22 rfl rfl ?_
      refine r_aload_n (pc := 23) C dX5_overtake_23 rfl rfl ?_
      refine r_iload_n (pc := 24) C dX5_overtake_24 rfl rfl ?_
      refine r_aload_n (pc := 25) C dX5_overtake_25 rfl rfl ?_
      refine r_getIe (pc := 26) C fl_X5_52 E.L.o rfl (show _ = nI (tN t 0 2) from E.lim) dX5_overtake_26 ?_
      refine r_calli (cr_V (pc := 29) C (c_X2_keep (c := c) M L.2.1 (by omega) (show _ = nI c from K.1) O (by omega) bm) dX5_overtake_29 cm_X2_keep ml_X5_333 im_X2_keep se_X2_keep M.1 rfl ⟨⟨Nat.le_of_ble_eq_true rfl, Nat.le_of_ble_eq_true rfl⟩, Nat.le_of_ble_eq_true rfl, Nat.le_of_ble_eq_true rfl⟩ rfl rfl (Nat.le_of_ble_eq_true rfl)) (fun v29 h29 hq29 => ?_)
      obtain ⟨rfl, rfl⟩ := hq29
      rw [if_neg hlm]
      refine b_if_ne (pc := 32) (tgt := 37) C dX5_overtake_32 (by decide) (fun c32 => absurd c32 hlm) (fun c32 => ?_)
      refine r_iconst (pc := 35) (v := (nI 0)) C dX5_overtake_35 (by decide) ?_
      exact r_zret (pc := 36) C rfl (by first | exact bI_01 | exact Or.inl rfl | exact Or.inr rfl) (Nat.le_of_ble_eq_true rfl) (Nat.le_of_ble_eq_true rfl) ⟨_, rfl, ⟨ff0 hno, by rw [cif_f hno, e4]; exact E, f⟩⟩ dX5_overtake_36
end CP61
