/-! ===== the class: kept rows are placed ===== -/
/-- channels below c, and the first i rows kept for c, are placed -/
def PS (t0 : TS) (l : List (Nat × Nat)) (c i : Nat) (t : TS) : Prop :=
  (tN t = tN t0 ∧ tI t = tI t0 ∧ tL t = tL t0 ∧ tK t = tK t0) ∧ DJ t ∧ (∀ d r, r ∈ tC t d → ∃ k p, l[k]? = some p ∧ p.2 = r ∧ (p.1 < c ∨ (p.1 = c ∧ k < i))) ∧ ∀ d, (tC t d).length ≤ l.countP (fun z => decide (z.1 < c)) + (l.take i).countP (fun z => decide (z.1 = c))
theorem PS.init {t0 : TS} {l : List (Nat × Nat)} (h : ∀ c, tC t0 c = []) : PS t0 l 0 0 t0 :=
  ⟨⟨rfl, rfl, rfl, rfl⟩, ⟨fun c => by rw [h]; exact List.nodup_nil, fun c d z hz => by rw [h] at hz; simp at hz⟩, fun d r hr => by rw [h] at hr; simp at hr, fun d => by rw [h]; exact Nat.zero_le _⟩
theorem PS.next {t0 t : TS} {l : List (Nat × Nat)} {c : Nat} (P : PS t0 l c l.length t) : PS t0 l (c + 1) 0 t := by
  obtain ⟨p1, p2, p3, p4⟩ := P
  refine ⟨p1, p2, fun d r hr => ?_, fun d => ?_⟩
  · obtain ⟨k, p, a, b, c'⟩ := p3 d r hr
    exact ⟨k, p, a, b, Or.inl (by omega)⟩
  · have := p4 d
    rw [List.take_length] at this
    rw [countP_next, List.take_zero, List.countP_nil]; omega
theorem PS.skip {t0 t : TS} {l : List (Nat × Nat)} {c i : Nat} {q : Nat × Nat} (P : PS t0 l c i t) (hq : l[i]? = some q) (hc : q.1 ≠ c) : PS t0 l c (i + 1) t := by
  obtain ⟨p1, p2, p3, p4⟩ := P
  refine ⟨p1, p2, fun d r hr => ?_, fun d => ?_⟩
  · obtain ⟨k, p, a, b, c'⟩ := p3 d r hr
    exact ⟨k, p, a, b, c'.imp (fun z => z) (fun z => ⟨z.1, by omega⟩)⟩
  · have := p4 d
    rw [List.take_add_one, List.countP_append]; omega
theorem PS.fresh {t0 t : TS} {l : List (Nat × Nat)} {c i : Nat} {q : Nat × Nat} (P : PS t0 l c i t) (hq : l[i]? = some q) (hc : q.1 = c) (hn : (l.map (fun p => p.2)).Nodup) (d : Nat) : q.2 ∉ tC t d := fun hr => by
  obtain ⟨k, p, a, b, c'⟩ := P.2.2.1 d q.2 hr
  have hi : i < l.length := (List.getElem?_eq_some_iff.mp hq).1
  have e : i = k := (List.getElem?_inj (l := l.map (fun p => p.2)) (by rw [List.length_map]; exact hi) hn).mp (by rw [List.getElem?_map, List.getElem?_map, hq, a]; show some q.2 = some p.2; rw [b])
  subst e
  rw [hq] at a
  injection a with a
  subst a
  rcases c' with z | z <;> omega
theorem PS.put {t0 t : TS} {l : List (Nat × Nat)} {c i d : Nat} {q : Nat × Nat} (P : PS t0 l c i t) (hq : l[i]? = some q) (hc : q.1 = c) (hn : (l.map (fun p => p.2)).Nodup) : PS t0 l c (i + 1) (spPut t d q.2) := by
  have hf := fun d => P.fresh hq hc hn d
  obtain ⟨p1, p2, p3, p4⟩ := P
  have eC : ∀ b, tC (spPut t d q.2) b = if b = d then tC t d ++ [q.2] else tC t b := fun b => rfl
  refine ⟨p1, ⟨fun b => ?_, fun b b' z hz hz' => ?_⟩, fun b r hr => ?_, fun b => ?_⟩
  · rw [eC]
    split
    · rw [List.nodup_append]
      refine ⟨p2.1 d, by simp, fun a ha b' hb' e => ?_⟩
      rw [List.mem_singleton] at hb'
      rw [e, hb'] at ha
      exact hf d ha
    · exact p2.1 b
  · rw [eC] at hz hz'
    have key : ∀ b, z ∈ (if b = d then tC t d ++ [q.2] else tC t b) → z ∈ tC t b ∨ (b = d ∧ z = q.2) := fun b hb => by
      split at hb
      · next e =>
        rcases List.mem_append.mp hb with y | y
        · left; rw [e]; exact y
        · right; exact ⟨e, by simpa using y⟩
      · left; exact hb
    rcases key b hz with y | ⟨y1, y2⟩
    · rcases key b' hz' with y' | ⟨y1', y2'⟩
      · exact p2.2 b b' z y y'
      · rw [y2'] at y; exact absurd y (hf b)
    · rcases key b' hz' with y' | ⟨y1', y2'⟩
      · rw [y2] at y'; exact absurd y' (hf b')
      · rw [y1, y1']
  · rw [eC] at hr
    have : r ∈ tC t b ∨ r = q.2 := by
      split at hr
      · next e =>
        rcases List.mem_append.mp hr with y | y
        · left; rw [e]; exact y
        · right; simpa using y
      · left; exact hr
    rcases this with y | y
    · obtain ⟨k, p, a, b, c'⟩ := p3 b r y
      exact ⟨k, p, a, b, c'.imp (fun z => z) (fun z => ⟨z.1, by omega⟩)⟩
    · exact ⟨i, q, hq, y.symm, Or.inr ⟨hc, by omega⟩⟩
  · have h1 := p4 b
    have h2 : (l.take (i + 1)).countP (fun z => decide (z.1 = c)) = (l.take i).countP (fun z => decide (z.1 = c)) + 1 := by
      rw [List.take_add_one, hq, List.countP_append]
      show _ + List.countP _ [q] = _
      rw [List.countP_cons, List.countP_nil, if_pos (decide_eq_true hc)]
    rw [eC]
    split
    · next e =>
      rw [List.length_append, h2]
      have := p4 d
      simp only [List.length_cons, List.length_nil]; omega
    · omega
theorem PS.tb {t0 t : TS} {l : List (Nat × Nat)} {c i : Nat} (P : PS t0 l c i t) (B : TB t0) (hb : ∀ c, tN t0 4 c = 0) (hl : ∀ p, p ∈ l → p.2 < tN t0 0 3) (hlen : l.length ≤ 200) : TB t := by
  obtain ⟨⟨e1, e2, e3, e4⟩, p2, p3, p4⟩ := P
  obtain ⟨x1, x2, x3, x4, x5, x6, x7, x8, x9, x10, x11, x12, x13, x14, x15, x16, x17, x18, x19⟩ := B
  have hle : ∀ d, (tC t d).length ≤ 200 := fun d => by
    have h1 := p4 d
    have h2 : l.countP (fun z => decide (z.1 < c)) + (l.take i).countP (fun z => decide (z.1 = c)) ≤ l.countP (fun z => decide (z.1 < c + 1)) := by
      rw [countP_next]
      have := (List.take_sublist i l).countP_le (p := fun z => decide (z.1 = c))
      omega
    have h3 := List.countP_le_length (l := l) (p := fun z => decide (z.1 < c + 1))
    omega
  refine ⟨by rw [e1]; exact x1, by rw [e1]; exact x2, by rw [e1]; exact x3, by rw [e1]; exact x4, by rw [e1]; exact x5, by rw [e1]; exact x6, by rw [e1]; exact x7, by rw [e1]; exact x8, by rw [e1]; exact x9, fun c => by rw [e1, hb]; omega, by rw [e1]; exact x11, by rw [e1]; exact x12, by rw [e1]; exact x13, by rw [e1]; exact x14, by rw [e1]; exact x15, hle, by rw [e4]; exact x17, fun d r hr => ?_, by rw [e1, e4]; exact x19⟩
  obtain ⟨k, p, a, b, _⟩ := p3 d r hr
  rw [e1, ← b]
  exact hl p (List.mem_of_getElem? a)
section CP75
variable {G : GP} {x m : Nat} {e : ES} {F : FX} {Q : State → Prop}
theorem place_l2 (C : CX G F mX5_placeKept (Rm 3 0 0)) {h0 : AH} {t0 tf : TS} {j c D : Nat} (B0 : TB t0) (hb0 : ∀ c, tN t0 4 c = 0) (hj : j < tN t0 0 4) (hn : ((tK t0 j).map (fun p => p.2)).Nodup) (hc : c < 16 * (tN t0 0 0 - 1))
    (k : ∀ h x4 x5 x6, RX x m tf e h → PS t0 (tK t0 j) c (tK t0 j).length tf → Fq (Px m) h0 h → WA G F mX5_placeKept h 0 0 Q 83 [some (.ref x), some (.ref (m + 24 + 7 * j)), some (.int (nI D)), some (.int (nI c)), some (.int x4), x5, x6] []) :
    ∀ (rest : List (Nat × Nat)) (i dd : Nat) (t : TS) (h : AH) (x5 x6 : Option Value), (tK t0 j).drop i = rest → i ≤ (tK t0 j).length → spPl1 c rest t = tf → dd + rest.countP (fun z => decide (z.1 = c)) = D → PS t0 (tK t0 j) c i t → RX x m t e h → Fq (Px m) h0 h → WA G F mX5_placeKept h 0 0 Q 16 [some (.ref x), some (.ref (m + 24 + 7 * j)), some (.int (nI dd)), some (.int (nI c)), some (.int (nI i)), x5, x6] [] := by
  have b := B0.S
  have bk := B0.klen j
  have bf := B0.fed
  intro rest
  induction rest with
  | nil =>
    intro i dd t h x5 x6 hd hi he hD P E f
    have hi2 : (tK t0 j).length ≤ i := List.drop_eq_nil_iff.mp hd
    have ei : i = (tK t0 j).length := by omega
    subst ei
    have he' : t = tf := he
    subst he'
    have hD' : dd = D := by rw [← hD]; rfl
    subst hD'
    obtain ⟨⟨e1, e2, e3, e4⟩, _⟩ := id P
    have hjt : j < tN t 0 4 := by rw [e1]; exact hj
    have f5 := (E.k_mo j hjt).2.1
    rw [e4] at f5
    refine r_iload (pc := 16) C dX5_placeKept_16 rfl ?_
    refine r_aload_n (pc := 18) C dX5_placeKept_18 rfl rfl ?_
    refine r_getIe (pc := 19) C fl_X5_212 (E.L.M hjt).1 rfl f5 dX5_placeKept_19 ?_
    refine n_icmp_ge (pc := 22) (tgt := 83) C (by omega) (by omega) dX5_placeKept_22 (by decide) (fun c22 => ?_) (fun c22 => absurd c22 (by omega))
    exact k _ _ _ _ E P f
  | cons p rest ih =>
    intro i dd t h x5 x6 hd hi he hD P E f
    have hilt : i < (tK t0 j).length := by
      rcases Nat.lt_or_ge i (tK t0 j).length with z | z
      · exact z
      · rw [List.drop_eq_nil_iff.mpr z] at hd; cases hd
    have hp : (tK t0 j)[i]? = some p := by
      have : ((tK t0 j).drop i)[0]? = some p := by rw [hd]; rfl
      rw [List.getElem?_drop] at this; exact this
    have hpm : p ∈ tK t0 j := List.mem_of_getElem? hp
    have hd2 : (tK t0 j).drop (i + 1) = rest := by rw [← List.tail_drop, hd]; rfl
    obtain ⟨⟨e1, e2, e3, e4⟩, DJt, _⟩ := id P
    have hjt : j < tN t 0 4 := by rw [e1]; exact hj
    have B := P.tb B0 hb0 (fun p hp => (B0.krow hp).2) bk
    have f5 := (E.k_mo j hjt).2.1
    have fr := E.k_mr j hjt i (by rw [e4]; exact hilt)
    have fc := E.k_mf j hjt i (by rw [e4]; exact hilt)
    rw [e4] at f5 fr fc
    rw [List.getD_eq_getElem?_getD, hp] at fr fc
    have fr : hI h (m + 24 + 7 * j + 4) i = nI p.2 := fr
    have fc : hI h (m + 24 + 7 * j + 5) i = nI p.1 := fc
    have kr := B0.krow hpm
    have eS : tN t 0 0 = tN t0 0 0 := by rw [e1]
    have e3' : tN t 0 3 = tN t0 0 3 := by rw [e1]
    have k15 := B.key p.2
    rw [spPl1] at he
    rw [List.countP_cons] at hD
    by_cases hpc : p.1 = c
    · rw [if_pos hpc] at he
      rw [if_pos (decide_eq_true hpc)] at hD
      have ek : keyI t (nI p.2) = nI (tN t 2 p.2) := by
        unfold keyI
        rw [cif_t ⟨p.2, by omega, rfl⟩, nI_clamp (by omega)]
      have hg : c / 16 + 1 < tN t 0 0 := by omega
      have hfr := fun d => P.fresh hp hpc hn d
      have hh := (home_lt B (g := c / 16) (k := tN t 2 p.2) hg).1
      have EA := E.app DJt (c := home t (c / 16) (tN t 2 p.2)) (r := p.2) hh hfr
      have f2 : Fq (Px m) h (apH h (x + 15 + home t (c / 16) (tN t 2 p.2)) (x + 13) (tC t (home t (c / 16) (tN t 2 p.2))) p.2) := apH_fq (by have := E.L.b; unfold Px; omega) (by have := E.L.b; unfold Px; omega)
      refine r_iload (pc := 16) C dX5_placeKept_16 rfl ?_
      refine r_aload_n (pc := 18) C dX5_placeKept_18 rfl rfl ?_
      refine r_getIe (pc := 19) C fl_X5_212 (E.L.M hjt).1 rfl f5 dX5_placeKept_19 ?_
      refine n_icmp_ge (pc := 22) (tgt := 83) C (by omega) (by omega) dX5_placeKept_22 (by decide) (fun c22 => absurd c22 (by omega)) (fun c22 => ?_)
      refine r_aload_n (pc := 25) C dX5_placeKept_25 rfl rfl ?_
      refine r_iload (pc := 26) C dX5_placeKept_26 rfl ?_
      refine r_calli (cr_V (pc := 28) C (c_X2_channelKept (E.L.M hjt) f5 bk hilt fc) dX5_placeKept_28 cm_X2_channelKept ml_X5_347 im_X2_channelKept se_X2_channelKept (E.L.M hjt).1 rfl ⟨⟨Nat.le_of_ble_eq_true rfl, Nat.le_of_ble_eq_true rfl⟩, Nat.le_of_ble_eq_true rfl, Nat.le_of_ble_eq_true rfl⟩ rfl rfl (Nat.le_of_ble_eq_true rfl)) (fun v28 h28 hq28 => ?_)
      obtain ⟨rfl, rfl⟩ := hq28
      refine r_iload_n (pc := 31) C dX5_placeKept_31 rfl rfl ?_
      refine n_icmp_ne (pc := 32) (tgt := 77) C (by omega) (by omega) dX5_placeKept_32 (by decide) (fun c32 => absurd c32 (by omega)) (fun c32 => ?_)
      refine r_aload_n (pc := 35) C dX5_placeKept_35 rfl rfl ?_
      refine r_iload (pc := 36) C dX5_placeKept_36 rfl ?_
      refine r_calli (cr_V (pc := 38) C (c_X2_rowKept (E.L.M hjt) f5 bk hilt fr) dX5_placeKept_38 cm_X2_rowKept ml_X5_350 im_X2_rowKept se_X2_rowKept (E.L.M hjt).1 rfl ⟨⟨Nat.le_of_ble_eq_true rfl, Nat.le_of_ble_eq_true rfl⟩, Nat.le_of_ble_eq_true rfl, Nat.le_of_ble_eq_true rfl⟩ rfl rfl (Nat.le_of_ble_eq_true rfl)) (fun v38 h38 hq38 => ?_)
      obtain ⟨rfl, rfl⟩ := hq38
      refine r_istore (pc := 41) (lv' := [_, _, _, _, _, _, _]) C dX5_placeKept_41 (by decide) rfl rfl ?_
      refine r_aload_n (pc := 43) C dX5_placeKept_43 rfl rfl ?_
      refine r_iload_n (pc := 44) C dX5_placeKept_44 rfl rfl ?_
      refine r_calli (cr_S (pc := 45) C (c_X5_gapOf _ c (by omega)) dX5_placeKept_45 cm_X5_gapOf ml_X5_353 st_X5_gapOf ⟨⟨Nat.le_of_ble_eq_true rfl, Nat.le_of_ble_eq_true rfl⟩, Nat.le_of_ble_eq_true rfl, Nat.le_of_ble_eq_true rfl⟩ rfl rfl (Nat.le_of_ble_eq_true rfl)) (fun v45 h45 hq45 => ?_)
      obtain ⟨rfl, rfl⟩ := hq45
      refine r_aload_n (pc := 48) C dX5_placeKept_48 rfl rfl ?_
      refine r_getR (pc := 49) C fl_X5_16 E.L.o rfl E.L.r2 dX5_placeKept_49 ?_
      refine r_iload (pc := 52) C dX5_placeKept_52 rfl ?_
      refine r_calli (cr_V (pc := 54) C (c_X1_keyOf E.L.I E.K1 (by omega) _) dX5_placeKept_54 cm_X1_keyOf ml_X5_204 im_X1_keyOf se_X1_keyOf E.L.I.1 rfl ⟨⟨Nat.le_of_ble_eq_true rfl, Nat.le_of_ble_eq_true rfl⟩, Nat.le_of_ble_eq_true rfl, Nat.le_of_ble_eq_true rfl⟩ rfl rfl (Nat.le_of_ble_eq_true rfl)) (fun v54 h54 hq54 => ?_)
      obtain ⟨rfl, rfl⟩ := hq54
      show WA G F _ _ _ _ _ _ _ (.int (keyI t (nI p.2)) :: _)
      rw [ek]
      refine r_callq (cr_V (pc := 57) C (c_X5_channelOf E B (g := c / 16) (k := tN t 2 p.2) (by omega) (by omega)) dX5_placeKept_57 cm_X5_channelOf ml_X5_304 im_X5_channelOf se_X5_channelOf E.L.o rfl ⟨⟨Nat.le_of_ble_eq_true rfl, Nat.le_of_ble_eq_true rfl⟩, Nat.le_of_ble_eq_true rfl, Nat.le_of_ble_eq_true rfl⟩ rfl rfl (Nat.le_of_ble_eq_true rfl)) (fun v57 h57 hq57 => ?_)
      obtain ⟨rfl, rfl⟩ := hq57
      rw [if_pos hg]
      refine r_astore (pc := 60) (lv' := [_, _, _, _, _, _, _]) C dX5_placeKept_60 (by decide) rfl rfl ?_
      refine r_aload (pc := 62) C dX5_placeKept_62 rfl ?_
      refine r_ifnull (pc := 64) C dX5_placeKept_64 ?_
      refine r_aload (pc := 67) C dX5_placeKept_67 rfl ?_
      refine r_iload (pc := 69) C dX5_placeKept_69 rfl ?_
      refine r_callv (cr_V (pc := 71) C (c_X0_append (E.L.ch hh).2.1 (E.L.ch hh).2.2 E.L.sb (by omega) (E.k_ch _ hh).2.2.1 (E.k_ch _ hh).2.2.2.1 (fun r hr => by have := B.row hr; omega) (by omega)) dX5_placeKept_71 cm_X0_append ml_X5_311 im_X0_append se_X0_append (E.L.ch hh).2.1 rfl ⟨⟨Nat.le_of_ble_eq_true rfl, Nat.le_of_ble_eq_true rfl⟩, Nat.le_of_ble_eq_true rfl, Nat.le_of_ble_eq_true rfl⟩ rfl rfl (Nat.le_of_ble_eq_true rfl)) (fun h71 hq71 => ?_)
      subst hq71
      refine n_iinc (pc := 74) (lv' := [_, _, _, _, _, _, _]) C dX5_placeKept_74 rfl (by decide) rfl rfl ?_
      refine n_iinc (pc := 77) (lv' := [_, _, _, _, _, _, _]) C dX5_placeKept_77 rfl (by decide) rfl rfl ?_
      refine r_goto (pc := 80) (tgt := 16) C dX5_placeKept_80 (by decide) ?_
      exact ih (i + 1) (dd + 1) (spPut t (ownC t c p.2) p.2) _ _ _ hd2 (by omega) he (by omega) (P.put hp hpc hn) EA (f.tr f2)
    · rw [if_neg hpc] at he
      rw [if_neg (fun z => hpc (of_decide_eq_true z))] at hD
      refine r_iload (pc := 16) C dX5_placeKept_16 rfl ?_
      refine r_aload_n (pc := 18) C dX5_placeKept_18 rfl rfl ?_
      refine r_getIe (pc := 19) C fl_X5_212 (E.L.M hjt).1 rfl f5 dX5_placeKept_19 ?_
      refine n_icmp_ge (pc := 22) (tgt := 83) C (by omega) (by omega) dX5_placeKept_22 (by decide) (fun c22 => absurd c22 (by omega)) (fun c22 => ?_)
      refine r_aload_n (pc := 25) C dX5_placeKept_25 rfl rfl ?_
      refine r_iload (pc := 26) C dX5_placeKept_26 rfl ?_
      refine r_calli (cr_V (pc := 28) C (c_X2_channelKept (E.L.M hjt) f5 bk hilt fc) dX5_placeKept_28 cm_X2_channelKept ml_X5_347 im_X2_channelKept se_X2_channelKept (E.L.M hjt).1 rfl ⟨⟨Nat.le_of_ble_eq_true rfl, Nat.le_of_ble_eq_true rfl⟩, Nat.le_of_ble_eq_true rfl, Nat.le_of_ble_eq_true rfl⟩ rfl rfl (Nat.le_of_ble_eq_true rfl)) (fun v28 h28 hq28 => ?_)
      obtain ⟨rfl, rfl⟩ := hq28
      refine r_iload_n (pc := 31) C dX5_placeKept_31 rfl rfl ?_
      refine n_icmp_ne (pc := 32) (tgt := 77) C (by omega) (by omega) dX5_placeKept_32 (by decide) (fun c32 => ?_) (fun c32 => absurd c32 (by omega))
      refine n_iinc (pc := 77) (lv' := [_, _, _, _, _, _, _]) C dX5_placeKept_77 rfl (by decide) rfl rfl ?_
      refine r_goto (pc := 80) (tgt := 16) C dX5_placeKept_80 (by decide) ?_
      exact ih (i + 1) dd t _ _ _ hd2 (by omega) he (by omega) (P.skip hp hpc) E f
theorem place_l1 (C : CX G F mX5_placeKept (Rm 3 0 0)) {h0 : AH} {t0 tf : TS} {j D : Nat} (B0 : TB t0) (hb0 : ∀ c, tN t0 4 c = 0) (hj : j < tN t0 0 4) (hn : ((tK t0 j).map (fun p => p.2)).Nodup)
    (k : ∀ h x3 x4 x5 x6, RX x m tf e h → Fq (Px m) h0 h → WA G F mX5_placeKept h 0 0 Q 89 [some (.ref x), some (.ref (m + 24 + 7 * j)), some (.int (nI D)), some (.int x3), x4, x5, x6] []) :
    ∀ (n c dd : Nat) (t : TS) (h : AH) (x4 x5 x6 : Option Value), c + n = 16 * (tN t0 0 0 - 1) → spPl (tK t0 j) n c t = tf → dd + (tK t0 j).countP (fun z => decide (c ≤ z.1 ∧ z.1 < c + n)) = D → PS t0 (tK t0 j) c 0 t → RX x m t e h → Fq (Px m) h0 h → WA G F mX5_placeKept h 0 0 Q 4 [some (.ref x), some (.ref (m + 24 + 7 * j)), some (.int (nI dd)), some (.int (nI c)), x4, x5, x6] [] := by
  have b := B0.S
  intro n
  induction n with
  | zero =>
    intro c dd t h x4 x5 x6 hcn he hD P E f
    have he' : t = tf := he
    subst he'
    have hz : (tK t0 j).countP (fun z => decide (c ≤ z.1 ∧ z.1 < c + 0)) = 0 := List.countP_eq_zero.mpr (fun z _ hz => by have := of_decide_eq_true hz; omega)
    have hD' : dd = D := by omega
    subst hD'
    have eS : tN t 0 0 = tN t0 0 0 := by rw [P.1.1]
    refine r_iload_n (pc := 4) C dX5_placeKept_4 rfl rfl ?_
    refine r_aload_n (pc := 5) C dX5_placeKept_5 rfl rfl ?_
    refine r_getR (pc := 6) C fl_X5_75 E.L.o rfl E.L.r4 dX5_placeKept_6 ?_
    refine r_alen (pc := 9) C E.L.s4 (by decide) (by decide) dX5_placeKept_9 ?_
    refine n_icmp_ge (pc := 10) (tgt := 89) C (by omega) (by omega) dX5_placeKept_10 (by decide) (fun c10 => ?_) (fun c10 => absurd c10 (by omega))
    exact k _ _ _ _ _ E f
  | succ n ih =>
    intro c dd t h x4 x5 x6 hcn he hD P E f
    have eS : tN t 0 0 = tN t0 0 0 := by rw [P.1.1]
    unfold spPl at he
    have hcnt : (tK t0 j).countP (fun z => decide (c ≤ z.1 ∧ z.1 < c + (n + 1))) = (tK t0 j).countP (fun z => decide (z.1 = c)) + (tK t0 j).countP (fun z => decide (c + 1 ≤ z.1 ∧ z.1 < c + 1 + n)) := by
      generalize tK t0 j = l
      induction l with
      | nil => rfl
      | cons p l ih =>
        rw [List.countP_cons, List.countP_cons, List.countP_cons, ih]
        by_cases e : p.1 = c
        · have a : c ≤ p.1 ∧ p.1 < c + (n + 1) := by omega
          have b : ¬ (c + 1 ≤ p.1 ∧ p.1 < c + 1 + n) := by omega
          rw [if_pos (decide_eq_true a), if_pos (decide_eq_true e), if_neg (fun z => b (of_decide_eq_true z))]; omega
        · by_cases e2 : c + 1 ≤ p.1 ∧ p.1 < c + 1 + n
          · have a : c ≤ p.1 ∧ p.1 < c + (n + 1) := by omega
            rw [if_pos (decide_eq_true a), if_neg (fun z => e (of_decide_eq_true z)), if_pos (decide_eq_true e2)]; omega
          · have a : ¬ (c ≤ p.1 ∧ p.1 < c + (n + 1)) := by omega
            rw [if_neg (fun z => a (of_decide_eq_true z)), if_neg (fun z => e (of_decide_eq_true z)), if_neg (fun z => e2 (of_decide_eq_true z))]; rfl
    have t83 : ∀ h2 (y4 : Int32) (y5 y6 : Option Value), RX x m (spPl1 c (tK t0 j) t) e h2 → PS t0 (tK t0 j) c (tK t0 j).length (spPl1 c (tK t0 j) t) → Fq (Px m) h0 h2 → WA G F mX5_placeKept h2 0 0 Q 83 [some (.ref x), some (.ref (m + 24 + 7 * j)), some (.int (nI (dd + (tK t0 j).countP (fun z => decide (z.1 = c))))), some (.int (nI c)), some (.int y4), y5, y6] [] := by
      intro h2 y4 y5 y6 E2 P2 f2
      refine n_iinc (pc := 83) (lv' := [_, _, _, _, _, _, _]) C dX5_placeKept_83 rfl (by decide) rfl rfl ?_
      refine r_goto (pc := 86) (tgt := 4) C dX5_placeKept_86 (by decide) ?_
      exact ih (c + 1) _ (spPl1 c (tK t0 j) t) h2 _ _ _ (by omega) he (by omega) P2.next E2 f2
    refine r_iload_n (pc := 4) C dX5_placeKept_4 rfl rfl ?_
    refine r_aload_n (pc := 5) C dX5_placeKept_5 rfl rfl ?_
    refine r_getR (pc := 6) C fl_X5_75 E.L.o rfl E.L.r4 dX5_placeKept_6 ?_
    refine r_alen (pc := 9) C E.L.s4 (by decide) (by decide) dX5_placeKept_9 ?_
    refine n_icmp_ge (pc := 10) (tgt := 89) C (by omega) (by omega) dX5_placeKept_10 (by decide) (fun c10 => absurd c10 (by omega)) (fun c10 => ?_)
    refine r_iconst (pc := 13) (v := (nI 0)) C dX5_placeKept_13 (by decide) ?_
    refine r_istore (pc := 14) (lv' := [_, _, _, _, _, _, _]) C dX5_placeKept_14 (by decide) rfl rfl ?_
    exact place_l2 C (D := dd + (tK t0 j).countP (fun z => decide (z.1 = c))) (tf := spPl1 c (tK t0 j) t) B0 hb0 hj hn (by omega) t83 (tK t0 j) 0 dd t h _ _ rfl (Nat.zero_le _) rfl rfl P E f
theorem c_X5_placeKept {t : TS} {h : AH} (E : RX x m t e h) (B : TB t) {j : Nat} (hj : j < tN t 0 4) (hC : ∀ c, tC t c = []) (hb : ∀ c, tN t 4 c = 0) (hn : ((tK t j).map (fun p => p.2)).Nodup) (hk : ∀ p, p ∈ tK t j → p.1 < 16 * (tN t 0 0 - 1)) : MA G mX5_placeKept 3 0 0 [.ref x, .ref (m + 24 + 7 * j)] h (Oi (fun v h' => v = nI (tK t j).length ∧ RX x m (spPl (tK t j) (16 * (tN t 0 0 - 1)) 0 t) e h' ∧ Fq (Px m) h h')) := by
  refine MA.intro (lv := [some (.ref x), some (.ref (m + 24 + 7 * j)), none, none, none, none, none]) (by decide) (Nat.le_of_ble_eq_true rfl) rfl (fun F C => ?_)
  have hall : (tK t j).countP (fun z => decide (0 ≤ z.1 ∧ z.1 < 0 + 16 * (tN t 0 0 - 1))) = (tK t j).length := List.countP_eq_length.mpr (fun p hp => decide_eq_true ⟨Nat.zero_le _, by have := hk p hp; omega⟩)
  have t89 : ∀ h2 (x3 : Int32) (x4 x5 x6 : Option Value), RX x m (spPl (tK t j) (16 * (tN t 0 0 - 1)) 0 t) e h2 → Fq (Px m) h h2 → WA G F mX5_placeKept h2 0 0 (MQA G F 0 0 (Oi (fun v h' => v = nI (tK t j).length ∧ RX x m (spPl (tK t j) (16 * (tN t 0 0 - 1)) 0 t) e h' ∧ Fq (Px m) h h'))) 89 [some (.ref x), some (.ref (m + 24 + 7 * j)), some (.int (nI (tK t j).length)), some (.int x3), x4, x5, x6] [] := by
    intro h2 x3 x4 x5 x6 E2 f2
    refine r_iload_n (pc := 89) C dX5_placeKept_89 rfl rfl ?_
    exact r_iret (pc := 90) C rfl (Nat.le_of_ble_eq_true rfl) (Nat.le_of_ble_eq_true rfl) ⟨_, rfl, ⟨rfl, E2, f2⟩⟩ dX5_placeKept_90
  refine r_iconst (pc := 0) (v := (nI 0)) C dX5_placeKept_0 (by decide) ?_
  refine r_istore_n (pc := 1) (lv' := [_, _, _, _, _, _, _]) C dX5_placeKept_1 rfl (by decide) rfl rfl ?_
  refine r_iconst (pc := 2) (v := (nI 0)) C dX5_placeKept_2 (by decide) ?_
  refine r_istore_n (pc := 3) (lv' := [_, _, _, _, _, _, _]) C dX5_placeKept_3 rfl (by decide) rfl rfl ?_
  exact place_l1 C (D := (tK t j).length) (tf := spPl (tK t j) (16 * (tN t 0 0 - 1)) 0 t) B hb hj hn t89 (16 * (tN t 0 0 - 1)) 0 0 t h _ _ _ (by omega) rfl (by rw [hall, Nat.zero_add]) (PS.init hC) E Fq.rf
end CP75
