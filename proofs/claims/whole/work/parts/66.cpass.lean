/-! ===== the class: a row goes on ===== -/
/-- a row lies in one channel, once -/
def DJ (t : TS) : Prop := (∀ c, (tC t c).Nodup) ∧ ∀ c d z, z ∈ tC t c → z ∈ tC t d → c = d
section CP66
variable {G : GP} {x m : Nat} {t : TS} {e : ES} {h : AH}
theorem RX.app (E : RX x m t e h) (D : DJ t) {c r : Nat} (hc : c < 16 * (tN t 0 0 - 1)) (hr : ∀ d, r ∉ tC t d) : RX x m (uC t c (tC t c ++ [r])) e (apH h (x + 15 + c) (x + 13) (tC t c) r) := by
  have b := E.L.b
  have K := E.k_ch c hc
  obtain ⟨k0, k2, k3, k4, k5, k6, k7⟩ := K
  have es : uN (uC t c (tC t c ++ [r])) 4 c (tN t 4 c) = uC t c (tC t c ++ [r]) := uN_same rfl
  refine RX.eq (E.g_chan hc (l := tC t c ++ [r]) (bb := tN t 4 c) ?_ ?_ ?_ ?_) es rfl
  · rw [es]
    unfold apH
    by_cases hl : tC t c = []
    · rw [if_pos hl, hI_eq, hI_eq, hI_eq, hI_ne (by omega)]
      refine ⟨?_, ?_, ?_, ?_, ?_, ?_, ?_⟩
      · simp [va_up]; exact k0
      · rw [tC_uC, if_pos rfl, fsI_app, if_pos hl]; simp [va_up]
      · rw [tC_uC, if_pos rfl, lsI_app]; simp [va_up]
      · rw [tC_uC, if_pos rfl, List.length_append]; simp [va_up]
      · simp [va_up]; exact k5
      · simp [va_up]; exact k6
      · simp [va_up]; exact k7
    · rw [if_neg hl, hI_eq, hI_eq, hI_ne (by omega), hI_ne (by omega)]
      refine ⟨?_, ?_, ?_, ?_, ?_, ?_, ?_⟩
      · simp [va_up]; exact k0
      · rw [tC_uC, if_pos rfl, fsI_app, if_neg hl]; simp [va_up]; exact k2
      · rw [tC_uC, if_pos rfl, lsI_app]; simp [va_up]
      · rw [tC_uC, if_pos rfl, List.length_append]; simp [va_up]
      · simp [va_up]; exact k5
      · simp [va_up]; exact k6
      · simp [va_up]; exact k7
  · unfold apH
    have hb := E.k_beh c hc
    by_cases hl : tC t c = []
    · rw [if_pos hl, hI_ne (by omega), hI_ne (by omega), hI_ne (by omega), hI_eq, hl]
      exact ⟨up_s, trivial⟩
    · rw [if_neg hl, hI_ne (by omega), hI_ne (by omega), hI_eq, hI_eq, show (tC t c).getLastD 0 = (tC t c).getLast hl from by rw [List.getLastD_eq_getLast?, List.getLast?_eq_some_getLast hl]; rfl]
      exact hb.app (D.1 c) (hr c) hl
  · intro d hd hdc
    have hb := E.k_beh d hd
    unfold apH
    by_cases hl : tC t c = []
    · rw [if_pos hl, hI_ne (by omega), hI_ne (by omega), hI_ne (by omega), hI_eq]
      exact hb.up (hr d)
    · rw [if_neg hl, hI_ne (by omega), hI_ne (by omega), hI_eq, hI_eq, show (tC t c).getLastD 0 = (tC t c).getLast hl from by rw [List.getLastD_eq_getLast?, List.getLast?_eq_some_getLast hl]; rfl]
      exact (hb.up (hr d)).up (fun z => hdc (D.2 d c _ z (List.getLast_mem hl)))
  · unfold apH
    split
    · exact ((((Fq.rf.pI (Or.inr rfl)).pI (Or.inl rfl)).pI (Or.inl rfl)).pI (Or.inl rfl))
    · exact ((((Fq.rf.pI (Or.inr rfl)).pI (Or.inr rfl)).pI (Or.inl rfl)).pI (Or.inl rfl))
theorem apH_fq {a b r : Nat} {l : List Nat} {P : Nat → Prop} (ha : P a) (hb : P b) : Fq P h (apH h a b l r) := by
  unfold apH
  split
  · exact ((((Fq.rf.pI hb).pI ha).pI ha).pI ha)
  · exact ((((Fq.rf.pI hb).pI hb).pI ha).pI ha)
theorem rmH_fq {a b : Nat} {l : List Nat} {P : Nat → Prop} (ha : P a) : Fq P h (rmH h a l b) := by
  unfold rmH
  split <;> split
  · exact ((((Fq.rf.pI ha).pI ha).pI ha).pI ha)
  · exact (((Fq.rf.pI ha).pI ha).pI ha)
  · exact (((Fq.rf.pI ha).pI ha).pI ha)
  · exact ((Fq.rf.pI ha).pI ha)
theorem RX.rm (E : RX x m t e h) (B : TB t) {c r : Nat} {l : List Nat} (hc : c < 16 * (tN t 0 0 - 1)) (hl : tC t c = r :: l) : RX x m (spOff t c) e (rmH h (x + 15 + c) l (tN t 4 c)) := by
  have b := E.L.b
  have K := E.k_ch c hc
  obtain ⟨k0, k2, k3, k4, k5, k6, k7⟩ := K
  have es : spOff t c = uN (uC t c l) 4 c (if 1 < tN t 4 c then tN t 4 c - 1 else tN t 4 c) := by unfold spOff; rw [hl]; rfl
  have hin : hI (rmH h (x + 15 + c) l (tN t 4 c)) (x + 13) = hI h (x + 13) := ((rmH_fq (P := fun z => z = x + 15 + c) rfl).2.2.2 (x + 13) (by omega)).1
  rw [es]
  refine E.g_chan hc (l := l) (bb := if 1 < tN t 4 c then tN t 4 c - 1 else tN t 4 c) ?_ ?_ ?_ (rmH_fq (Or.inl rfl))
  · have el : tC (uN (uC t c l) 4 c (if 1 < tN t 4 c then tN t 4 c - 1 else tN t 4 c)) c = l := by show tC (uC t c l) c = l; rw [tC_uC, if_pos rfl]
    have eb : tN (uN (uC t c l) 4 c (if 1 < tN t 4 c then tN t 4 c - 1 else tN t 4 c)) 4 c = if 1 < tN t 4 c then tN t 4 c - 1 else tN t 4 c := by rw [tN_uN, if_pos ⟨rfl, rfl⟩]
    have base : ∀ f : Nat → Int32, f 0 = nI c → f 2 = fsI l → f 3 = lsI l → f 4 = nI l.length → f 5 = nI (if 1 < tN t 4 c then tN t 4 c - 1 else tN t 4 c) - 1 → f 6 = nI (tN t 5 c) → f 7 = nI (xN e 1 c) → kCh c (uN (uC t c l) 4 c (if 1 < tN t 4 c then tN t 4 c - 1 else tN t 4 c)) e f := by
      intro f h0 h2 h3 h4 h5 h6 h7
      unfold kCh
      rw [el, eb]
      exact ⟨h0, h2, h3, h4, h5, h6, h7⟩
    rw [hl] at k3
    by_cases hb : 1 < tN t 4 c
    · by_cases h0 : l = []
      · rw [show rmH h (x + 15 + c) l (tN t 4 c) = pI (pI (pI (pI h (x + 15 + c) 2 (fsI l)) (x + 15 + c) 3 (-1)) (x + 15 + c) 4 (nI l.length)) (x + 15 + c) 5 (nI (tN t 4 c - 1) - 1) from (by unfold rmH; rw [if_pos hb, if_pos h0]), hI_eq, hI_eq, hI_eq, hI_eq]
        refine base _ ?_ ?_ ?_ ?_ ?_ ?_ ?_ <;> simp [va_up, hb] <;> first | assumption | (rw [h0]; rfl)
      · rw [show rmH h (x + 15 + c) l (tN t 4 c) = pI (pI (pI h (x + 15 + c) 2 (fsI l)) (x + 15 + c) 4 (nI l.length)) (x + 15 + c) 5 (nI (tN t 4 c - 1) - 1) from (by unfold rmH; rw [if_pos hb, if_neg h0]), hI_eq, hI_eq, hI_eq]
        refine base _ ?_ ?_ ?_ ?_ ?_ ?_ ?_ <;> simp [va_up, hb] <;> first | assumption | (obtain ⟨s, l', rfl⟩ := List.exists_cons_of_ne_nil h0; rw [← lsI_cons (r := r)]; exact k3)
    · by_cases h0 : l = []
      · rw [show rmH h (x + 15 + c) l (tN t 4 c) = pI (pI (pI h (x + 15 + c) 2 (fsI l)) (x + 15 + c) 3 (-1)) (x + 15 + c) 4 (nI l.length) from (by unfold rmH; rw [if_neg hb, if_pos h0]), hI_eq, hI_eq, hI_eq]
        refine base _ ?_ ?_ ?_ ?_ ?_ ?_ ?_ <;> simp [va_up, hb] <;> first | assumption | (rw [h0]; rfl)
      · rw [show rmH h (x + 15 + c) l (tN t 4 c) = pI (pI h (x + 15 + c) 2 (fsI l)) (x + 15 + c) 4 (nI l.length) from (by unfold rmH; rw [if_neg hb, if_neg h0]), hI_eq, hI_eq]
        refine base _ ?_ ?_ ?_ ?_ ?_ ?_ ?_ <;> simp [va_up, hb] <;> first | assumption | (obtain ⟨s, l', rfl⟩ := List.exists_cons_of_ne_nil h0; rw [← lsI_cons (r := r)]; exact k3)
  · rw [hin]
    have := E.k_beh c hc
    rw [hl] at this
    exact this.2
  · intro d hd hdc
    rw [hin]
    exact E.k_beh d hd
theorem RX.appT {t' : TS} {h' : AH} (E : RX x m t' e h') (D1 : ∀ c, (tC t' c).Nodup) (D2 : ∀ c d z, z ∈ tC t' c → z ∈ tC t' d → c = d) {c r : Nat} (hc : c < 16 * (tN t' 0 0 - 1)) (hr : ∀ d, r ∉ tC t' d) : RX x m (uC t' c (tC t' c ++ [r])) e (apH h' (x + 15 + c) (x + 13) (tC t' c) r) := E.app ⟨D1, D2⟩ hc hr
/-- where the row is when it has gone on -/
def spPass (t : TS) (s r : Nat) : TS := if s + 1 < tN t 0 0 then spPut (spTake t s r) (home t s (tN t 2 r)) r else spTake t s r
theorem c_X5_passRow (E : RX x m t e h) (B : TB t) (D : DJ t) {s r : Nat} (hs : s < tN t 0 0) (hr : r < tN t 0 3) (hM : tN t 3 (16 * s + tN t 2 r) < 200) (hf : ∀ d, r ∉ tC t d) : MA G mX5_passRow 3 0 0 [.ref x, .int (nI s), .int (nI r)] h (Ov (fun h' => RX x m (spPass t s r) e h' ∧ Fq (Px m) h h')) := by
  have b := E.L.b
  have bS := B.S
  have bf := B.fed
  have bk := B.key r
  have bm := B.many (16 * s + tN t 2 r)
  have K1 := E.k_many (16 * s + tN t 2 r) (by omega)
  have K2 := E.k_sum (16 * s + tN t 2 r) (by omega)
  refine MA.intro (lv := [some (.ref x), some (.int (nI s)), some (.int (nI r)), none, none]) (by decide) (Nat.le_of_ble_eq_true rfl) rfl (fun F C => ?_)
  have E1 : RX x m (spTake t s r) e (pL (pI h (x + 7) (16 * s + tN t 2 r) (nI (tN t 3 (16 * s + tN t 2 r) + 1))) (x + 8) (16 * s + tN t 2 r) (tL t 1 (16 * s + tN t 2 r) + tL t 0 r)) := (E.p_many _ _).p_sum _ _
  have f1 : Fq (Px m) h (pL (pI h (x + 7) (16 * s + tN t 2 r) (nI (tN t 3 (16 * s + tN t 2 r) + 1))) (x + 8) (16 * s + tN t 2 r) (tL t 1 (16 * s + tN t 2 r) + tL t 0 r)) := (Fq.rf.pI (Or.inl (by omega))).pL (Or.inl (by omega))
  have t26 : ∀ h', RX x m (spTake t s r) e h' → Fq (Px m) h h' → WA G F mX5_passRow h' 0 0 (MQA G F 0 0 (Ov (fun h' => RX x m (spPass t s r) e h' ∧ Fq (Px m) h h'))) 26 [some (.ref x), some (.int (nI s)), some (.int (nI r)), some (.int (nI (tN t 2 r))), none] [] := by
    intro h' E f
    have B1 : TB (spTake t s r) := TB.pL (B.p3 (by omega))
    unfold spPass
    by_cases h1 : s + 1 < tN t 0 0
    · rw [if_pos h1]
      have hh := (home_lt B (k := tN t 2 r) h1).1
      have L := E.L.ch (c := home t s (tN t 2 r)) hh
      have K := E.k_ch (home t s (tN t 2 r)) hh
      have E2 : RX x m (spPut (spTake t s r) (home t s (tN t 2 r)) r) e (apH h' (x + 15 + home t s (tN t 2 r)) (x + 13) (tC t (home t s (tN t 2 r))) r) := by
        refine RX.appT E ?_ ?_ (c := home t s (tN t 2 r)) hh ?_
        · exact D.1
        · exact D.2
        · exact hf
      refine r_aload_n (pc := 26) C dX5_passRow_26 rfl rfl ?_
      refine r_iload_n (pc := 27) C dX5_passRow_27 rfl rfl ?_
      refine r_iload_n (pc := 28) C dX5_passRow_28 rfl rfl ?_
      refine r_callq (cr_V (pc := 29) C (c_X5_channelOf E B1 hs (by omega)) dX5_passRow_29 cm_X5_channelOf ml_X5_304 im_X5_channelOf se_X5_channelOf E.L.o rfl ⟨⟨Nat.le_of_ble_eq_true rfl, Nat.le_of_ble_eq_true rfl⟩, Nat.le_of_ble_eq_true rfl, Nat.le_of_ble_eq_true rfl⟩ rfl rfl (Nat.le_of_ble_eq_true rfl)) (fun v29 h29 hq29 => ?_)
      obtain ⟨rfl, rfl⟩ := hq29
      rw [show (if s + 1 < tN (spTake t s r) 0 0 then some (x + 15 + home (spTake t s r) s (tN t 2 r)) else none) = some (x + 15 + home t s (tN t 2 r)) from if_pos h1]
      refine r_astore (pc := 32) (lv' := [_, _, _, _, _]) C dX5_passRow_32 (by decide) rfl rfl ?_
      refine r_aload (pc := 34) C dX5_passRow_34 rfl ?_
      refine r_ifnull (pc := 36) C dX5_passRow_36 ?_
      refine r_aload (pc := 39) C dX5_passRow_39 rfl ?_
      refine r_iload_n (pc := 41) C dX5_passRow_41 rfl rfl ?_
      refine r_callv (cr_V (pc := 42) C (c_X0_append (l := tC t (home t s (tN t 2 r))) L.2.1 L.2.2 E.L.sb (by omega) K.2.2.1 K.2.2.2.1 (fun z hz => by have := B.row hz; omega) (by omega)) dX5_passRow_42 cm_X0_append ml_X5_311 im_X0_append se_X0_append L.2.1 rfl ⟨⟨Nat.le_of_ble_eq_true rfl, Nat.le_of_ble_eq_true rfl⟩, Nat.le_of_ble_eq_true rfl, Nat.le_of_ble_eq_true rfl⟩ rfl rfl (Nat.le_of_ble_eq_true rfl)) (fun h42 hq42 => ?_)
      subst hq42
      exact r_vret (pc := 45) C rfl (Nat.le_of_ble_eq_true rfl) (Nat.le_of_ble_eq_true rfl) ⟨rfl, ⟨E2, f.tr (apH_fq (Or.inl (by omega)) (Or.inl (by omega)))⟩⟩ dX5_passRow_45
    · rw [if_neg h1]
      refine r_aload_n (pc := 26) C dX5_passRow_26 rfl rfl ?_
      refine r_iload_n (pc := 27) C dX5_passRow_27 rfl rfl ?_
      refine r_iload_n (pc := 28) C dX5_passRow_28 rfl rfl ?_
      refine r_callq (cr_V (pc := 29) C (c_X5_channelOf E B1 hs (by omega)) dX5_passRow_29 cm_X5_channelOf ml_X5_304 im_X5_channelOf se_X5_channelOf E.L.o rfl ⟨⟨Nat.le_of_ble_eq_true rfl, Nat.le_of_ble_eq_true rfl⟩, Nat.le_of_ble_eq_true rfl, Nat.le_of_ble_eq_true rfl⟩ rfl rfl (Nat.le_of_ble_eq_true rfl)) (fun v29 h29 hq29 => ?_)
      obtain ⟨rfl, rfl⟩ := hq29
      rw [show (if s + 1 < tN (spTake t s r) 0 0 then some (x + 15 + home (spTake t s r) s (tN t 2 r)) else none) = none from if_neg h1]
      refine r_astoreN (pc := 32) (lv' := [_, _, _, _, _]) C dX5_passRow_32 (by decide) rfl rfl ?_
      refine r_aloadN (pc := 34) C dX5_passRow_34 rfl ?_
      refine r_ifnullN (pc := 36) (tgt := 45) C dX5_passRow_36 (by decide) ?_
      exact r_vret (pc := 45) C rfl (Nat.le_of_ble_eq_true rfl) (Nat.le_of_ble_eq_true rfl) ⟨rfl, ⟨E, f⟩⟩ dX5_passRow_45
  refine r_aload_n (pc := 0) C dX5_passRow_0 rfl rfl ?_
  refine r_getR (pc := 1) C fl_X5_16 E.L.o rfl E.L.r2 dX5_passRow_1 ?_
  refine r_iload_n (pc := 4) C dX5_passRow_4 rfl rfl ?_
  refine r_calli (cr_V (pc := 5) C (c_X1_keyOf E.L.I E.K1 bf _) dX5_passRow_5 cm_X1_keyOf ml_X5_204 im_X1_keyOf se_X1_keyOf E.L.I.1 rfl ⟨⟨Nat.le_of_ble_eq_true rfl, Nat.le_of_ble_eq_true rfl⟩, Nat.le_of_ble_eq_true rfl, Nat.le_of_ble_eq_true rfl⟩ rfl rfl (Nat.le_of_ble_eq_true rfl)) (fun v5 h5 hq5 => ?_)
  obtain ⟨rfl, rfl⟩ := hq5
  rw [keyI_n hr bf]
  refine r_istore_n (pc := 8) (lv' := [_, _, _, _, _]) C dX5_passRow_8 rfl (by decide) rfl rfl ?_
  refine r_aload_n (pc := 9) C dX5_passRow_9 rfl rfl ?_
  refine r_getR (pc := 10) C fl_X5_23 E.L.o rfl E.L.r3 dX5_passRow_10 ?_
  refine r_iload_n (pc := 13) C dX5_passRow_13 rfl rfl ?_
  refine r_iload_n (pc := 14) C dX5_passRow_14 rfl rfl ?_
  refine r_aload_n (pc := 15) C dX5_passRow_15 rfl rfl ?_
  refine r_getR (pc := 16) C fl_X5_16 E.L.o rfl E.L.r2 dX5_passRow_16 ?_
  refine r_iload_n (pc := 19) C dX5_passRow_19 rfl rfl ?_
  refine r_calll (cr_V (pc := 20) C (c_X1_valueOf E.L.I E.K1 bf _) dX5_passRow_20 cm_X1_valueOf ml_X5_207 im_X1_valueOf se_X1_valueOf E.L.I.1 rfl ⟨⟨Nat.le_of_ble_eq_true rfl, Nat.le_of_ble_eq_true rfl⟩, Nat.le_of_ble_eq_true rfl, Nat.le_of_ble_eq_true rfl⟩ rfl rfl (Nat.le_of_ble_eq_true rfl)) (fun v20 h20 hq20 => ?_)
  obtain ⟨rfl, rfl⟩ := hq20
  rw [valI_n hr bf]
  refine r_callv (cr_V (pc := 23) C (c_X3_count E.L.T (s := s) (k := tN t 2 r) (by omega) (by omega) K1 K2) dX5_passRow_23 cm_X3_count ml_X5_307 im_X3_count se_X3_count E.L.T.1 rfl ⟨⟨Nat.le_of_ble_eq_true rfl, Nat.le_of_ble_eq_true rfl⟩, Nat.le_of_ble_eq_true rfl, Nat.le_of_ble_eq_true rfl⟩ rfl rfl (Nat.le_of_ble_eq_true rfl)) (fun h23 hq23 => ?_)
  subst hq23
  exact t26 _ E1 f1
end CP66
