/-! ===== the law: from its entry ===== -/
theorem RX.bl0 {x m k : Nat} {t : TS} {e : ES} {h h' : AH} (E : RX x m t e h) (K : Bl k h h') (h4 : tN t 0 4 = 0) (hk : x + 20 * tN t 0 0 ≤ k) : RX x m t e h' := by
  have b := E.L.b
  have L := E.L
  have KS : ∀ z, z < k → hS h' z = hS h z := fun z hz => (K z hz).1
  have KR : ∀ z, z < k → hR h' z = hR h z := fun z hz => (K z hz).2.2.2
  have iB : ∀ z, z < k → hI h' z = hI h z := fun z hz => (K z hz).2.1
  have lB : ∀ z, z < k → hL h' z = hL h z := fun z hz => (K z hz).2.2.1
  refine ⟨⟨b, ?_, ⟨?_, ?_⟩, ⟨?_, ?_⟩, ⟨?_, ?_⟩, ⟨?_, ?_⟩, ⟨?_, ?_⟩, ?_, ⟨?_, ?_⟩, fun c hc => ⟨?_, ?_, ?_⟩, ⟨?_, ?_⟩, fun i hi => ⟨?_, ?_⟩, fun j hj => ?_, fun j hj => absurd hj (by omega)⟩, ?_, ?_, ?_, ?_, ?_, ?_, ?_, ?_, ?_, ?_, ?_, fun j hj => absurd hj (by omega), fun j hj => absurd hj (by omega), fun j hj => absurd hj (by omega), fun j hj => absurd hj (by omega), fun j hj => absurd hj (by omega), fun j hj => absurd hj (by omega)⟩
  · rw [KS x (by omega)]; exact L.o
  · rw [KR x (by omega)]; exact L.r1
  · rw [KS (x + 1) (by omega)]; exact L.s1
  · rw [KR x (by omega)]; exact L.r2
  · exact L.I.cg (fun z h1 h2 => ⟨KS z (by omega), KR z (by omega)⟩)
  · rw [KR x (by omega)]; exact L.r3
  · exact L.T.cg (fun z h1 h2 => ⟨KS z (by omega), KR z (by omega)⟩)
  · rw [KR x (by omega)]; exact L.r6
  · rw [KS (x + 9) (by omega)]; exact L.s6
  · rw [KR x (by omega)]; exact L.r7
  · exact L.F.cg (fun z h1 h2 => ⟨KS z (by omega), KR z (by omega)⟩)
  · rw [KS (x + 13) (by omega)]; exact L.sb
  · rw [KR x (by omega)]; exact L.r4
  · rw [KS (x + 14) (by omega)]; exact L.s4
  · rw [KR (x + 14) (by omega)]; exact (L.ch hc).1
  · rw [KS (x + 15 + c) (by omega)]; exact (L.ch hc).2.1
  · rw [KR (x + 15 + c) (by omega)]; exact (L.ch hc).2.2
  · rw [KR x (by omega)]; exact L.r5
  · rw [KS (x + 16 * tN t 0 0 - 1) (by omega)]; exact L.s5
  · rw [KR (x + 16 * tN t 0 0 - 1) (by omega)]; exact (L.tk hi).1
  · rw [KS (x + 16 * tN t 0 0 + i) (by omega)]; exact (L.tk hi).2
  · rw [KR (x + 9) (by omega)]; exact L.mk hj
  · rw [iB x (by omega)]; exact E.k_ob
  · rw [iB (x + 1) (by omega)]; exact E.k_P
  · rw [iB (x + 2) (by omega)]; exact E.k_fed
  · rw [iB (x + 3) (by omega)]; exact E.k_key
  · rw [lB (x + 4) (by omega)]; exact E.k_val
  · rw [iB (x + 5) (by omega)]; exact E.k_unr
  · rw [iB (x + 7) (by omega)]; exact E.k_many
  · rw [lB (x + 8) (by omega)]; exact E.k_sum
  · rw [iB (x + 13) (by omega)]; exact E.k_beh
  · intro c hc; rw [iB (x + 15 + c) (by omega)]; exact E.k_ch c hc
  · intro i hi; rw [iB (x + 16 * tN t 0 0 + i) (by omega)]; exact E.k_tk i hi
/-- an abstract heap that knows nothing yet -/
def h00 (n : Nat) : AH := (fun _ => (9, 0), fun _ _ => 0, fun _ _ => none, fun _ _ => 0, n)
theorem law_w {nm : String} {G : GP} {F : FX} {b L : Nat} {xs : Nat → Int32} {Q : State → Prop} (C : CX G F (mL_law nm) room_1) (hX : va_X b L xs (fs F) (gH G)) (hbl : b < gb G) (hL : L ≤ 385) (hcl : (Cond.constantLong (mL_law nm).1.cls 39 4294967295).before (fa F) (fs F) = true)
    (k : ∀ x m h cells slots x3, cells ≤ 600000 → slots ≤ 7302250 → WA G F (mL_law nm) h cells slots Q 1074 (lvL b x m x3) []) : WA G F (mL_law nm) (h00 (gb G)) 0 0 Q 0 [some (.ref b), none, none, none] [] := by
  have nm1 : (-1 : Int32) = nI 0 - 1 := rfl
  have hh : hN (h00 (gb G)) = gb G := rfl
  generalize h00 (gb G) = h at hh
  refine r_new (pc := 0) (ci := 5) C (by decide) cl_L_7 ins_5 ini_5 df_5 (Nat.le_of_ble_eq_true rfl) (Nat.le_of_ble_eq_true rfl) dL_law_0 ?_
  refine WA.widen (c' := 1) (s' := 14) (Nat.le_of_ble_eq_true rfl) (Nat.le_of_ble_eq_true rfl) ?_
  refine r_dup (pc := 3) C dL_law_3 rfl ?_
  refine r_aload_n (pc := 4) C dL_law_4 rfl rfl ?_
  refine r_iconst (pc := 5) (v := (nI 0)) C dL_law_5 (by decide) ?_
  refine r_calli (cr_Sx (pc := 6) C hX (c_L_cell hbl (by omega) (k := 0) (by decide)) dL_law_6 cm_L_cell ml_L_9 st_L_cell ⟨⟨Nat.le_of_ble_eq_true rfl, Nat.le_of_ble_eq_true rfl⟩, Nat.le_of_ble_eq_true rfl, Nat.le_of_ble_eq_true rfl⟩ rfl rfl (Nat.le_of_ble_eq_true rfl)) (fun v6 h6 hq6 => ?_)
  obtain ⟨rfl, rfl⟩ := hq6
  refine r_callv (cr_I (pc := 9) C (c_X5_init (x := hN h) (by rw [hS_new, if_pos rfl]) rfl _ nI_0 nm1) dL_law_9 cm_X5_init rfl rfl ml_L_15 im_X5_init ⟨⟨Nat.le_of_ble_eq_true rfl, Nat.le_of_ble_eq_true rfl⟩, Nat.le_of_ble_eq_true rfl, Nat.le_of_ble_eq_true rfl⟩ rfl rfl (Nat.le_of_ble_eq_true rfl)) (fun h9 hq9 => ?_)
  obtain ⟨E, n1⟩ := hq9
  have bS := nS_le (x := celN xs L 0)
  refine r_astore_n (pc := 12) (lv' := [_, _, _, _]) C dL_law_12 rfl (Nat.le_of_ble_eq_true rfl) rfl rfl ?_
  refine r_new (pc := 13) (ci := 6) C (by decide) cl_L_18 ins_6 ini_6 df_6 (Nat.le_of_ble_eq_true rfl) (Nat.le_of_ble_eq_true rfl) dL_law_13 ?_
  refine WA.widen (c' := 81) (s' := 1449) (Nat.le_of_ble_eq_true rfl) (Nat.le_of_ble_eq_true rfl) ?_
  refine r_dup (pc := 16) C dL_law_16 rfl ?_
  refine r_aload_n (pc := 17) C dL_law_17 rfl rfl ?_
  refine r_iconst (pc := 18) (v := (nI 0)) C dL_law_18 (by decide) ?_
  refine r_calli (cr_Sx (pc := 19) C hX (c_L_cell hbl (by omega) (k := 0) (by decide)) dL_law_19 cm_L_cell ml_L_9 st_L_cell ⟨⟨Nat.le_of_ble_eq_true rfl, Nat.le_of_ble_eq_true rfl⟩, Nat.le_of_ble_eq_true rfl, Nat.le_of_ble_eq_true rfl⟩ rfl rfl (Nat.le_of_ble_eq_true rfl)) (fun v19 h19 hq19 => ?_)
  obtain ⟨rfl, rfl⟩ := hq19
  refine r_callv (cr_I (pc := 22) C (c_X6_init (m := hN h9) (by rw [hS_new, if_pos rfl]) rfl (by rw [hI_newf, if_pos rfl]) _) dL_law_22 cm_X6_init rfl rfl ml_L_20 im_X6_init ⟨⟨Nat.le_of_ble_eq_true rfl, Nat.le_of_ble_eq_true rfl⟩, Nat.le_of_ble_eq_true rfl, Nat.le_of_ble_eq_true rfl⟩ rfl rfl (Nat.le_of_ble_eq_true rfl)) (fun h22 hq22 => ?_)
  obtain ⟨M, n2, K⟩ := hq22
  rw [n1] at M n2 K ⊢
  have K2 : Bl (hN h + 20 * nS (celN xs L 0)) h9 h22 := (Bl.new.less (by omega)).tr (fun z hz => ⟨(K z hz).1, (K z hz).2.1, (K z hz).2.2.2, (K z hz).2.2.1⟩)
  have E2 := E.bl0 K2 rfl (Nat.le_refl _)
  have I0 : LI (hN h) (hN h + 20 * nS (celN xs L 0)) 0 h22 := ⟨spNew (celN xs L 0), e0_, 0, M, E2, Ext.new, IV.new, CU.new nI_0, Nat.le_refl _, n2⟩
  refine r_astore_n (pc := 25) (lv' := [_, _, _, _]) C dL_law_25 rfl (Nat.le_of_ble_eq_true rfl) rfl rfl ?_
  refine r_iconst (pc := 26) (v := (nI 1)) C dL_law_26 (by decide) ?_
  refine r_istore_n (pc := 27) (lv' := [_, _, _, _]) C dL_law_27 rfl (Nat.le_of_ble_eq_true rfl) rfl rfl ?_
  refine WA.widen (c' := 110 + 7 * 0) (s' := 17000 + 543 * 0) (Nat.le_of_ble_eq_true rfl) (Nat.le_of_ble_eq_true rfl) ?_
  exact law_l C hX hbl hL hcl (k _ _) 100 0 h22 rfl (Or.inl rfl) I0
theorem whole_start {p : Program} {e : Env} {s : State} {m : MethodId} {below : List Frame} {meth : Method} {c : Code} (l : Launch) {b L : Nat} {xs : Nat → Int32} (hL : L ≤ 385) (C0 : lw_At p s m meth c b L xs) : W p l e room_1 s m #[Value.ref b] below meth c s.heap [] 0 0 (lw_Z below #[Value.ref b] s) (entryFrame m ([Value.ref b] : List Value).toArray 4) := by
  obtain ⟨hx, hb, hr, hml, hown, hts, hX, hbl, hlk, hgv⟩ := C0
  obtain ⟨gC, gI, gA, K⟩ := KX_of (l := l) hts
  have C : CX (l, gC, gI, gA, s.heap) (p, e, room_1, s, m, #[Value.ref b], below, meth, c) (mL_law meth.name) room_1 := ⟨hx, hb, hml, hr, hown, fun w hw => hts w (List.mem_filter.mp hw).1, hlk, rfl, rfl, K⟩
  have hcl : (Cond.constantLong (mL_law meth.name).1.cls 39 4294967295).before #[Value.ref b] s = true := hts (.constantLong RL 39 4294967295) (by decide +kernel)
  have fin := law_w (Q := lw_Z below #[Value.ref b] s) C hX hbl hL hcl (fun x mm h cells slots x3 h1 h2 => by
    refine r_iconst (pc := 1074) (v := 1) C dL_law_1074 (by decide) ?_
    exact fun H locs ls hp hl hlv => va_forget hl (W.widen h1 h2 (lw_ret hx hb hr hlk dL_law_1075)))
  have hlv := LV.entry (n := 4) [Value.ref b] (Nat.le_of_ble_eq_true rfl)
  rw [lg_entry_eq]
  exact fin s.heap [] _ ⟨rfl, Nat.le_refl _, fun q _ => rfl, fun a ha => absurd rfl ha⟩ (fun q h => by cases h) hlv
