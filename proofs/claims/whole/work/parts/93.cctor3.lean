/-! ===== the class: its constructor, all of it ===== -/
def e0_ : ES := (fun _ _ => 0, fun _ _ => 0)
section CC93
variable {G : GP} {x : Nat}
theorem Q5e.fq {h h' : AH} (Q : Q5e x h) (f : Fq (fun z => z = x + 1) h h') : Q5e x h' := by
  have K : ∀ z, z ≠ x + 1 → Sm4 h h' z := fun z hz => ⟨by rw [f.2.1], (f.2.2.2 z hz).1, (f.2.2.2 z hz).2, by rw [f.2.2.1]⟩
  obtain ⟨⟨⟨⟨⟨a1, a2, a3⟩, b1, b2⟩, c1, c2⟩, d1, d2, d3⟩, e1, e2⟩ := Q
  exact ⟨⟨⟨⟨⟨by rw [f.2.1]; exact a1, by rw [f.2.2.1]; exact a2, by rw [f.2.1]; exact a3⟩, by rw [f.2.2.1]; exact b1, b2.mv (fun z h1 h2 => K z (by omega))⟩, by rw [f.2.2.1]; exact c1, c2.mv (fun z h1 h2 => K z (by omega))⟩, by rw [f.2.2.1]; exact d1, by rw [f.2.1]; exact d2, by rw [f.2.2.1]; exact d3⟩, by rw [f.2.2.1]; exact e1, e2.mv (fun z h1 h2 => K z (by omega))⟩
theorem PT.rx {z : Int32} {h : AH} (P : PT x (nS z) (4 * nS z) h) (n0 : nI 0 = 0) (nm : (-1 : Int32) = nI 0 - 1) : RX x (x + 20 * nS z) (spNew z) e0_ h := by
  have b := nS_le (x := z)
  obtain ⟨⟨⟨⟨⟨⟨⟨a1, a2, a3⟩, b1, b2⟩, c1, c2⟩, d1, d2, d3⟩, e1, e2⟩, w2, w3, w4⟩, ⟨p2, p3, p5⟩, p6, p7, p4, p8⟩ := P
  obtain ⟨o1, o2, o3, o4, o5, o6, o7⟩ := w3
  have eS : tN (spNew z) 0 0 = nS z := rfl
  have eM : tN (spNew z) 0 4 = 0 := rfl
  have nz : ∀ k i, k ≠ 0 → k ≠ 1 → tN (spNew z) k i = 0 := fun k i h0 h1 => by
    show (if k = 0 then _ else if k = 1 then 1 else 0) = 0
    rw [if_neg h0, if_neg h1]
  refine ⟨⟨⟨b.1, b.2, by rw [eM]; omega, by rw [eS]; omega⟩, a1, ⟨a2, a3⟩, ⟨b1, b2.1⟩, ⟨c1, c2.1⟩, ⟨d1, d2⟩, ⟨e1, e2.1⟩, w4, ⟨p2, p3⟩, fun c hc => ⟨(p5 c hc).1, (p5 c hc).2.1, (p5 c hc).2.2.1⟩, ⟨p6, p7⟩, fun i hi => ⟨(p8 i hi).1, (p8 i hi).2.1⟩, fun j hj => ?_, fun j hj => absurd hj (by rw [eM]; omega)⟩, ⟨o1, o2, ?_, ?_, o5, ?_, o7⟩, fun i hi => ?_, b2.2.1, fun i hi => ?_, fun i hi => ?_, fun k hk => ?_, fun i hi => ?_, fun i hi => ?_, fun c hc => trivial, fun c hc => ?_, fun i hi => ?_, fun j hj => absurd hj (by rw [eM]; omega), fun j hj => absurd hj (by rw [eM]; omega), fun j hj => absurd hj (by rw [eM]; omega), fun j hj => absurd hj (by rw [eM]; omega), fun j hj => absurd hj (by rw [eM]; omega), fun j hj => absurd hj (by rw [eM]; omega)⟩
  · rw [d3, eM, if_neg (by omega)]
  · rw [o3]; exact nm
  · rw [o4]; exact n0
  · rw [o6]; exact n0
  · rw [w2 i hi]; rfl
  · rw [b2.2.2.1, nz 2 i (by decide) (by decide), n0]
  · rw [b2.2.2.2.1]; rfl
  · rw [b2.2.2.2.2 k hk]; exact nm
  · rw [c2.2.1, nz 3 i (by decide) (by decide), n0]
  · rw [c2.2.2]; rfl
  · obtain ⟨q1, q2, q3, q4, q5, q6, q7, q8, q9, q10⟩ := p5 c hc
    exact ⟨q4, q5, q6, q7, by rw [q8, nz 4 c (by decide) (by decide)]; exact nm, by rw [q9, nz 5 c (by decide) (by decide)], q10⟩
  · obtain ⟨q1, q2, q3, q4, q5, q6⟩ := p8 i hi
    exact ⟨by rw [eS, q3, nz 6 i (by decide) (by decide)], by rw [eS]; exact q4, by rw [eS, q5]; exact n0, by rw [eS, q6, nz 8 i (by decide) (by decide)]⟩
theorem Ext.new {z : Int32} : Ext (spNew z) e0_ := by
  have nz : ∀ k i, k ≠ 0 → k ≠ 1 → tN (spNew z) k i = 0 := fun k i h0 h1 => by
    show (if k = 0 then _ else if k = 1 then 1 else 0) = 0
    rw [if_neg h0, if_neg h1]
  have eM : tN (spNew z) 0 4 = 0 := rfl
  have h5 : ∀ c, tN (spNew z) 5 c = 0 := fun c => nz 5 c (by decide) (by decide)
  refine ⟨fun k hk => ⟨fun _ => ?_, fun r hr => by cases hr⟩, fun k => Nat.zero_le _, fun c hc => ?_, fun s q hs hq => ?_, fun j hj => absurd hj (by rw [eM]; omega), fun j hj => absurd hj (by rw [eM]; omega), fun s q hs hq => ⟨⟨fun hn => absurd (nz 7 _ (by decide) (by decide)) hn, fun hn => absurd rfl hn.1⟩, fun hn => absurd (nz 7 _ (by decide) (by decide)) hn⟩, fun j hj => absurd hj (by rw [eM]; omega)⟩
  · exact Nat.zero_le _
  · exact (if_pos rfl).symm
  · rw [cmN_0 h5]
    split <;> rfl
theorem c_X5_init {h : AH} (ho : hS h x = (0, 5)) (hn : hN h = x + 1) (z : Int32) (n0 : nI 0 = 0) (nm : (-1 : Int32) = nI 0 - 1) : MA G mX5_init 2 79 1404 [.ref x, .int z] h (Ov (fun h' => RX x (x + 20 * nS z) (spNew z) e0_ h' ∧ hN h' = x + 20 * nS z)) := by
  have b := nS_le (x := z)
  refine MA.intro (lv := [some (.ref x), some (.int z), none, none]) (by decide) (Nat.le_of_ble_eq_true rfl) rfl (fun F C => ?_)
  have t203 : ∀ h' (x3 : Int32), PT x (nS z) (4 * nS z) h' → WA G F mX5_init h' (63 + 4 * nS z) (1340 + 4 * (4 * nS z)) (MQA G F 79 1404 (Ov (fun h' => RX x (x + 20 * nS z) (spNew z) e0_ h' ∧ hN h' = x + 20 * nS z))) 203 [some (.ref x), some (.int z), some (.ref (x + 13)), some (.int x3)] [] := by
    intro h' x3 P
    exact r_vret (pc := 203) C rfl (by omega) (by omega) ⟨rfl, ⟨P.rx n0 nm, by have := P.2.2.2.2.1; omega⟩⟩ dX5_init_203
  have t160 : ∀ h' (x3 : Int32), PB x (nS z) (16 * (nS z - 1)) h' → WA G F mX5_init h' (14 + 16 * (nS z - 1)) (940 + 8 * (16 * (nS z - 1))) (MQA G F 79 1404 (Ov (fun h' => RX x (x + 20 * nS z) (spNew z) e0_ h' ∧ hN h' = x + 20 * nS z))) 160 [some (.ref x), some (.int z), some (.ref (x + 13)), some (.int x3)] [] := by
    intro h' x3 P
    have o := P.1.1.1.1.1.1.1
    have f0 := P.1.2.2.1.1
    refine WA.widen (c' := 62) (s' := 1324) (by omega) (by omega) ?_
    refine r_aload_n (pc := 160) C dX5_init_160 rfl rfl ?_
    refine r_aload_n (pc := 161) C dX5_init_161 rfl rfl ?_
    refine r_getIe (pc := 162) C fl_X5_64 o rfl f0 dX5_init_162 ?_
    refine r_iconst (pc := 165) (v := (nI 4)) C dX5_init_165 (by decide) ?_
    refine n_imul (pc := 166) C dX5_init_166 ?_
    refine r_newq (pc := 167) (k := 6) C (by decide) (by decide) cl_X5_82 rfl (by omega) (Nat.le_of_ble_eq_true rfl) (by show 1324 + nS z * 4 ≤ 1404; omega) dX5_init_167 ?_
    refine r_putFR (pc := 170) C fl_X5_84 (by rw [hS_new, if_neg (by have := P.2.2.2.1; omega)]; exact o) rfl rfl rfl rfl rfl rfl fw_X5_84 dX5_init_170 ?_
    refine r_iconst (pc := 173) (v := (nI 0)) C dX5_init_173 (by decide) ?_
    refine r_istore_n (pc := 174) (lv' := [_, _, _, _]) C dX5_init_174 rfl (by decide) rfl rfl ?_
    refine WA.widen (c' := 63 + 0) (s' := 1340 + 4 * 0) (Nat.le_of_ble_eq_true rfl) (by omega) ?_
    exact ctor_c C b t203 (4 * nS z) 0 _ (by omega) (P.tasks b)
  refine ctor_a C (fun h1 q5 n5 ob => ?_) ho hn
  have o := q5.1.1.1.1.1
  have r1 := q5.1.1.1.1.2.1
  have s1 := q5.1.1.1.1.2.2
  refine r_aload_n (pc := 98) C dX5_init_98 rfl rfl ?_
  refine r_getR (pc := 99) C fl_X5_9 o rfl r1 dX5_init_99 ?_
  refine r_iconst (pc := 102) (v := (nI 1)) C dX5_init_102 (by decide) ?_
  refine r_callv (cr_S (pc := 103) C (c_J7_fill (n := 4) s1 (by decide)) dX5_init_103 cm_J7_fill_53178 ml_X5_67 st_J7_fill_53178 ⟨⟨Nat.le_of_ble_eq_true rfl, Nat.le_of_ble_eq_true rfl⟩, Nat.le_of_ble_eq_true rfl, Nat.le_of_ble_eq_true rfl⟩ rfl rfl (Nat.le_of_ble_eq_true rfl)) (fun h103 hq103 => ?_)
  obtain ⟨f1, f2⟩ := hq103
  have q6 := q5.fq f1
  have n6 : hN h103 = x + 13 := f1.1.trans n5
  have ob6 : Ob5 (nS z) (hI h103 x) := by rw [(f1.2.2.2 x (by omega)).1]; exact ob
  refine WA.widen (c' := 12) (s' := 692) (Nat.le_of_ble_eq_true rfl) (Nat.le_of_ble_eq_true rfl) ?_
  refine r_sipush (pc := 106) (v := (nI 200)) C dX5_init_106 (by decide) ?_
  refine r_newai (pc := 109) C ac_int rfl (by decide) (by decide) (by decide) dX5_init_109 ?_
  have w7 : W5 x (nS z) (hnew h103 (1, 200)) := ⟨q6.mv (n := x + 13) (by omega) (fun z h1 h2 => Sm4.new (by omega)) (Sm4.new (by omega)).1 (by rw [(Sm4.new (h := h103) (sh := (1, 200)) (z := x) (by omega)).2.2.2]; exact ⟨⟨⟨⟨rfl, rfl⟩, rfl⟩, rfl⟩, rfl⟩), (fun i hi => by rw [(Sm4.new (h := h103) (sh := (1, 200)) (z := x + 1) (by omega)).2.1]; exact f2 i hi), (by rw [(Sm4.new (h := h103) (sh := (1, 200)) (z := x) (by omega)).2.1]; exact ob6), (by rw [hS_new, if_pos n6.symm])⟩
  have n7 : hN (hnew h103 (1, 200)) = x + 14 := (by show hN h103 + 1 = _; omega)
  rw [n6]
  generalize hnew h103 (1, 200) = h7 at w7 n7 ⊢
  refine r_astore_n (pc := 111) (lv' := [_, _, _, _]) C dX5_init_111 rfl (by decide) rfl rfl ?_
  refine r_aload_n (pc := 112) C dX5_init_112 rfl rfl ?_
  refine r_aload_n (pc := 113) C dX5_init_113 rfl rfl ?_
  refine r_getIe (pc := 114) C fl_X5_64 w7.1.1.1.1.1.1 rfl w7.2.2.1.1 dX5_init_114 ?_
  refine r_iconst (pc := 117) (v := (nI 1)) C dX5_init_117 (by decide) ?_
  refine n_isub (pc := 118) C (by omega) dX5_init_118 ?_
  refine r_bipush (pc := 119) (v := (nI 16)) C dX5_init_119 (by decide) ?_
  refine n_imul (pc := 121) C dX5_init_121 ?_
  refine r_newq (pc := 122) (k := 4) C (by decide) (by decide) cl_X5_73 rfl (by omega) (Nat.le_of_ble_eq_true rfl) (by show 892 + (nS z - 1) * 16 ≤ 1404; omega) dX5_init_122 ?_
  refine r_putFR (pc := 125) C fl_X5_75 (by rw [hS_new, if_neg (by omega)]; exact w7.1.1.1.1.1.1) rfl rfl rfl rfl rfl rfl fw_X5_75 dX5_init_125 ?_
  refine r_iconst (pc := 128) (v := (nI 0)) C dX5_init_128 (by decide) ?_
  refine r_istore_n (pc := 129) (lv' := [_, _, _, _]) C dX5_init_129 rfl (by decide) rfl rfl ?_
  have o8 := OPx (x := x) (b := x + 14) (k := 4) (sh := (4, (nS z - 1) * 16)) (h2 := hnew h7 (4, (nS z - 1) * 16)) n7 (by omega) Bl.rf
  have w8 : W5 x (nS z) (pR (hnew h7 (4, (nS z - 1) * 16)) x 4 (some (hN h7))) := w7.mv o8.1 o8.2.1 (Sm4.new (h := h7) (sh := (4, (nS z - 1) * 16)) (z := x) (by omega)).2.1 (fun k h4 _ => by rw [o8.2.2.1, up_ne h4])
  have P8 : PB x (nS z) 0 (pR (hnew h7 (4, (nS z - 1) * 16)) x 4 (some (hN h7))) := ⟨w8, (by rw [o8.2.2.1, up_s]), (by show hS (hnew h7 (4, (nS z - 1) * 16)) (x + 14) = _; rw [hS_new, if_pos n7.symm, Nat.mul_comm]), (by show hN h7 + 1 = _; omega), fun d hd => absurd hd (Nat.not_lt_zero _)⟩
  refine WA.widen (c' := 14 + 0) (s' := 940 + 8 * 0) (Nat.le_of_ble_eq_true rfl) (by show 692 + 200 + (nS z - 1) * 16 ≤ 940; omega) ?_
  exact ctor_b C b t160 (16 * (nS z - 1)) 0 _ (by omega) P8
end CC93
