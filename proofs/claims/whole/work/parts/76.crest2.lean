/-! ===== the class: restore ===== -/
section CR76
variable {G : GP} {x m : Nat} {F : FX} {Q : State → Prop}
theorem rest_e (C : CX G F mX5_restore (Rm 4 0 0)) {h0 : AH} {t : TS} {e : ES} {z p0 p1 p2 p3 : Int32} {mr : Nat} (b : 2 ≤ tN t 0 0 ∧ tN t 0 0 ≤ 4)
    (k : ∀ h x7, RX x m (uCs t (fun _ => [])) e h → Fq (Px m) h0 h → WA G F mX5_restore h 0 0 Q 110 [some (.ref x), some (.int z), some (.int p0), some (.int p1), some (.int p2), some (.int p3), some (.ref mr), some (.int x7)] []) :
    ∀ (n c : Nat) (h : AH), c + n = 16 * (tN t 0 0 - 1) → RX x m (uCs t (fun d => if d < c then [] else tC t d)) e h → Fq (Px m) h0 h → WA G F mX5_restore h 0 0 Q 84 [some (.ref x), some (.int z), some (.int p0), some (.int p1), some (.int p2), some (.int p3), some (.ref mr), some (.int (nI c))] [] := by
  intro n
  induction n with
  | zero =>
    intro c h hc E f
    have E1 := E.c_C (fun _ => []) (fun d hd => by show [] = if d < c then [] else tC t d; rw [if_pos (by have hd : d < 16 * (tN t 0 0 - 1) := hd; omega)])
    have eS : tN (uCs t (fun d => if d < c then [] else tC t d)) 0 0 = tN t 0 0 := rfl
    refine r_iload (pc := 84) C dX5_restore_84 rfl ?_
    refine r_aload_n (pc := 86) C dX5_restore_86 rfl rfl ?_
    refine r_getR (pc := 87) C fl_X5_75 E.L.o rfl E.L.r4 dX5_restore_87 ?_
    refine r_alen (pc := 90) C E.L.s4 (by decide) (by decide) dX5_restore_90 ?_
    refine n_icmp_ge (pc := 91) (tgt := 110) C (by omega) (by omega) dX5_restore_91 (by decide) (fun c91 => ?_) (fun c91 => absurd c91 (by omega))
    exact k _ _ E1 f
  | succ n ih =>
    intro c h hc E f
    have eS : tN (uCs t (fun d => if d < c then [] else tC t d)) 0 0 = tN t 0 0 := rfl
    have bl := E.L.b
    have hcl : c < 16 * (tN (uCs t (fun d => if d < c then [] else tC t d)) 0 0 - 1) := by omega
    have K := E.k_ch c hcl
    have kb := E.k_beh
    have ff : Fq (fun z => z = x + 15 + c ∨ z = x + 13) h (pI (pI (pI h (x + 15 + c) 2 (-1)) (x + 15 + c) 3 (-1)) (x + 15 + c) 4 (nI 0)) := ((Fq.rf.pI (Or.inl rfl)).pI (Or.inl rfl)).pI (Or.inl rfl)
    have eb : hI (pI (pI (pI h (x + 15 + c) 2 (-1)) (x + 15 + c) 3 (-1)) (x + 15 + c) 4 (nI 0)) (x + 13) = hI h (x + 13) := by rw [hI_ne (by omega), hI_ne (by omega), hI_ne (by omega)]
    have E1 := E.g_chan (h' := pI (pI (pI h (x + 15 + c) 2 (-1)) (x + 15 + c) 3 (-1)) (x + 15 + c) 4 (nI 0)) hcl (l := []) (bb := tN t 4 c) (by
      rw [hI_eq, hI_eq, hI_eq]
      obtain ⟨k1, k2, k3, k4, k5, k6, k7⟩ := K
      have k5 : hI h (x + 15 + c) 5 = nI (tN t 4 c) - 1 := k5
      have k6 : hI h (x + 15 + c) 6 = nI (tN t 5 c) := k6
      refine ⟨?_, ?_, ?_, ?_, ?_, ?_, ?_⟩
      · rw [up_ne (by decide), up_ne (by decide), up_ne (by decide)]; exact k1
      · rw [up_ne (by decide), up_ne (by decide), up_s, tC_uN, tC_uC, if_pos rfl]; rfl
      · rw [up_ne (by decide), up_s, tC_uN, tC_uC, if_pos rfl]; rfl
      · rw [up_s, tC_uN, tC_uC, if_pos rfl]; rfl
      · rw [up_ne (by decide), up_ne (by decide), up_ne (by decide), tN_uN, if_pos ⟨rfl, rfl⟩]; exact k5
      · rw [up_ne (by decide), up_ne (by decide), up_ne (by decide), tN_uN, if_neg (fun z => absurd z.1 (by decide))]; exact k6
      · rw [up_ne (by decide), up_ne (by decide), up_ne (by decide)]; exact k7) trivial (fun d hd hne => by rw [eb]; exact kb d hd) ff
    have et : uN (uC (uCs t (fun d => if d < c then [] else tC t d)) c []) 4 c (tN t 4 c) = uCs t (fun d => if d < c + 1 then [] else tC t d) := by
      refine TS_ext (fun j => ?_) rfl rfl ?_ rfl
      · funext i
        rw [tN_uN]
        split
        · next hh => rw [hh.1, hh.2]; rfl
        · rfl
      · funext d
        rw [tC_uN, tC_uC, tC_uCs, tC_uCs]
        by_cases hd : d = c
        · rw [if_pos hd, if_pos (by omega)]
        · rw [if_neg hd]
          by_cases hd2 : d < c
          · rw [if_pos hd2, if_pos (by omega)]
          · rw [if_neg hd2, if_neg (by omega)]
    rw [et] at E1
    have f2 : Fq (Px m) h (pI (pI (pI h (x + 15 + c) 2 (-1)) (x + 15 + c) 3 (-1)) (x + 15 + c) 4 (nI 0)) := ff.wd (fun z hz => by unfold Px; omega)
    refine r_iload (pc := 84) C dX5_restore_84 rfl ?_
    refine r_aload_n (pc := 86) C dX5_restore_86 rfl rfl ?_
    refine r_getR (pc := 87) C fl_X5_75 E.L.o rfl E.L.r4 dX5_restore_87 ?_
    refine r_alen (pc := 90) C E.L.s4 (by decide) (by decide) dX5_restore_90 ?_
    refine n_icmp_ge (pc := 91) (tgt := 110) C (by omega) (by omega) dX5_restore_91 (by decide) (fun c91 => absurd c91 (by omega)) (fun c91 => ?_)
    refine r_aload_n (pc := 94) C dX5_restore_94 rfl rfl ?_
    refine r_getR (pc := 95) C fl_X5_75 E.L.o rfl E.L.r4 dX5_restore_95 ?_
    refine r_iload (pc := 98) C dX5_restore_98 rfl ?_
    refine n_aald (pc := 100) C E.L.s4 (by decide) (by omega) (E.L.ch hcl).1 dX5_restore_100 ?_ (by omega)
    refine r_callv (cr_V (pc := 101) C (c_X0_empty (E.L.ch hcl).2.1) dX5_restore_101 cm_X0_empty ml_X5_147 im_X0_empty se_X0_empty (E.L.ch hcl).2.1 rfl ⟨⟨Nat.le_of_ble_eq_true rfl, Nat.le_of_ble_eq_true rfl⟩, Nat.le_of_ble_eq_true rfl, Nat.le_of_ble_eq_true rfl⟩ rfl rfl (Nat.le_of_ble_eq_true rfl)) (fun h101 hq101 => ?_)
    subst hq101
    refine n_iinc (pc := 104) (lv' := [_, _, _, _, _, _, _, _]) C dX5_restore_104 rfl (by decide) rfl rfl ?_
    refine r_goto (pc := 107) (tgt := 84) C dX5_restore_107 (by decide) ?_
    exact ih (c + 1) _ (by omega) E1 (f.tr f2)
theorem rest_n (C : CX G F mX5_restore (Rm 4 0 0)) {h0 : AH} {t : TS} {e : ES} {z p0 p1 p2 p3 : Int32} {mr : Nat} (b : 2 ≤ tN t 0 0 ∧ tN t 0 0 ≤ 4)
    (k : ∀ h x7, RX x m (uNs t 8 (fun _ => 0)) e h → Fq (Px m) h0 h → WA G F mX5_restore h 0 0 Q 140 [some (.ref x), some (.int z), some (.int p0), some (.int p1), some (.int p2), some (.int p3), some (.ref mr), some (.int x7)] []) :
    ∀ (n c : Nat) (h : AH), c + n = 4 * tN t 0 0 → RX x m (uNs t 8 (fun d => if d < c then 0 else tN t 8 d)) e h → Fq (Px m) h0 h → WA G F mX5_restore h 0 0 Q 113 [some (.ref x), some (.int z), some (.int p0), some (.int p1), some (.int p2), some (.int p3), some (.ref mr), some (.int (nI c))] [] := by
  intro n
  induction n with
  | zero =>
    intro c h hc E f
    have eS : tN (uNs t 8 (fun d => if d < c then 0 else tN t 8 d)) 0 0 = tN t 0 0 := by rw [tN_uNs_n (by decide)]
    have E1 := E.c_next (fun _ => 0) (fun d hd => by rw [tN_uNs_s, if_pos (by rw [eS] at hd; omega)])
    rw [uNs_same] at E1
    refine r_iload (pc := 113) C dX5_restore_113 rfl ?_
    refine r_aload_n (pc := 115) C dX5_restore_115 rfl rfl ?_
    refine r_getR (pc := 116) C fl_X5_84 E.L.o rfl E.L.r5 dX5_restore_116 ?_
    refine r_alen (pc := 119) C E.L.s5 (by decide) (by decide) dX5_restore_119 ?_
    refine n_icmp_ge (pc := 120) (tgt := 140) C (by omega) (by omega) dX5_restore_120 (by decide) (fun c120 => ?_) (fun c120 => absurd c120 (by omega))
    exact k _ _ E1 f
  | succ n ih =>
    intro c h hc E f
    have eS : tN (uNs t 8 (fun d => if d < c then 0 else tN t 8 d)) 0 0 = tN t 0 0 := by rw [tN_uNs_n (by decide)]
    have bl := E.L.b
    have hcl : c < 4 * tN (uNs t 8 (fun d => if d < c then 0 else tN t 8 d)) 0 0 := by omega
    have E1 := E.p_next hcl 0
    have et : uN (uNs t 8 (fun d => if d < c then 0 else tN t 8 d)) 8 c 0 = uNs t 8 (fun d => if d < c + 1 then 0 else tN t 8 d) := by
      rw [uN_uNs]
      congr 1
      funext d
      unfold va_up
      by_cases hd : d = c
      · rw [if_pos hd, if_pos (by omega)]
      · rw [if_neg hd]
        show (if d < c then 0 else tN t 8 d) = _
        by_cases hd2 : d < c
        · rw [if_pos hd2, if_pos (by omega)]
        · rw [if_neg hd2, if_neg (by omega)]
    rw [et] at E1
    refine r_iload (pc := 113) C dX5_restore_113 rfl ?_
    refine r_aload_n (pc := 115) C dX5_restore_115 rfl rfl ?_
    refine r_getR (pc := 116) C fl_X5_84 E.L.o rfl E.L.r5 dX5_restore_116 ?_
    refine r_alen (pc := 119) C E.L.s5 (by decide) (by decide) dX5_restore_119 ?_
    refine n_icmp_ge (pc := 120) (tgt := 140) C (by omega) (by omega) dX5_restore_120 (by decide) (fun c120 => absurd c120 (by omega)) (fun c120 => ?_)
    refine r_aload_n (pc := 123) C dX5_restore_123 rfl rfl ?_
    refine r_getR (pc := 124) C fl_X5_84 E.L.o rfl E.L.r5 dX5_restore_124 ?_
    refine r_iload (pc := 127) C dX5_restore_127 rfl ?_
    refine n_aald (pc := 129) C E.L.s5 (by decide) (by omega) (E.L.tk hcl).1 dX5_restore_129 ?_ (by omega)
    refine r_iconst (pc := 130) (v := (nI 0)) C dX5_restore_130 (by decide) ?_
    refine r_putI (pc := 131) C fl_X5_150 (E.L.tk hcl).2 rfl rfl rfl rfl dX5_restore_131 ?_
    refine n_iinc (pc := 134) (lv' := [_, _, _, _, _, _, _, _]) C dX5_restore_134 rfl (by decide) rfl rfl ?_
    refine r_goto (pc := 137) (tgt := 113) C dX5_restore_137 (by decide) ?_
    exact ih (c + 1) _ (by omega) E1 (f.tr (Fq.rf.pI (by unfold Px; omega)))
/-- no mark is under way: what the class knows besides goes on -/
theorem Ext.res {t1 T : TS} {e1 : ES} {p : Nat → Nat} (H : Ext t1 e1) (hu : tN t1 0 5 = 0) (hz : ∀ i, tN t1 4 i = 0 ∧ tN t1 5 i = 0 ∧ tN t1 6 i = 0 ∧ tN t1 7 i = 0) (e0 : tN T 0 = tN t1 0) (e2 : tN T 2 = tN t1 2) (e5 : tN T 5 = tN t1 5) (e6 : tN T 6 = tN t1 6) (e7 : tN T 7 = tN t1 7) (e9 : tN T 9 = tN t1 9) (e10 : tN T 10 = tN t1 10) (e12 : tN T 12 = tN t1 12) (eI : tI T = tI t1) (hp : ∀ k, k < 16 → unrOK T k (p k)) (hpb : ∀ k, p k ≤ 200) : Ext T (vNs e1 0 p) := by
  obtain ⟨a1, a2, a3, a4, a5, a6, a7, a8⟩ := H
  have x0 : xN (vNs e1 0 p) 0 = p := rfl
  have xn : ∀ k, k ≠ 0 → xN (vNs e1 0 p) k = xN e1 k := fun k hk => if_neg hk
  have xi : xI (vNs e1 0 p) = xI e1 := rfl
  refine ⟨by rw [x0]; exact hp, by rw [x0]; exact hpb, fun c hc => ?_, fun s q hs hq => ?_, fun j hj => ?_, fun j hj s hs => ?_, fun s q hs hq => ?_, fun j hj h9 => ?_⟩
  · rw [e0] at hc
    rw [e0, xn 1 (by decide), a3 c hc, if_pos hu, if_pos hu]
  · rw [e0] at hs
    rw [xn 2 (by decide), a4 s q hs hq, cmN_0 (fun i => (hz i).2.1), cmN_0 (fun i => by rw [e5]; exact (hz i).2.1)]
  · rw [e0] at hj
    rw [xn 3 (by decide), lsN_cg e12]; exact a5 j hj
  · rw [e0] at hj hs
    rw [xn 4 (by decide), e10]; exact a6 j hj s hs
  · rw [e0] at hs
    rw [xn 2 (by decide), xi, e6, e7, eI]; exact a7 s q hs hq
  · rw [e0] at hj
    rw [e9] at h9
    rw [xi, eI]; exact a8 j hj h9
theorem pl1N {c : Nat} : ∀ (l : List (Nat × Nat)) (t : TS), tN (spPl1 c l t) = tN t ∧ tI (spPl1 c l t) = tI t ∧ tL (spPl1 c l t) = tL t ∧ tK (spPl1 c l t) = tK t
  | [], t => ⟨rfl, rfl, rfl, rfl⟩
  | p :: l, t => by
    unfold spPl1
    have := pl1N (c := c) l (if p.1 = c then spPut t (ownC t c p.2) p.2 else t)
    split at this
    · next h => rw [if_pos h]; exact this
    · next h => rw [if_neg h]; exact this
theorem plN {l : List (Nat × Nat)} : ∀ (n c : Nat) (t : TS), tN (spPl l n c t) = tN t ∧ tI (spPl l n c t) = tI t ∧ tL (spPl l n c t) = tL t ∧ tK (spPl l n c t) = tK t
  | 0, c, t => ⟨rfl, rfl, rfl, rfl⟩
  | n + 1, c, t => by
    unfold spPl
    have a := plN (l := l) n (c + 1) (spPl1 c l t)
    have b := pl1N (c := c) l t
    exact ⟨a.1.trans b.1, a.2.1.trans b.2.1, a.2.2.1.trans b.2.2.1, a.2.2.2.trans b.2.2.2⟩
theorem pl_out {l : List (Nat × Nat)} {c0 : Nat} (h : ∀ p, p ∈ l → p.1 < c0) : ∀ (n c : Nat) (t : TS), c0 ≤ c → spPl l n c t = t
  | 0, c, t, _ => rfl
  | n + 1, c, t, hc => by
    unfold spPl
    have : ∀ (l' : List (Nat × Nat)) (t : TS), (∀ p, p ∈ l' → p.1 ≠ c) → spPl1 c l' t = t := fun l' => by
      induction l' with
      | nil => intro t _; rfl
      | cons p l' ih =>
        intro t hp
        unfold spPl1
        rw [if_neg (hp p (List.mem_cons_self ..))]
        exact ih t (fun q hq => hp q (List.mem_cons_of_mem _ hq))
    rw [this l t (fun p hp => by have := h p hp; omega)]
    exact pl_out h n (c + 1) t (by omega)
theorem pl_add {l : List (Nat × Nat)} : ∀ (n k c : Nat) (t : TS), spPl l (n + k) c t = spPl l k (c + n) (spPl l n c t)
  | 0, k, c, t => by rw [Nat.zero_add]; rfl
  | n + 1, k, c, t => by
    rw [show n + 1 + k = (n + k) + 1 by omega]
    show spPl l (n + k) (c + 1) (spPl1 c l t) = spPl l k (c + (n + 1)) (spPl l n (c + 1) (spPl1 c l t))
    rw [pl_add n k (c + 1), show c + 1 + n = c + (n + 1) by omega]
theorem c_X5_restore {t : TS} {e : ES} {h : AH} (E : RX x m t e h) (B : TB t) (H : Ext t e) (hz : tN t 0 5 = 0 → ∀ i, tN t 4 i = 0 ∧ tN t 5 i = 0 ∧ tN t 6 i = 0 ∧ tN t 7 i = 0) (hW : ∀ j, j < tN t 0 4 → tN t 9 j = 1 → ((tK t j).map (fun p => p.2)).Nodup ∧ ∀ p, p ∈ tK t j → p.1 < 16 * (tN t 0 0 - 1)) (z p0 p1 p2 p3 : Int32) : MA G mX5_restore 4 0 0 [.ref x, .int z, .int p0, .int p1, .int p2, .int p3] h (Oi (XP x m h (spRestore t z p0 p1 p2 p3))) := by
  have b := B.S
  have bm := B.marks
  have bs := B.stat
  refine MA.intro (lv := [some (.ref x), some (.int z), some (.int p0), some (.int p1), some (.int p2), some (.int p3), none, none]) (by decide) (Nat.le_of_ble_eq_true rfl) rfl (fun F C => ?_)
  by_cases hm : inN z (tN t 0 4)
  · obtain ⟨j, hj, rfl⟩ := hm
    have hm : inN (nI j) (tN t 0 4) := ⟨j, hj, rfl⟩
    have cl : (nI j).toNatClampNeg = j := nI_clamp (by omega)
    have f7 := (E.k_mo j hj).2.2.2.1
    by_cases hg : goodW t p0 p1 p2 p3
    · by_cases h9 : tN t 9 j = 1
      · have gp := goodW_pick b hg
        generalize hw : (fun i => (pick p0 p1 p2 p3 i).toNatClampNeg) = w
        have e0 : spRestore t (nI j) p0 p1 p2 p3 = (nI (tK t j).length, spRes t j w) := by
          unfold spRestore
          rw [cif_t hm, cif_t hg, cl, cif_t h9, hw]
        have hwb : ∀ i, i < tN t 0 0 → pick p0 p1 p2 p3 i = nI (w i) ∧ 1 ≤ w i ∧ w i ≤ 4 := fun i hi => by rw [← hw]; exact gp i hi
        obtain ⟨W1, W2⟩ := hW j hj h9
        have t48 : ∀ h1 e1, RX x m (spEndIf t) e1 h1 → Ext (spEndIf t) e1 → Fq (Px m) h h1 → WA G F mX5_restore h1 0 0 (MQA G F 0 0 (Oi (XP x m h (spRestore t (nI j) p0 p1 p2 p3)))) 48 [some (.ref x), some (.int (nI j)), some (.int p0), some (.int p1), some (.int p2), some (.int p3), some (.ref (m + 24 + 7 * j)), none] [] := by
          intro h1 e1 E H f
          obtain ⟨s1, s2, s3, s4, s5, s6, s7, s8, s9, s10, s11, s12, s13, s14, s15, s16⟩ := Same.endIf (t := t)
          have B1 := B.endIf
          have eK : tK (spEndIf t) = tK t := endIf_k.2.2
          have hu : tN (spEndIf t) 0 5 = 0 := by
            unfold spEndIf
            split
            · assumption
            · rfl
          have hz1 : ∀ i, tN (spEndIf t) 4 i = 0 ∧ tN (spEndIf t) 5 i = 0 ∧ tN (spEndIf t) 6 i = 0 ∧ tN (spEndIf t) 7 i = 0 := by
            unfold spEndIf
            split
            · next hh => exact hz hh
            · exact fun i => ⟨rfl, rfl, rfl, rfl⟩
          rw [show spRes t j w = spPl (tK t j) 48 0 (spRes0 (spEndIf t) j w) from rfl] at e0
          generalize spEndIf t = t1 at E H s1 s2 s3 s4 s5 s6 s7 s8 s9 s10 s11 s12 s13 s14 s15 s16 B1 eK hu hz1 e0
          have bl := E.L.b
          have hj1 : j < tN t1 0 4 := by rw [s10]; exact hj
          have b1 := B1.S
          have bf := B1.fed
          have bk := B1.kmany
          have hkb := B1.key
          have BR : TB (spRes0 t1 j w) := B1.res0 (fun c => (hz1 c).1) (fun i hi => (hwb i (by rw [← s6]; exact hi)).2)
          have eR : spRes0 t1 j w = uNs (uCs (uLs (uNs (spWs t1 w) 3 (fun i => if i < 64 then tN t1 11 (64 * j + i) else tN t1 3 i)) 1 (fun i => if i < 64 then tL t1 2 (64 * j + i) else tL t1 1 i)) (fun _ => [])) 8 (fun _ => 0) := rfl
          have e48 : spPl (tK t j) 48 0 (spRes0 t1 j w) = spPl (tK t j) (16 * (tN t 0 0 - 1)) 0 (spRes0 t1 j w) := by
            have := pl_add (l := tK t j) (16 * (tN t 0 0 - 1)) (48 - 16 * (tN t 0 0 - 1)) 0 (spRes0 t1 j w)
            rw [show 16 * (tN t 0 0 - 1) + (48 - 16 * (tN t 0 0 - 1)) = 48 by omega] at this
            rw [this, pl_out W2 _ _ _ (by omega)]
          rw [e48] at e0
          generalize hp3 : (fun i => if i < 64 then tN t1 11 (64 * j + i) else tN t1 3 i) = q3 at eR
          generalize hq1 : (fun i => if i < 64 then tL t1 2 (64 * j + i) else tL t1 1 i) = q1 at eR
          have hq3 : ∀ i, i < 64 → q3 i = tN t1 11 (64 * j + i) := fun i hi => by rw [← hp3]; exact if_pos hi
          have hq1' : ∀ i, i < 64 → q1 i = tL t1 2 (64 * j + i) := fun i hi => by rw [← hq1]; exact if_pos hi
          have n0 : ∀ k, k ≠ 1 → tN (spWs t1 w) k = tN t1 k := fun k hk => tN_uNs_n hk
          generalize hT3 : uLs (uNs (spWs t1 w) 3 q3) 1 q1 = T3_ at eR
          have m3 : tN T3_ 3 = q3 := by rw [← hT3, tN_uLs, tN_uNs_s]
          have mn : ∀ k, k ≠ 1 → k ≠ 3 → tN T3_ k = tN t1 k := fun k hk hk3 => by rw [← hT3, tN_uLs, tN_uNs_n hk3, n0 k hk]
          have mS : tN T3_ 0 0 = tN t1 0 0 := by rw [mn 0 (by decide) (by decide)]
          have rn : ∀ k, k ≠ 1 → k ≠ 3 → k ≠ 8 → tN (spRes0 t1 j w) k = tN t1 k := fun k h1 h3 h8 => by rw [eR, tN_uNs_n h8, tN_uCs, mn k h1 h3]
          have fin : ∀ h5 x7, RX x m (spRes0 t1 j w) (vNs e1 0 (fun k => oN (rwd T3_ k (tN T3_ 3 k)))) h5 → Fq (Px m) h h5 → WA G F mX5_restore h5 0 0 (MQA G F 0 0 (Oi (XP x m h (spRestore t (nI j) p0 p1 p2 p3)))) 140 [some (.ref x), some (.int (nI j)), some (.int p0), some (.int p1), some (.int p2), some (.int p3), some (.ref (m + 24 + 7 * j)), some (.int x7)] [] := by
            intro h5 x7 E5 f5
            have jR : j < tN (spRes0 t1 j w) 0 4 := by rw [rn 0 (by decide) (by decide) (by decide)]; exact hj1
            have kR : tK (spRes0 t1 j w) j = tK t j := by rw [show tK (spRes0 t1 j w) = tK t1 from rfl, eK]
            have sR : tN (spRes0 t1 j w) 0 0 = tN t 0 0 := by rw [rn 0 (by decide) (by decide) (by decide), s6]
            have P := c_X5_placeKept (G := G) E5 BR jR (fun c => rfl) (fun c => by rw [rn 4 (by decide) (by decide) (by decide)]; exact (hz1 c).1) (by rw [kR]; exact W1) (by rw [kR, sR]; exact W2)
            rw [kR, sR] at P
            obtain ⟨r1, r2, r3, r4⟩ := plN (l := tK t j) (16 * (tN t 0 0 - 1)) 0 (spRes0 t1 j w)
            have HF : Ext (spPl (tK t j) (16 * (tN t 0 0 - 1)) 0 (spRes0 t1 j w)) (vNs e1 0 (fun k => oN (rwd T3_ k (tN T3_ 3 k)))) := by
              refine H.res hu hz1 (by rw [r1]; exact rn 0 (by decide) (by decide) (by decide)) (by rw [r1]; exact rn 2 (by decide) (by decide) (by decide)) (by rw [r1]; exact rn 5 (by decide) (by decide) (by decide)) (by rw [r1]; exact rn 6 (by decide) (by decide) (by decide)) (by rw [r1]; exact rn 7 (by decide) (by decide) (by decide)) (by rw [r1]; exact rn 9 (by decide) (by decide) (by decide)) (by rw [r1]; exact rn 10 (by decide) (by decide) (by decide)) (by rw [r1]; exact rn 12 (by decide) (by decide) (by decide)) (by rw [r2]; rfl) (fun k hk => ?_) (fun k => rwd_unr.2 (by rw [mn 0 (by decide) (by decide)]; exact bf))
              have := (rwd_unr (t := T3_) (k := k)).1
              have e3 : tN (spRes0 t1 j w) 3 = tN T3_ 3 := by rw [eR, tN_uNs_n (by decide), tN_uCs]
              have e0' : tN (spRes0 t1 j w) 0 = tN T3_ 0 := by rw [eR, tN_uNs_n (by decide), tN_uCs]
              have e2' : tN (spRes0 t1 j w) 2 = tN T3_ 2 := by rw [eR, tN_uNs_n (by decide), tN_uCs]
              unfold unrOK at this ⊢
              rw [r1, e3, e0', e2']
              simp only [cnt_cg (t := T3_) (t' := spPl (tK t j) (16 * (tN t 0 0 - 1)) 0 (spRes0 t1 j w)) (by rw [r1]; exact e2')]
              exact this
            refine r_aload_n (pc := 140) C dX5_restore_140 rfl rfl ?_
            refine r_aload (pc := 141) C dX5_restore_141 rfl ?_
            refine r_calli (cr_V (pc := 143) C (P) dX5_restore_143 cm_X5_placeKept ml_X5_153 im_X5_placeKept se_X5_placeKept E5.L.o rfl ⟨⟨Nat.le_of_ble_eq_true rfl, Nat.le_of_ble_eq_true rfl⟩, Nat.le_of_ble_eq_true rfl, Nat.le_of_ble_eq_true rfl⟩ rfl rfl (Nat.le_of_ble_eq_true rfl)) (fun v143 h143 hq143 => ?_)
            obtain ⟨rfl, E6, f6⟩ := hq143
            exact r_iret (pc := 146) C rfl (Nat.le_of_ble_eq_true rfl) (Nat.le_of_ble_eq_true rfl) ⟨_, rfl, (xp e0 E6 HF (f5.tr f6))⟩ dX5_restore_146
          have t110 : ∀ h5 x7, RX x m (uCs T3_ (fun _ => [])) (vNs e1 0 (fun k => oN (rwd T3_ k (tN T3_ 3 k)))) h5 → Fq (Px m) h h5 → WA G F mX5_restore h5 0 0 (MQA G F 0 0 (Oi (XP x m h (spRestore t (nI j) p0 p1 p2 p3)))) 110 [some (.ref x), some (.int (nI j)), some (.int p0), some (.int p1), some (.int p2), some (.int p3), some (.ref (m + 24 + 7 * j)), some (.int x7)] [] := by
            intro h5 x7 E5 f5
            have E5' : RX x m (uNs (uCs T3_ (fun _ => [])) 8 (fun d => if d < 0 then 0 else tN (uCs T3_ (fun _ => [])) 8 d)) (vNs e1 0 (fun k => oN (rwd T3_ k (tN T3_ 3 k)))) h5 := by
              rw [show (fun d => if d < 0 then 0 else tN (uCs T3_ (fun _ => [])) 8 d) = tN (uCs T3_ (fun _ => [])) 8 from funext (fun d => if_neg (Nat.not_lt_zero d)), uNs_id]
              exact E5
            refine r_iconst (pc := 110) (v := (nI 0)) C dX5_restore_110 (by decide) ?_
            refine r_istore (pc := 111) (lv' := [_, _, _, _, _, _, _, _]) C dX5_restore_111 (by decide) rfl rfl ?_
            exact rest_n C (t := uCs T3_ (fun _ => [])) (by rw [tN_uCs, mS]; exact b1) (fun h6 y7 E6 f6 => fin h6 y7 (by rw [eR]; exact E6) f6) (4 * tN T3_ 0 0) 0 h5 (by rw [tN_uCs]; omega) E5' f5
          refine r_aload_n (pc := 48) C dX5_restore_48 rfl rfl ?_
          refine r_iload_n (pc := 49) C dX5_restore_49 rfl rfl ?_
          refine r_iload_n (pc := 50) C dX5_restore_50 rfl rfl ?_
          refine r_iload (pc := 51) C dX5_restore_51 rfl ?_
          refine r_iload (pc := 53) C dX5_restore_53 rfl ?_
          refine r_callv (cr_V (pc := 55) C (c_X5_setWidths E B1 w (fun i hi => (hwb i (by rw [← s6]; exact hi)).1)) dX5_restore_55 cm_X5_setWidths ml_X5_135 im_X5_setWidths se_X5_setWidths E.L.o rfl ⟨⟨Nat.le_of_ble_eq_true rfl, Nat.le_of_ble_eq_true rfl⟩, Nat.le_of_ble_eq_true rfl, Nat.le_of_ble_eq_true rfl⟩ rfl rfl (Nat.le_of_ble_eq_true rfl)) (fun h55 hq55 => ?_)
          obtain ⟨E, f2⟩ := hq55
          have hj2 : j < tN (spWs t1 w) 0 4 := by rw [n0 0 (by decide)]; exact hj1
          have km := E.k_mt j hj2
          have ks := E.k_ms j hj2
          refine r_aload_n (pc := 58) C dX5_restore_58 rfl rfl ?_
          refine r_getR (pc := 59) C fl_X5_23 E.L.o rfl E.L.r3 dX5_restore_59 ?_
          refine r_aload (pc := 62) C dX5_restore_62 rfl ?_
          refine r_getR (pc := 64) C fl_X5_139 (E.L.M hj2).1 rfl (E.L.M hj2).2.2.2.1 dX5_restore_64 ?_
          refine r_callv (cr_V (pc := 67) C (c_X3_copyAll E.L.T (E.L.M hj2).2.2.2.2.1 (Or.inl (by omega))) dX5_restore_67 cm_X3_copyAll ml_X5_140 im_X3_copyAll se_X3_copyAll E.L.T.1 rfl ⟨⟨Nat.le_of_ble_eq_true rfl, Nat.le_of_ble_eq_true rfl⟩, Nat.le_of_ble_eq_true rfl, Nat.le_of_ble_eq_true rfl⟩ rfl rfl (Nat.le_of_ble_eq_true rfl)) (fun h67 hq67 => ?_)
          obtain ⟨f3, g3, g4⟩ := hq67
          have E3 := E.g_tally (p := q3) (q := q1) (fun i hi => by rw [hq3 i hi, ← n0 11 (by decide)]; exact (g3 i hi).trans (km i hi)) (fun i hi => by rw [hq1' i hi]; exact (g4 i hi).trans (ks i hi)) f3
          rw [hT3] at E3
          have f3 : Fq (Px m) h55 h67 := f3.wd (fun z hz => by unfold Px; omega)
          refine r_aload_n (pc := 70) C dX5_restore_70 rfl rfl ?_
          refine r_getR (pc := 71) C fl_X5_16 E3.L.o rfl E3.L.r2 dX5_restore_71 ?_
          refine r_aload_n (pc := 74) C dX5_restore_74 rfl rfl ?_
          refine r_getR (pc := 75) C fl_X5_23 E3.L.o rfl E3.L.r3 dX5_restore_75 ?_
          refine r_callv (cr_V (pc := 78) C (c_X1_rewind (t := T3_) (M := fun k => tN T3_ 3 k) E3.L.I E3.K1 (by rw [mn 0 (by decide) (by decide)]; exact bf) (by rw [mn 2 (by decide) (by decide)]; exact hkb) E3.L.T (Or.inr (by omega)) (fun k hk => ⟨E3.k_many k (by omega), by rw [m3, hq3 k (by omega)]; exact bk _⟩)) dX5_restore_78 cm_X1_rewind ml_X5_144 im_X1_rewind se_X1_rewind E3.L.I.1 rfl ⟨⟨Nat.le_of_ble_eq_true rfl, Nat.le_of_ble_eq_true rfl⟩, Nat.le_of_ble_eq_true rfl, Nat.le_of_ble_eq_true rfl⟩ rfl rfl (Nat.le_of_ble_eq_true rfl)) (fun h78 hq78 => ?_)
          obtain ⟨f4, g5⟩ := hq78
          have E4 := E3.g_unr (p := fun k => oN (rwd T3_ k (tN T3_ 3 k))) (fun k hk => by rw [← oI_oN]; exact g5 k hk) f4
          have f4 : Fq (Px m) h67 h78 := f4.wd (fun z hz => by unfold Px; omega)
          refine r_iconst (pc := 81) (v := (nI 0)) C dX5_restore_81 (by decide) ?_
          refine r_istore (pc := 82) (lv' := [_, _, _, _, _, _, _, _]) C dX5_restore_82 (by decide) rfl rfl ?_
          have E4' : RX x m (uCs T3_ (fun d => if d < 0 then [] else tC T3_ d)) (vNs e1 0 (fun k => oN (rwd T3_ k (tN T3_ 3 k)))) h78 := (by rw [show (fun d => if d < 0 then [] else tC T3_ d) = tC T3_ from funext (fun d => if_neg (Nat.not_lt_zero d))]; exact E4)
          exact rest_e C (t := T3_) (by rw [mS]; exact b1) t110 (16 * (tN T3_ 0 0 - 1)) 0 h78 (by omega) E4' (((f.tr f2).tr f3).tr f4)
        by_cases hu : tN t 0 5 = 0
        · have ei : spEndIf t = t := if_pos hu
          rw [ei] at t48
          refine r_aload_n (pc := 0) C dX5_restore_0 rfl rfl ?_
          refine r_iload_n (pc := 1) C dX5_restore_1 rfl rfl ?_
          refine r_callq (cr_V (pc := 2) C (c_X5_markAt E B _) dX5_restore_2 cm_X5_markAt ml_X5_124 im_X5_markAt se_X5_markAt E.L.o rfl ⟨⟨Nat.le_of_ble_eq_true rfl, Nat.le_of_ble_eq_true rfl⟩, Nat.le_of_ble_eq_true rfl, Nat.le_of_ble_eq_true rfl⟩ rfl rfl (Nat.le_of_ble_eq_true rfl)) (fun v2 h2 hq2 => ?_)
          obtain ⟨rfl, rfl⟩ := hq2
          rw [mkA_n B hj]
          refine r_astore (pc := 5) (lv' := [_, _, _, _, _, _, _, _]) C dX5_restore_5 (by decide) rfl rfl ?_
          refine r_aload (pc := 7) C dX5_restore_7 rfl ?_
          refine r_ifnonnull (pc := 9) (tgt := 15) C dX5_restore_9 (by decide) ?_
          refine r_aload_n (pc := 15) C dX5_restore_15 rfl rfl ?_
          refine r_iload_n (pc := 16) C dX5_restore_16 rfl rfl ?_
          refine r_iload_n (pc := 17) C dX5_restore_17 rfl rfl ?_
          refine r_iload (pc := 18) C dX5_restore_18 rfl ?_
          refine r_iload (pc := 20) C dX5_restore_20 rfl ?_
          refine r_calli (cr_V (pc := 22) C (c_X5_areWidths E B _ _ _ _) dX5_restore_22 cm_X5_areWidths ml_X5_128 im_X5_areWidths se_X5_areWidths E.L.o rfl ⟨⟨Nat.le_of_ble_eq_true rfl, Nat.le_of_ble_eq_true rfl⟩, Nat.le_of_ble_eq_true rfl, Nat.le_of_ble_eq_true rfl⟩ rfl rfl (Nat.le_of_ble_eq_true rfl)) (fun v22 h22 hq22 => ?_)
          obtain ⟨rfl, rfl⟩ := hq22
          refine b_if_ne (pc := 25) (tgt := 31) C dX5_restore_25 (by decide) (fun c25 => ?_) (fun c25 => absurd c25 (fun z => z hg))
          refine r_aload (pc := 31) C dX5_restore_31 rfl ?_
          refine r_getIe (pc := 33) C fl_X5_132 (E.L.M hj).1 rfl f7 dX5_restore_33 ?_
          refine r_iconst (pc := 36) (v := (nI 1)) C dX5_restore_36 (by decide) ?_
          refine n_icmp_eq (pc := 37) (tgt := 43) C (by omega) (by omega) dX5_restore_37 (by decide) (fun c37 => ?_) (fun c37 => absurd c37 (fun z => z h9))
          refine r_aload_n (pc := 43) C dX5_restore_43 rfl rfl ?_
          refine r_iconst (pc := 44) (v := (nI 2)) C dX5_restore_44 (by decide) ?_
          refine r_callv (cr_V (pc := 45) C (c_X5_endMarkN E B hu _) dX5_restore_45 cm_X5_endMark ml_X5_120 im_X5_endMark se_X5_endMark E.L.o rfl ⟨⟨Nat.le_of_ble_eq_true rfl, Nat.le_of_ble_eq_true rfl⟩, Nat.le_of_ble_eq_true rfl, Nat.le_of_ble_eq_true rfl⟩ rfl rfl (Nat.le_of_ble_eq_true rfl)) (fun h45 hq45 => ?_)
          subst hq45
          exact t48 _ _ E H Fq.rf
        · have ei : spEndIf t = spEnd t 2 := if_neg hu
          have hj' : tN t 0 5 = (tN t 0 5 - 1) + 1 := by omega
          rw [ei] at t48
          refine r_aload_n (pc := 0) C dX5_restore_0 rfl rfl ?_
          refine r_iload_n (pc := 1) C dX5_restore_1 rfl rfl ?_
          refine r_callq (cr_V (pc := 2) C (c_X5_markAt E B _) dX5_restore_2 cm_X5_markAt ml_X5_124 im_X5_markAt se_X5_markAt E.L.o rfl ⟨⟨Nat.le_of_ble_eq_true rfl, Nat.le_of_ble_eq_true rfl⟩, Nat.le_of_ble_eq_true rfl, Nat.le_of_ble_eq_true rfl⟩ rfl rfl (Nat.le_of_ble_eq_true rfl)) (fun v2 h2 hq2 => ?_)
          obtain ⟨rfl, rfl⟩ := hq2
          rw [mkA_n B hj]
          refine r_astore (pc := 5) (lv' := [_, _, _, _, _, _, _, _]) C dX5_restore_5 (by decide) rfl rfl ?_
          refine r_aload (pc := 7) C dX5_restore_7 rfl ?_
          refine r_ifnonnull (pc := 9) (tgt := 15) C dX5_restore_9 (by decide) ?_
          refine r_aload_n (pc := 15) C dX5_restore_15 rfl rfl ?_
          refine r_iload_n (pc := 16) C dX5_restore_16 rfl rfl ?_
          refine r_iload_n (pc := 17) C dX5_restore_17 rfl rfl ?_
          refine r_iload (pc := 18) C dX5_restore_18 rfl ?_
          refine r_iload (pc := 20) C dX5_restore_20 rfl ?_
          refine r_calli (cr_V (pc := 22) C (c_X5_areWidths E B _ _ _ _) dX5_restore_22 cm_X5_areWidths ml_X5_128 im_X5_areWidths se_X5_areWidths E.L.o rfl ⟨⟨Nat.le_of_ble_eq_true rfl, Nat.le_of_ble_eq_true rfl⟩, Nat.le_of_ble_eq_true rfl, Nat.le_of_ble_eq_true rfl⟩ rfl rfl (Nat.le_of_ble_eq_true rfl)) (fun v22 h22 hq22 => ?_)
          obtain ⟨rfl, rfl⟩ := hq22
          refine b_if_ne (pc := 25) (tgt := 31) C dX5_restore_25 (by decide) (fun c25 => ?_) (fun c25 => absurd c25 (fun z => z hg))
          refine r_aload (pc := 31) C dX5_restore_31 rfl ?_
          refine r_getIe (pc := 33) C fl_X5_132 (E.L.M hj).1 rfl f7 dX5_restore_33 ?_
          refine r_iconst (pc := 36) (v := (nI 1)) C dX5_restore_36 (by decide) ?_
          refine n_icmp_eq (pc := 37) (tgt := 43) C (by omega) (by omega) dX5_restore_37 (by decide) (fun c37 => ?_) (fun c37 => absurd c37 (fun z => z h9))
          refine r_aload_n (pc := 43) C dX5_restore_43 rfl rfl ?_
          refine r_iconst (pc := 44) (v := (nI 2)) C dX5_restore_44 (by decide) ?_
          refine r_callv (cr_V (pc := 45) C (c_X5_endMark E B hj' (how := 2) (by decide)) dX5_restore_45 cm_X5_endMark ml_X5_120 im_X5_endMark se_X5_endMark E.L.o rfl ⟨⟨Nat.le_of_ble_eq_true rfl, Nat.le_of_ble_eq_true rfl⟩, Nat.le_of_ble_eq_true rfl, Nat.le_of_ble_eq_true rfl⟩ rfl rfl (Nat.le_of_ble_eq_true rfl)) (fun h45 hq45 => ?_)
          obtain ⟨E2, f2⟩ := hq45
          exact t48 _ _ E2 (H.A.end hj') f2
      · have e0 : spRestore t (nI j) p0 p1 p2 p3 = (-103, t) := by
          unfold spRestore
          rw [cif_t hm, cif_t hg, cl, cif_f h9]
        have bsj := bs j
        refine r_aload_n (pc := 0) C dX5_restore_0 rfl rfl ?_
        refine r_iload_n (pc := 1) C dX5_restore_1 rfl rfl ?_
        refine r_callq (cr_V (pc := 2) C (c_X5_markAt E B _) dX5_restore_2 cm_X5_markAt ml_X5_124 im_X5_markAt se_X5_markAt E.L.o rfl ⟨⟨Nat.le_of_ble_eq_true rfl, Nat.le_of_ble_eq_true rfl⟩, Nat.le_of_ble_eq_true rfl, Nat.le_of_ble_eq_true rfl⟩ rfl rfl (Nat.le_of_ble_eq_true rfl)) (fun v2 h2 hq2 => ?_)
        obtain ⟨rfl, rfl⟩ := hq2
        rw [mkA_n B hj]
        refine r_astore (pc := 5) (lv' := [_, _, _, _, _, _, _, _]) C dX5_restore_5 (by decide) rfl rfl ?_
        refine r_aload (pc := 7) C dX5_restore_7 rfl ?_
        refine r_ifnonnull (pc := 9) (tgt := 15) C dX5_restore_9 (by decide) ?_
        refine r_aload_n (pc := 15) C dX5_restore_15 rfl rfl ?_
        refine r_iload_n (pc := 16) C dX5_restore_16 rfl rfl ?_
        refine r_iload_n (pc := 17) C dX5_restore_17 rfl rfl ?_
        refine r_iload (pc := 18) C dX5_restore_18 rfl ?_
        refine r_iload (pc := 20) C dX5_restore_20 rfl ?_
        refine r_calli (cr_V (pc := 22) C (c_X5_areWidths E B _ _ _ _) dX5_restore_22 cm_X5_areWidths ml_X5_128 im_X5_areWidths se_X5_areWidths E.L.o rfl ⟨⟨Nat.le_of_ble_eq_true rfl, Nat.le_of_ble_eq_true rfl⟩, Nat.le_of_ble_eq_true rfl, Nat.le_of_ble_eq_true rfl⟩ rfl rfl (Nat.le_of_ble_eq_true rfl)) (fun v22 h22 hq22 => ?_)
        obtain ⟨rfl, rfl⟩ := hq22
        refine b_if_ne (pc := 25) (tgt := 31) C dX5_restore_25 (by decide) (fun c25 => ?_) (fun c25 => absurd c25 (fun z => z hg))
        refine r_aload (pc := 31) C dX5_restore_31 rfl ?_
        refine r_getIe (pc := 33) C fl_X5_132 (E.L.M hj).1 rfl f7 dX5_restore_33 ?_
        refine r_iconst (pc := 36) (v := (nI 1)) C dX5_restore_36 (by decide) ?_
        refine n_icmp_eq (pc := 37) (tgt := 43) C (by omega) (by omega) dX5_restore_37 (by decide) (fun c37 => absurd c37 (fun z => h9 z)) (fun c37 => ?_)
        refine r_bipush (pc := 40) (v := (-103)) C dX5_restore_40 (by decide) ?_
        exact r_iret (pc := 42) C rfl (Nat.le_of_ble_eq_true rfl) (Nat.le_of_ble_eq_true rfl) ⟨_, rfl, (xp e0 E H Fq.rf)⟩ dX5_restore_42
    · have e0 : spRestore t (nI j) p0 p1 p2 p3 = (-102, t) := by
        unfold spRestore
        rw [cif_t hm, cif_f hg]
      refine r_aload_n (pc := 0) C dX5_restore_0 rfl rfl ?_
      refine r_iload_n (pc := 1) C dX5_restore_1 rfl rfl ?_
      refine r_callq (cr_V (pc := 2) C (c_X5_markAt E B _) dX5_restore_2 cm_X5_markAt ml_X5_124 im_X5_markAt se_X5_markAt E.L.o rfl ⟨⟨Nat.le_of_ble_eq_true rfl, Nat.le_of_ble_eq_true rfl⟩, Nat.le_of_ble_eq_true rfl, Nat.le_of_ble_eq_true rfl⟩ rfl rfl (Nat.le_of_ble_eq_true rfl)) (fun v2 h2 hq2 => ?_)
      obtain ⟨rfl, rfl⟩ := hq2
      rw [mkA_n B hj]
      refine r_astore (pc := 5) (lv' := [_, _, _, _, _, _, _, _]) C dX5_restore_5 (by decide) rfl rfl ?_
      refine r_aload (pc := 7) C dX5_restore_7 rfl ?_
      refine r_ifnonnull (pc := 9) (tgt := 15) C dX5_restore_9 (by decide) ?_
      refine r_aload_n (pc := 15) C dX5_restore_15 rfl rfl ?_
      refine r_iload_n (pc := 16) C dX5_restore_16 rfl rfl ?_
      refine r_iload_n (pc := 17) C dX5_restore_17 rfl rfl ?_
      refine r_iload (pc := 18) C dX5_restore_18 rfl ?_
      refine r_iload (pc := 20) C dX5_restore_20 rfl ?_
      refine r_calli (cr_V (pc := 22) C (c_X5_areWidths E B _ _ _ _) dX5_restore_22 cm_X5_areWidths ml_X5_128 im_X5_areWidths se_X5_areWidths E.L.o rfl ⟨⟨Nat.le_of_ble_eq_true rfl, Nat.le_of_ble_eq_true rfl⟩, Nat.le_of_ble_eq_true rfl, Nat.le_of_ble_eq_true rfl⟩ rfl rfl (Nat.le_of_ble_eq_true rfl)) (fun v22 h22 hq22 => ?_)
      obtain ⟨rfl, rfl⟩ := hq22
      refine b_if_ne (pc := 25) (tgt := 31) C dX5_restore_25 (by decide) (fun c25 => absurd c25 (fun z => hg z)) (fun c25 => ?_)
      refine r_bipush (pc := 28) (v := (-102)) C dX5_restore_28 (by decide) ?_
      exact r_iret (pc := 30) C rfl (Nat.le_of_ble_eq_true rfl) (Nat.le_of_ble_eq_true rfl) ⟨_, rfl, (xp e0 E H Fq.rf)⟩ dX5_restore_30
  · have e0 : spRestore t z p0 p1 p2 p3 = (-101, t) := by
      unfold spRestore
      rw [cif_f hm]
    have e1 : mkA t m z = none := cif_f hm
    refine r_aload_n (pc := 0) C dX5_restore_0 rfl rfl ?_
    refine r_iload_n (pc := 1) C dX5_restore_1 rfl rfl ?_
    refine r_callq (cr_V (pc := 2) C (c_X5_markAt E B _) dX5_restore_2 cm_X5_markAt ml_X5_124 im_X5_markAt se_X5_markAt E.L.o rfl ⟨⟨Nat.le_of_ble_eq_true rfl, Nat.le_of_ble_eq_true rfl⟩, Nat.le_of_ble_eq_true rfl, Nat.le_of_ble_eq_true rfl⟩ rfl rfl (Nat.le_of_ble_eq_true rfl)) (fun v2 h2 hq2 => ?_)
    obtain ⟨rfl, rfl⟩ := hq2
    rw [e1]
    refine r_astoreN (pc := 5) (lv' := [_, _, _, _, _, _, _, _]) C dX5_restore_5 (by decide) rfl rfl ?_
    refine r_aloadN (pc := 7) C dX5_restore_7 rfl ?_
    refine r_ifnonnullN (pc := 9) C dX5_restore_9 ?_
    refine r_bipush (pc := 12) (v := (-101)) C dX5_restore_12 (by decide) ?_
    exact r_iret (pc := 14) C rfl (Nat.le_of_ble_eq_true rfl) (Nat.le_of_ble_eq_true rfl) ⟨_, rfl, (xp e0 E H Fq.rf)⟩ dX5_restore_14
end CR76
