/-! ===== the law: its loop, its start ===== -/
theorem sw23 (x : Int32) : x = nI 0 ∨ x = nI 1 ∨ x = nI 2 ∨ x = nI 3 ∨ x = nI 4 ∨ x = nI 5 ∨ x = nI 6 ∨ x = nI 7 ∨ x = nI 8 ∨ x = nI 9 ∨ x = nI 10 ∨ x = nI 11 ∨ x = nI 12 ∨ x = nI 13 ∨ x = nI 14 ∨ x = nI 15 ∨ x = nI 16 ∨ x = nI 17 ∨ x = nI 18 ∨ x = nI 19 ∨ x = nI 20 ∨ x = nI 21 ∨ x = nI 22 ∨ x = nI 23 ∨ (x.toInt < 0 ∨ 23 < x.toInt) := by
  by_cases h : x.toInt < 0 ∨ 23 < x.toInt
  · simp [h]
  · have h3 : ¬ x < 0 := fun z => h (Or.inl (by have := Int32.lt_iff_toInt_lt.mp z; simpa using this))
    obtain ⟨j, hj, rfl⟩ := nI_of h3
    rw [nI_toInt hj] at h
    rcases (show j = 0 ∨ j = 1 ∨ j = 2 ∨ j = 3 ∨ j = 4 ∨ j = 5 ∨ j = 6 ∨ j = 7 ∨ j = 8 ∨ j = 9 ∨ j = 10 ∨ j = 11 ∨ j = 12 ∨ j = 13 ∨ j = 14 ∨ j = 15 ∨ j = 16 ∨ j = 17 ∨ j = 18 ∨ j = 19 ∨ j = 20 ∨ j = 21 ∨ j = 22 ∨ j = 23 by omega) with rfl | rfl | rfl | rfl | rfl | rfl | rfl | rfl | rfl | rfl | rfl | rfl | rfl | rfl | rfl | rfl | rfl | rfl | rfl | rfl | rfl | rfl | rfl | rfl <;> simp
section LL98
variable {nm : String} {G : GP} {F : FX} {Q : State → Prop} {b L x m : Nat} {xs : Nat → Int32}
theorem LI.next {n : Nat} {h : AH} (I : LI x m n h) : LI x m (n + 1) h := by
  obtain ⟨t, e, u, a1, a2, a3, a4, a5, a6, a7⟩ := I
  exact ⟨t, e, u, a1, a2, a3, a4, a5, by omega, a7⟩
theorem law_l (C : CX G F (mL_law nm) room_1) (hX : va_X b L xs (fs F) (gH G)) (hbl : b < gb G) (hL : L ≤ 385) (hcl : (Cond.constantLong (mL_law nm).1.cls 39 4294967295).before (fa F) (fs F) = true)
    (k : ∀ h cells slots x3, cells ≤ 600000 → slots ≤ 7302250 → WA G F (mL_law nm) h cells slots Q 1074 (lvL b x m x3) []) :
    ∀ (d n : Nat) (h : AH), n + d = 100 → (n = 0 ∨ 1 + 6 * n ≤ L) → LI x m n h → WA G F (mL_law nm) h (110 + 7 * n) (17000 + 543 * n) Q 28 (lvL b x m (nI (1 + 6 * n))) [] := by
  intro d
  induction d with
  | zero =>
    intro n h hn hnL I
    omega
  | succ d ih =>
    intro n h hn hnL I
    have t1068 : ∀ h' cells slots, cells ≤ 110 + 7 * (n + 1) → slots ≤ 17000 + 543 * (n + 1) → 1 + 6 * n + 6 ≤ L → LI x m (n + 1) h' → WA G F (mL_law nm) h' cells slots Q 1068 (lvL b x m (nI (1 + 6 * n))) [] := by
      intro h' cells slots h1 h2 h3 I'
      refine WA.widen h1 h2 ?_
      have hv : nI (1 + 6 * n) + Int32.ofInt 6 = nI (1 + 6 * (n + 1)) := by
        rw [show Int32.ofInt 6 = nI 6 from rfl, nI_add]
        rfl
      refine r_iinc (pc := 1068) (lv' := [_, _, _, _]) C dL_law_1068 rfl hv (show 3 < 4 by decide) rfl rfl ?_
      refine r_goto (pc := 1071) (tgt := 28) C dL_law_1071 (by decide) ?_
      exact ih (n + 1) h' (by omega) (by omega) I'
    have kk : ∀ h', LI x m (n + 1) h' → 1 + 6 * n + 6 ≤ L → WA G F (mL_law nm) h' (110 + 7 * n + 7) (17000 + 543 * n + 543) Q 1068 (lvL b x m (nI (1 + 6 * n))) [] := fun h' I' h3 => t1068 h' _ _ (by omega) (by omega) h3 I'
    by_cases hx : 1 + 6 * n + 6 ≤ L
    · generalize hv : xs (1 + 6 * n) &&& nI 31 = v
      refine r_iload_n (pc := 28) C dL_law_28 rfl rfl ?_
      refine r_aload_n (pc := 29) C dL_law_29 rfl rfl ?_
      refine r_slen (pc := 30) C hX hbl dL_law_30 ?_
      refine r_bipush (pc := 31) (v := (nI 6)) C dL_law_31 (by decide) ?_
      refine n_isub (pc := 33) C (by omega) dL_law_33 ?_
      refine n_icmp_gt (pc := 34) (tgt := 1074) C (by omega) (by omega) dL_law_34 (by decide) (fun c34 => absurd c34 (by omega)) (fun c34 => ?_)
      refine r_aload_n (pc := 37) C dL_law_37 rfl rfl ?_
      refine r_iload_n (pc := 38) C dL_law_38 rfl rfl ?_
      refine n_sld (pc := 39) C hX hbl (by omega) (by omega) dL_law_39 ?_
      refine r_bipush (pc := 40) (v := (nI 31)) C dL_law_40 (by decide) ?_
      refine r_iand (pc := 42) C dL_law_42 ?_
      rw [hv]
      rcases sw23 v with rfl | rfl | rfl | rfl | rfl | rfl | rfl | rfl | rfl | rfl | rfl | rfl | rfl | rfl | rfl | rfl | rfl | rfl | rfl | rfl | rfl | rfl | rfl | rfl | hsw43
      · refine r_tableIn (pc := 43) (tgt := 152) (off := 109) C dL_law_43 (by decide) (by decide) (by decide) (by decide) ?_
        exact lc_wide C hX hbl hL hx (by omega) I (by omega) (by omega) (fun h' I' => kk h' I' hx)
      · refine r_tableIn (pc := 43) (tgt := 185) (off := 142) C dL_law_43 (by decide) (by decide) (by decide) (by decide) ?_
        exact lc_capacity C hX hbl hL hx (by omega) I (by omega) (by omega) (fun h' I' => kk h' I' hx)
      · refine r_tableIn (pc := 43) (tgt := 208) (off := 165) C dL_law_43 (by decide) (by decide) (by decide) (by decide) ?_
        exact lc_bound C hX hbl hL hx (by omega) I (by omega) (by omega) (fun h' I' => kk h' I' hx)
      · refine r_tableIn (pc := 43) (tgt := 231) (off := 188) C dL_law_43 (by decide) (by decide) (by decide) (by decide) ?_
        exact lc_limit C hX hbl hL hx (by omega) I (by omega) (by omega) (fun h' I' => kk h' I' hx)
      · refine r_tableIn (pc := 43) (tgt := 254) (off := 211) C dL_law_43 (by decide) (by decide) (by decide) (by decide) ?_
        exact lc_feed C hX hbl hL hx (by omega) I (by omega) (by omega) hcl (fun h' I' => kk h' I' hx)
      · refine r_tableIn (pc := 43) (tgt := 317) (off := 274) C dL_law_43 (by decide) (by decide) (by decide) (by decide) ?_
        exact lc_turn C hX hbl hL hx (by omega) I (by omega) (by omega) (fun h' I' => kk h' I' hx)
      · refine r_tableIn (pc := 43) (tgt := 350) (off := 307) C dL_law_43 (by decide) (by decide) (by decide) (by decide) ?_
        exact lc_run C hX hbl hL hx (by omega) I (by omega) (by omega) (fun h' I' => kk h' I' hx)
      · refine r_tableIn (pc := 43) (tgt := 373) (off := 330) C dL_law_43 (by decide) (by decide) (by decide) (by decide) ?_
        exact lc_mark C hX hbl hL hx (by omega) I (by omega) (by omega) (fun h' I' => kk h' I' hx)
      · refine r_tableIn (pc := 43) (tgt := 386) (off := 343) C dL_law_43 (by decide) (by decide) (by decide) (by decide) ?_
        exact lc_giveUp C hX hbl hL hx (by omega) I (by omega) (by omega) (fun h' I' => kk h' I' hx)
      · refine r_tableIn (pc := 43) (tgt := 399) (off := 356) C dL_law_43 (by decide) (by decide) (by decide) (by decide) ?_
        exact lc_restore C hX hbl hL hx (by omega) I (by omega) (by omega) (fun h' I' => kk h' I' hx)
      · refine r_tableIn (pc := 43) (tgt := 462) (off := 419) C dL_law_43 (by decide) (by decide) (by decide) (by decide) ?_
        exact lc_about C hX hbl hL hx (by omega) I (by omega) (by omega) (fun h' I' => kk h' I' hx)
      · refine r_tableIn (pc := 43) (tgt := 485) (off := 442) C dL_law_43 (by decide) (by decide) (by decide) (by decide) ?_
        exact lc_many C hX hbl hL hx (by omega) I (by omega) (by omega) (fun h' I' => kk h' I' hx)
      · refine r_tableIn (pc := 43) (tgt := 518) (off := 475) C dL_law_43 (by decide) (by decide) (by decide) (by decide) ?_
        exact lc_sum C hX hbl hL hx (by omega) I (by omega) (by omega) (fun h' I' => kk h' I' hx)
      · refine r_tableIn (pc := 43) (tgt := 552) (off := 509) C dL_law_43 (by decide) (by decide) (by decide) (by decide) ?_
        exact lc_task C hX hbl hL hx (by omega) I (by omega) (by omega) (fun h' I' => kk h' I' hx)
      · refine r_tableIn (pc := 43) (tgt := 595) (off := 552) C dL_law_43 (by decide) (by decide) (by decide) (by decide) ?_
        exact lc_channel C hX hbl hL hx (by omega) I (by omega) (by omega) (fun h' I' => kk h' I' hx)
      · refine r_tableIn (pc := 43) (tgt := 648) (off := 605) C dL_law_43 (by decide) (by decide) (by decide) (by decide) ?_
        exact lc_key C hX hbl hL hx (by omega) I (by omega) (by omega) (fun h' I' => kk h' I' hx)
      · refine r_tableIn (pc := 43) (tgt := 701) (off := 658) C dL_law_43 (by decide) (by decide) (by decide) (by decide) ?_
        exact lc_value C hX hbl hL hx (by omega) I (by omega) (by omega) (fun h' I' => kk h' I' hx)
      · refine r_tableIn (pc := 43) (tgt := 755) (off := 712) C dL_law_43 (by decide) (by decide) (by decide) (by decide) ?_
        exact lc_marked C hX hbl hL hx (by omega) I (by omega) (by omega) (fun h' I' => kk h' I' hx)
      · refine r_tableIn (pc := 43) (tgt := 788) (off := 745) C dL_law_43 (by decide) (by decide) (by decide) (by decide) ?_
        exact lc_keptMany C hX hbl hL hx (by omega) I (by omega) (by omega) (fun h' I' => kk h' I' hx)
      · refine r_tableIn (pc := 43) (tgt := 831) (off := 788) C dL_law_43 (by decide) (by decide) (by decide) (by decide) ?_
        exact lc_keptSum C hX hbl hL hx (by omega) I (by omega) (by omega) (fun h' I' => kk h' I' hx)
      · refine r_tableIn (pc := 43) (tgt := 875) (off := 832) C dL_law_43 (by decide) (by decide) (by decide) (by decide) ?_
        exact lc_kept C hX hbl hL hx (by omega) I (by omega) (by omega) (fun h' I' => kk h' I' hx)
      · refine r_tableIn (pc := 43) (tgt := 928) (off := 885) C dL_law_43 (by decide) (by decide) (by decide) (by decide) ?_
        exact lc_keptKey C hX hbl hL hx (by omega) I (by omega) (by omega) (fun h' I' => kk h' I' hx)
      · refine r_tableIn (pc := 43) (tgt := 991) (off := 948) C dL_law_43 (by decide) (by decide) (by decide) (by decide) ?_
        exact lc_keptValue C hX hbl hL hx (by omega) I (by omega) (by omega) (fun h' I' => kk h' I' hx)
      · refine r_tableIn (pc := 43) (tgt := 1055) (off := 1012) C dL_law_43 (by decide) (by decide) (by decide) (by decide) ?_
        exact lc_audit C hX hbl hL hx (by omega) I (by omega) (by omega) (fun h' I' => kk h' I' hx)
      · refine r_tableOut (pc := 43) (tgt := 1068) C dL_law_43 hsw43 (by decide) ?_
        exact t1068 h _ _ (by omega) (by omega) hx I.next
    · by_cases h6 : 6 ≤ L
      · skip
        refine r_iload_n (pc := 28) C dL_law_28 rfl rfl ?_
        refine r_aload_n (pc := 29) C dL_law_29 rfl rfl ?_
        refine r_slen (pc := 30) C hX hbl dL_law_30 ?_
        refine r_bipush (pc := 31) (v := (nI 6)) C dL_law_31 (by decide) ?_
        refine n_isub (pc := 33) C (by omega) dL_law_33 ?_
        refine n_icmp_gt (pc := 34) (tgt := 1074) C (by omega) (by omega) dL_law_34 (by decide) (fun c34 => ?_) (fun c34 => absurd c34 (by omega))
        exact k _ _ _ _ (by omega) (by omega)
      · have hn0 : n = 0 := by omega
        subst hn0
        have hlt : nI L - nI 6 < nI (1 + 6 * 0) := by
          rcases (show L = 0 ∨ L = 1 ∨ L = 2 ∨ L = 3 ∨ L = 4 ∨ L = 5 by omega) with rfl | rfl | rfl | rfl | rfl | rfl <;> decide
        refine r_iload_n (pc := 28) C dL_law_28 rfl rfl ?_
        refine r_aload_n (pc := 29) C dL_law_29 rfl rfl ?_
        refine r_slen (pc := 30) C hX hbl dL_law_30 ?_
        refine r_bipush (pc := 31) (v := (nI 6)) C dL_law_31 (by decide) ?_
        refine r_isub (pc := 33) C dL_law_33 ?_
        refine r_icmp_gt (pc := 34) (tgt := 1074) C dL_law_34 (by decide) (fun c34 => ?_) (fun c34 => absurd c34 (fun z => z hlt))
        exact k _ _ _ _ (by omega) (by omega)
end LL98
