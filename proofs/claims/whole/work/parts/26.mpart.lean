/-! ===== the reference: taking part ===== -/
/-- the first KEYS, below k, are kept -/
def svN (t : TS) (j s q k : Nat) : Nat → Nat := fun i => if 64 * j + 16 * s ≤ i ∧ i < 64 * j + 16 * s + 16 ∧ (i - (64 * j + 16 * s)) % tN t 1 s = q ∧ i - (64 * j + 16 * s) < k then tN t 3 (i - 64 * j) else tN t 11 i
def svL (t : TS) (j s q k : Nat) : Nat → Int64 := fun i => if 64 * j + 16 * s ≤ i ∧ i < 64 * j + 16 * s + 16 ∧ (i - (64 * j + 16 * s)) % tN t 1 s = q ∧ i - (64 * j + 16 * s) < k then tL t 1 (i - 64 * j) else tL t 2 i
theorem sv_mod {P q k x : Nat} (hP : 1 ≤ P ∧ P ≤ 4) (hk : k % P = q) : x % P = q ∧ x < k + P ↔ (x % P = q ∧ x < k) ∨ x = k := by
  rcases (show P = 1 ∨ P = 2 ∨ P = 3 ∨ P = 4 by omega) with rfl | rfl | rfl | rfl <;> omega
theorem svN_up {t : TS} {j s q k : Nat} (hP : 1 ≤ tN t 1 s ∧ tN t 1 s ≤ 4) (hk : k % tN t 1 s = q) (h16 : k < 16) : va_up (svN t j s q k) (64 * j + 16 * s + k) (tN t 3 (16 * s + k)) = svN t j s q (k + tN t 1 s) := by
  funext i
  unfold va_up svN
  by_cases hi : i = 64 * j + 16 * s + k
  · subst hi
    rw [if_pos rfl, if_pos]
    · congr 1; omega
    · refine ⟨by omega, by omega, ?_⟩
      rw [show 64 * j + 16 * s + k - (64 * j + 16 * s) = k by omega]
      exact ⟨hk, by omega⟩
  · rw [if_neg hi]
    have e := sv_mod (x := i - (64 * j + 16 * s)) hP hk
    by_cases h1 : 64 * j + 16 * s ≤ i
    · have h2 : ¬ i - (64 * j + 16 * s) = k := by omega
      by_cases h3 : i < 64 * j + 16 * s + 16
      · simp only [h1, h3, true_and]
        by_cases h4 : (i - (64 * j + 16 * s)) % tN t 1 s = q ∧ i - (64 * j + 16 * s) < k
        · rw [if_pos h4, if_pos (e.mpr (Or.inl h4))]
        · rw [if_neg h4, if_neg (fun z => (e.mp z).elim h4 h2)]
      · simp [h3]
    · simp [h1]
theorem svL_up {t : TS} {j s q k : Nat} (hP : 1 ≤ tN t 1 s ∧ tN t 1 s ≤ 4) (hk : k % tN t 1 s = q) (h16 : k < 16) : va_up (svL t j s q k) (64 * j + 16 * s + k) (tL t 1 (16 * s + k)) = svL t j s q (k + tN t 1 s) := by
  funext i
  unfold va_up svL
  by_cases hi : i = 64 * j + 16 * s + k
  · subst hi
    rw [if_pos rfl, if_pos]
    · congr 1; omega
    · refine ⟨by omega, by omega, ?_⟩
      rw [show 64 * j + 16 * s + k - (64 * j + 16 * s) = k by omega]
      exact ⟨hk, by omega⟩
  · rw [if_neg hi]
    have e := sv_mod (x := i - (64 * j + 16 * s)) hP hk
    by_cases h1 : 64 * j + 16 * s ≤ i
    · have h2 : ¬ i - (64 * j + 16 * s) = k := by omega
      by_cases h3 : i < 64 * j + 16 * s + 16
      · simp only [h1, h3, true_and]
        by_cases h4 : (i - (64 * j + 16 * s)) % tN t 1 s = q ∧ i - (64 * j + 16 * s) < k
        · rw [if_pos h4, if_pos (e.mpr (Or.inl h4))]
        · rw [if_neg h4, if_neg (fun z => (e.mp z).elim h4 h2)]
      · simp [h3]
    · simp [h1]
theorem uLs_same {t : TS} {j : Nat} {f g : Nat → Int64} : uLs (uLs t j f) j g = uLs t j g := by
  have e : va_up (va_up (tL t) j f) j g = va_up (tL t) j g := by
    funext i
    unfold va_up
    by_cases h1 : i = j <;> simp [h1]
  show (tN t, tI t, va_up (va_up (tL t) j f) j g, tC t, tK t) = (tN t, tI t, va_up (tL t) j g, tC t, tK t)
  rw [e]
theorem uLs_id {t : TS} {j : Nat} : uLs t j (tL t j) = t := by
  show (tN t, tI t, va_up (tL t) j (tL t j), tC t, tK t) = t
  have e : va_up (tL t) j (tL t j) = tL t := by
    funext i
    unfold va_up
    by_cases h1 : i = j
    · subst h1; simp
    · simp [h1]
  rw [e]; rfl
theorem sv_0 {t : TS} {j s q : Nat} (hq : q < tN t 1 s) : uLs (uNs t 11 (svN t j s q q)) 2 (svL t j s q q) = t := by
  have z : ∀ i, ¬ (64 * j + 16 * s ≤ i ∧ i < 64 * j + 16 * s + 16 ∧ (i - (64 * j + 16 * s)) % tN t 1 s = q ∧ i - (64 * j + 16 * s) < q) := fun i hi => by
    obtain ⟨-, -, h3, h4⟩ := hi
    rw [Nat.mod_eq_of_lt (by omega)] at h3
    omega
  have e1 : svN t j s q q = tN t 11 := by funext i; unfold svN; rw [if_neg (z i)]
  have e2 : svL t j s q q = tL t 2 := by funext i; unfold svL; rw [if_neg (z i)]
  rw [e1, e2, uNs_id, uLs_id]
theorem sv_16 {t : TS} {j s q k : Nat} (hk : 16 ≤ k) : uLs (uNs t 11 (svN t j s q k)) 2 (svL t j s q k) = spSave t j s q := by
  have z : ∀ i, (64 * j + 16 * s ≤ i ∧ i < 64 * j + 16 * s + 16 ∧ (i - (64 * j + 16 * s)) % tN t 1 s = q ∧ i - (64 * j + 16 * s) < k) ↔ (64 * j + 16 * s ≤ i ∧ i < 64 * j + 16 * s + 16 ∧ (i - (64 * j + 16 * s)) % tN t 1 s = q) := fun i => ⟨fun h => ⟨h.1, h.2.1, h.2.2.1⟩, fun h => ⟨h.1, h.2.1, h.2.2, by omega⟩⟩
  unfold spSave svN svL
  simp only [z]
section MT
variable {G : GP} {F : FX} {m : Nat} {cells slots : Nat} {Q : State → Prop}
theorem part_l1 {R : Room} (C : CX G F mX6_takePart R) {h0 : AH} {t : TS} {j s q lo : Nat} (B : TB t) (hs : s < 4) (hj : j < 8) (k : ∀ h x5, RM m (spSave t j s q) h → Fr m (m + 24) h0 h → WA G F mX6_takePart h cells slots Q 112 [some (.ref m), some (.int (nI s)), some (.int (nI q)), some (.int (nI lo)), some (.int (nI j)), some (.int x5), none, none] []) :
    ∀ (n i : Nat) (h : AH), 16 ≤ i + n → i % tN t 1 s = q → i ≤ 19 → RM m (uLs (uNs t 11 (svN t j s q i)) 2 (svL t j s q i)) h → Fr m (m + 24) h0 h → WA G F mX6_takePart h cells slots Q 31 [some (.ref m), some (.int (nI s)), some (.int (nI q)), some (.int (nI lo)), some (.int (nI j)), some (.int (nI i)), none, none] [] := by
  have b1 := B.P hs
  intro n
  induction n with
  | zero =>
    intro i h hi hm hb E f
    refine r_iload (pc := 31) C dX6_takePart_31 rfl ?_
    refine r_bipush (pc := 33) (v := (nI 16)) C dX6_takePart_33 (by decide) ?_
    refine n_icmp_ge (pc := 35) (tgt := 112) C (by omega) (by omega) dX6_takePart_35 (by decide) (fun c35 => ?_) (fun c35 => absurd c35 (by omega))
    exact k h _ (by rw [← sv_16 (k := i) (by omega)]; exact E) f
  | succ n ih =>
    intro i h hi hm hb E f
    refine r_iload (pc := 31) C dX6_takePart_31 rfl ?_
    refine r_bipush (pc := 33) (v := (nI 16)) C dX6_takePart_33 (by decide) ?_
    refine n_icmp_ge (pc := 35) (tgt := 112) C (by omega) (by omega) dX6_takePart_35 (by decide) (fun c35 => ?_) (fun c35 => ?_)
    · exact k h _ (by rw [← sv_16 (k := i) (by omega)]; exact E) f
    · refine r_aload_n (pc := 38) C dX6_takePart_38 rfl rfl ?_
      refine r_getR (pc := 39) C fl_X6_73 E.L.o rfl E.L.r25 dX6_takePart_39 ?_
      refine r_bipush (pc := 42) (v := (nI 64)) C dX6_takePart_42 (by decide) ?_
      refine r_iload (pc := 44) C dX6_takePart_44 rfl ?_
      refine n_imul (pc := 46) C dX6_takePart_46 ?_
      refine r_bipush (pc := 47) (v := (nI 16)) C dX6_takePart_47 (by decide) ?_
      refine r_iload_n (pc := 49) C dX6_takePart_49 rfl rfl ?_
      refine n_imul (pc := 50) C dX6_takePart_50 ?_
      refine n_iadd (pc := 51) C dX6_takePart_51 ?_
      refine r_iload (pc := 52) C dX6_takePart_52 rfl ?_
      refine n_iadd (pc := 54) C dX6_takePart_54 ?_
      refine r_aload_n (pc := 55) C dX6_takePart_55 rfl rfl ?_
      refine r_getR (pc := 56) C fl_X6_27 E.L.o rfl E.L.r8 dX6_takePart_56 ?_
      refine r_bipush (pc := 59) (v := (nI 16)) C dX6_takePart_59 (by decide) ?_
      refine r_iload_n (pc := 61) C dX6_takePart_61 rfl rfl ?_
      refine n_imul (pc := 62) C dX6_takePart_62 ?_
      refine r_iload (pc := 63) C dX6_takePart_63 rfl ?_
      refine n_iadd (pc := 65) C dX6_takePart_65 ?_
      refine n_iald (pc := 66) C E.L.s8 (by omega) (show _ = nI (tN t 3 (16 * s + i)) from E.k_many _ (by omega)) dX6_takePart_66 ?_
      refine n_iast (pc := 67) C E.L.s25 (by omega) dX6_takePart_67 ?_
      have E := E.p_kmany (64 * j + 16 * s + i) (tN t 3 (16 * s + i))
      refine r_aload_n (pc := 68) C dX6_takePart_68 rfl rfl ?_
      refine r_getR (pc := 69) C fl_X6_76 E.L.o rfl E.L.r26 dX6_takePart_69 ?_
      refine r_bipush (pc := 72) (v := (nI 64)) C dX6_takePart_72 (by decide) ?_
      refine r_iload (pc := 74) C dX6_takePart_74 rfl ?_
      refine n_imul (pc := 76) C dX6_takePart_76 ?_
      refine r_bipush (pc := 77) (v := (nI 16)) C dX6_takePart_77 (by decide) ?_
      refine r_iload_n (pc := 79) C dX6_takePart_79 rfl rfl ?_
      refine n_imul (pc := 80) C dX6_takePart_80 ?_
      refine n_iadd (pc := 81) C dX6_takePart_81 ?_
      refine r_iload (pc := 82) C dX6_takePart_82 rfl ?_
      refine n_iadd (pc := 84) C dX6_takePart_84 ?_
      refine r_aload_n (pc := 85) C dX6_takePart_85 rfl rfl ?_
      refine r_getR (pc := 86) C fl_X6_30 E.L.o rfl E.L.r9 dX6_takePart_86 ?_
      refine r_bipush (pc := 89) (v := (nI 16)) C dX6_takePart_89 (by decide) ?_
      refine r_iload_n (pc := 91) C dX6_takePart_91 rfl rfl ?_
      refine n_imul (pc := 92) C dX6_takePart_92 ?_
      refine r_iload (pc := 93) C dX6_takePart_93 rfl ?_
      refine n_iadd (pc := 95) C dX6_takePart_95 ?_
      refine n_lald (pc := 96) C E.L.s9 (by omega) (show _ = tL t 1 (16 * s + i) from E.k_sum _ (by omega)) dX6_takePart_96 ?_
      refine n_last (pc := 97) C E.L.s26 (by omega) dX6_takePart_97 ?_
      have E := E.p_ksum (64 * j + 16 * s + i) (tL t 1 (16 * s + i))
      refine r_iload (pc := 98) C dX6_takePart_98 rfl ?_
      refine r_aload_n (pc := 100) C dX6_takePart_100 rfl rfl ?_
      refine r_getR (pc := 101) C fl_X6_7 E.L.o rfl E.L.r1 dX6_takePart_101 ?_
      refine r_iload_n (pc := 104) C dX6_takePart_104 rfl rfl ?_
      refine n_iald (pc := 105) C E.L.s1 (by omega) (show _ = nI (tN t 1 s) from E.k_P _ (by omega)) dX6_takePart_105 ?_
      refine n_iadd (pc := 106) C dX6_takePart_106 ?_
      refine r_istore (pc := 107) (lv' := [_, _, _, _, _, _, _, _]) C dX6_takePart_107 (by decide) rfl rfl ?_
      refine r_goto (pc := 109) (tgt := 31) C dX6_takePart_109 (by decide) ?_
      have e2 : uL (uN (uLs (uNs t 11 (svN t j s q i)) 2 (svL t j s q i)) 11 (64 * j + 16 * s + i) (tN t 3 (16 * s + i))) 2 (64 * j + 16 * s + i) (tL t 1 (16 * s + i)) = uLs (uNs t 11 (svN t j s q (i + tN t 1 s))) 2 (svL t j s q (i + tN t 1 s)) := by
        rw [← svN_up b1 hm (by omega), ← svL_up b1 hm (by omega)]
        show uLs (uLs (uNs (uNs t 11 (svN t j s q i)) 11 _) 2 (svL t j s q i)) 2 _ = _
        rw [uLs_same, uNs_same]
        rfl
      rw [e2] at E
      exact ih (i + tN t 1 s) _ (by omega) (by rw [Nat.add_mod_right]; exact hm) (by omega) E ((f.pI (by omega) (by omega)).pL (by omega) (by omega))
/-- the rows of a channel are kept, one by one -/
theorem part_l3 (C : CX G F mX6_takePart (Rm 2 0 0)) {h0 : AH} {j s q lo d c : Nat} (hlo : lo ≠ 0) (hlb : lo ≤ 1) (hc : c < 48) {tf : TS} (k : ∀ h x7, RM m tf h → Fr m (m + 24) h0 h → WA G F mX6_takePart h 0 0 Q 268 [some (.ref m), some (.int (nI s)), some (.int (nI q)), some (.int (nI lo)), some (.int (nI j)), some (.int (nI d)), some (.int (nI c)), some (.int x7)] []) :
    ∀ (l : List Nat) (i : Nat) (t : TS) (h : AH), (tC t c).drop i = l → i ≤ (tC t c).length → spKeepL c l t = tf → TB t → RM m t h → Fr m (m + 24) h0 h → WA G F mX6_takePart h 0 0 Q 218 [some (.ref m), some (.int (nI s)), some (.int (nI q)), some (.int (nI lo)), some (.int (nI j)), some (.int (nI d)), some (.int (nI c)), some (.int (nI i))] [] := by
  intro l
  induction l with
  | nil =>
    intro i t h hd hi ht B E f
    have b1 := B.len c
    have hi2 : (tC t c).length ≤ i := List.drop_eq_nil_iff.mp hd
    rw [show spKeepL c [] t = t from rfl] at ht
    subst ht
    refine r_iload (pc := 218) C dX6_takePart_218 rfl ?_
    refine r_aload_n (pc := 220) C dX6_takePart_220 rfl rfl ?_
    refine r_getR (pc := 221) C fl_X6_36 E.L.o rfl E.L.r11 dX6_takePart_221 ?_
    refine r_iload (pc := 224) C dX6_takePart_224 rfl ?_
    refine n_iald (pc := 226) C E.L.s11 (by omega) (E.k_held _ (by omega)) dX6_takePart_226 ?_
    refine n_icmp_ge (pc := 227) (tgt := 268) C (by omega) (by omega) dX6_takePart_227 (by decide) (fun c227 => ?_) (fun c227 => absurd c227 (by omega))
    exact k h _ E f
  | cons r rs ih =>
    intro i t h hd hi ht B E f
    have b1 := B.len c
    have b2 := B.uw
    have b3 := B.marks
    have hi2 : i < (tC t c).length := by
      rcases Nat.lt_or_ge i (tC t c).length with z | z
      · exact z
      · rw [List.drop_eq_nil_iff.mpr z] at hd; cases hd
    have hr : (tC t c).getD i 0 = r := by
      have e := congrArg List.head? hd
      rw [List.head?_drop] at e
      rw [List.getD_eq_getElem?_getD, e]; rfl
    have hrm : r ∈ tC t c := List.mem_of_mem_drop (i := i) (by rw [hd]; exact List.mem_cons_self)
    have hrs : (tC t c).drop (i + 1) = rs := by rw [← List.tail_drop, hd]; rfl
    unfold spKeepL at ht
    refine r_iload (pc := 218) C dX6_takePart_218 rfl ?_
    refine r_aload_n (pc := 220) C dX6_takePart_220 rfl rfl ?_
    refine r_getR (pc := 221) C fl_X6_36 E.L.o rfl E.L.r11 dX6_takePart_221 ?_
    refine r_iload (pc := 224) C dX6_takePart_224 rfl ?_
    refine n_iald (pc := 226) C E.L.s11 (by omega) (E.k_held _ (by omega)) dX6_takePart_226 ?_
    refine n_icmp_ge (pc := 227) (tgt := 268) C (by omega) (by omega) dX6_takePart_227 (by decide) (fun c227 => absurd c227 (by omega)) (fun c227 => ?_)
    refine r_iload_n (pc := 230) C dX6_takePart_230 rfl rfl ?_
    refine n_if_eq (pc := 231) (tgt := 268) C (by omega) dX6_takePart_231 (by decide) (fun c231 => absurd c231 (by omega)) (fun c231 => ?_)
    refine r_aload_n (pc := 234) C dX6_takePart_234 rfl rfl ?_
    refine r_getIe (pc := 235) C fl_X6_58 E.L.o rfl E.uw dX6_takePart_235 ?_
    refine r_iconst (pc := 238) (v := (-1)) C dX6_takePart_238 (by decide) ?_
    refine r_icmp_eq (pc := 239) (tgt := 268) C dX6_takePart_239 (by decide) (fun c239 => ?_) (fun c239 => ?_)
    · rw [if_pos ((uwm1 (by omega)).mp c239)] at ht
      subst ht
      exact k h _ E f
    · have hu0 : tN t 0 5 ≠ 0 := fun z => c239 ((uwm1 (by omega)).mpr z)
      rw [if_neg hu0] at ht
      refine r_aload_n (pc := 242) C dX6_takePart_242 rfl rfl ?_
      refine r_iload (pc := 243) C dX6_takePart_243 rfl ?_
      refine r_aload_n (pc := 245) C dX6_takePart_245 rfl rfl ?_
      refine r_getR (pc := 246) C fl_X6_33 E.L.o rfl E.L.r10 dX6_takePart_246 ?_
      refine r_sipush (pc := 249) (v := (nI 200)) C dX6_takePart_249 (by decide) ?_
      refine r_iload (pc := 252) C dX6_takePart_252 rfl ?_
      refine n_imul (pc := 254) C dX6_takePart_254 ?_
      refine r_iload (pc := 255) C dX6_takePart_255 rfl ?_
      refine n_iadd (pc := 257) C dX6_takePart_257 ?_
      refine n_iald (pc := 258) C E.L.s10 (by omega) ((E.k_rows _ (by omega) _ (by omega)).trans (by rw [hr])) dX6_takePart_258 ?_
      refine r_callv (cr_V (pc := 259) C (c_X6_keep E B (j := tN t 0 5 - 1) (by omega) c r) dX6_takePart_259 cm_X6_keep ml_X6_122 im_X6_keep se_X6_keep E.L.o rfl ⟨⟨Nat.le_of_ble_eq_true rfl, Nat.le_of_ble_eq_true rfl⟩, Nat.le_of_ble_eq_true rfl, Nat.le_of_ble_eq_true rfl⟩ rfl rfl (Nat.le_of_ble_eq_true rfl)) (fun h259 hq259 => ?_)
      obtain ⟨E2, f2⟩ := hq259
      refine n_iinc (pc := 262) (lv' := [_, _, _, _, _, _, _, _]) C dX6_takePart_262 rfl (by decide) rfl rfl ?_
      refine r_goto (pc := 265) (tgt := 218) C dX6_takePart_265 (by decide) ?_
      have sm : Same t (spKeep t c r) := Same.keep
      have ec : tC (spKeep t c r) c = tC t c := congrFun sm.2.2.2.2.2.2.2.2.2.2.1 c
      exact ih (i + 1) _ _ (by rw [ec]; exact hrs) (by rw [ec]; omega) ht (B.keep hc (B.row hrm)) E2 (f.tr f2)
/-- no row is kept where the barrier comes behind them -/
theorem part_l4 (C : CX G F mX6_takePart (Rm 2 0 0)) {j s q lo d c : Nat} {t : TS} {h : AH} (hlo : lo = 0) (hc : c < 48) (E : RM m t h) (b1 : (tC t c).length ≤ 200) (k : WA G F mX6_takePart h 0 0 Q 268 [some (.ref m), some (.int (nI s)), some (.int (nI q)), some (.int (nI lo)), some (.int (nI j)), some (.int (nI d)), some (.int (nI c)), some (.int (nI 0))] []) : WA G F mX6_takePart h 0 0 Q 218 [some (.ref m), some (.int (nI s)), some (.int (nI q)), some (.int (nI lo)), some (.int (nI j)), some (.int (nI d)), some (.int (nI c)), some (.int (nI 0))] [] := by
  refine r_iload (pc := 218) C dX6_takePart_218 rfl ?_
  refine r_aload_n (pc := 220) C dX6_takePart_220 rfl rfl ?_
  refine r_getR (pc := 221) C fl_X6_36 E.L.o rfl E.L.r11 dX6_takePart_221 ?_
  refine r_iload (pc := 224) C dX6_takePart_224 rfl ?_
  refine n_iald (pc := 226) C E.L.s11 (by omega) (E.k_held _ (by omega)) dX6_takePart_226 ?_
  refine n_icmp_ge (pc := 227) (tgt := 268) C (by omega) (by omega) dX6_takePart_227 (by decide) (fun c227 => ?_) (fun c227 => ?_)
  · exact k
  · refine r_iload_n (pc := 230) C dX6_takePart_230 rfl rfl ?_
    refine n_if_eq (pc := 231) (tgt := 268) C (by omega) dX6_takePart_231 (by decide) (fun c231 => ?_) (fun c231 => absurd c231 (by omega))
    exact k
/-- the barriers come into the channels -/
theorem part_l2 (C : CX G F mX6_takePart (Rm 2 0 0)) {h0 : AH} {j s q lo : Nat} (hlb : lo ≤ 1) (hj : j < 8) (hs : s < 3) (hq : q < 4) {tf : TS} (k : ∀ h lv, RM m tf h → Fr m (m + 24) h0 h → WA G F mX6_takePart h 0 0 Q 274 lv []) :
    ∀ (n d : Nat) (t : TS) (h : AH) (x6 x7 : Option Value), s + 1 < tN t 0 0 → d + n = tN t 1 (s + 1) → spTo j s q lo n d t = tf → TB t → RM m t h → Fr m (m + 24) h0 h → WA G F mX6_takePart h 0 0 Q 115 [some (.ref m), some (.int (nI s)), some (.int (nI q)), some (.int (nI lo)), some (.int (nI j)), some (.int (nI d)), x6, x7] [] := by
  intro n
  induction n with
  | zero =>
    intro d t h x6 x7 hS hd ht B E f
    have b0 := B.S
    have b1 := B.P (s := s + 1) (by omega)
    rw [show spTo j s q lo 0 d t = t from rfl] at ht
    subst ht
    refine r_iload_n (pc := 115) C dX6_takePart_115 rfl rfl ?_
    refine r_iconst (pc := 116) (v := (nI 1)) C dX6_takePart_116 (by decide) ?_
    refine n_iadd (pc := 117) C dX6_takePart_117 ?_
    refine r_aload_n (pc := 118) C dX6_takePart_118 rfl rfl ?_
    refine r_getIe (pc := 119) C fl_X6_91 E.L.o rfl E.S dX6_takePart_119 ?_
    refine n_icmp_ge (pc := 122) (tgt := 274) C (by omega) (by omega) dX6_takePart_122 (by decide) (fun c122 => absurd c122 (by omega)) (fun c122 => ?_)
    refine r_iload (pc := 125) C dX6_takePart_125 rfl ?_
    refine r_aload_n (pc := 127) C dX6_takePart_127 rfl rfl ?_
    refine r_getR (pc := 128) C fl_X6_7 E.L.o rfl E.L.r1 dX6_takePart_128 ?_
    refine r_iload_n (pc := 131) C dX6_takePart_131 rfl rfl ?_
    refine r_iconst (pc := 132) (v := (nI 1)) C dX6_takePart_132 (by decide) ?_
    refine n_iadd (pc := 133) C dX6_takePart_133 ?_
    refine n_iald (pc := 134) C E.L.s1 (by omega) (E.k_P _ (by omega)) dX6_takePart_134 ?_
    refine n_icmp_ge (pc := 135) (tgt := 274) C (by omega) (by omega) dX6_takePart_135 (by decide) (fun c135 => ?_) (fun c135 => absurd c135 (by omega))
    exact k h _ E f
  | succ n ih =>
    intro d t h x6 x7 hS hd ht B E f
    have b0 := B.S
    have b1 := B.P (s := s + 1) (by omega)
    have b2 := B.uw
    have b3 := B.marks
    have b5 := B.len (16 * s + 4 * q + d)
    have b6 := (B.bool (48 * j + (16 * s + 4 * q + d))).2.2.2
    have hc : 16 * s + 4 * q + d < 48 := by omega
    unfold spTo at ht
    refine r_iload_n (pc := 115) C dX6_takePart_115 rfl rfl ?_
    refine r_iconst (pc := 116) (v := (nI 1)) C dX6_takePart_116 (by decide) ?_
    refine n_iadd (pc := 117) C dX6_takePart_117 ?_
    refine r_aload_n (pc := 118) C dX6_takePart_118 rfl rfl ?_
    refine r_getIe (pc := 119) C fl_X6_91 E.L.o rfl E.S dX6_takePart_119 ?_
    refine n_icmp_ge (pc := 122) (tgt := 274) C (by omega) (by omega) dX6_takePart_122 (by decide) (fun c122 => absurd c122 (by omega)) (fun c122 => ?_)
    refine r_iload (pc := 125) C dX6_takePart_125 rfl ?_
    refine r_aload_n (pc := 127) C dX6_takePart_127 rfl rfl ?_
    refine r_getR (pc := 128) C fl_X6_7 E.L.o rfl E.L.r1 dX6_takePart_128 ?_
    refine r_iload_n (pc := 131) C dX6_takePart_131 rfl rfl ?_
    refine r_iconst (pc := 132) (v := (nI 1)) C dX6_takePart_132 (by decide) ?_
    refine n_iadd (pc := 133) C dX6_takePart_133 ?_
    refine n_iald (pc := 134) C E.L.s1 (by omega) (E.k_P _ (by omega)) dX6_takePart_134 ?_
    refine n_icmp_ge (pc := 135) (tgt := 274) C (by omega) (by omega) dX6_takePart_135 (by decide) (fun c135 => absurd c135 (by omega)) (fun c135 => ?_)
    refine r_aload_n (pc := 138) C dX6_takePart_138 rfl rfl ?_
    refine r_getIe (pc := 139) C fl_X6_58 E.L.o rfl E.uw dX6_takePart_139 ?_
    refine r_iconst (pc := 142) (v := (-1)) C dX6_takePart_142 (by decide) ?_
    refine r_icmp_eq (pc := 143) (tgt := 274) C dX6_takePart_143 (by decide) (fun c143 => ?_) (fun c143 => ?_)
    · rw [if_pos ((uwm1 (by omega)).mp c143)] at ht
      subst ht
      exact k h _ E f
    · have hu0 : tN t 0 5 ≠ 0 := fun z => c143 ((uwm1 (by omega)).mpr z)
      rw [if_neg hu0] at ht
      generalize hcc : 16 * s + 4 * q + d = c at ht hc b5 b6
      have B2 : TB (spBar t j c lo) := B.barr
      have nxt : ∀ h' x7, RM m (if lo = 0 then spBar t j c lo else spKeepL c (tC t c) (spBar t j c lo)) h' → Fr m (m + 24) h0 h' → WA G F mX6_takePart h' 0 0 Q 268 [some (.ref m), some (.int (nI s)), some (.int (nI q)), some (.int (nI lo)), some (.int (nI j)), some (.int (nI d)), some (.int (nI c)), some (.int x7)] [] := by
        intro h' x7 E' f'
        have sm : Same t (if lo = 0 then spBar t j c lo else spKeepL c (tC t c) (spBar t j c lo)) := by
          split
          · exact Same.bar
          · exact Same.bar.tr (Same.keepL _ _)
        have B' : TB (if lo = 0 then spBar t j c lo else spKeepL c (tC t c) (spBar t j c lo)) := by
          split
          · exact B2
          · exact TB.keepL hc _ _ B2 (fun r hr => B.row hr)
        refine n_iinc (pc := 268) (lv' := [_, _, _, _, _, _, _, _]) C dX6_takePart_268 rfl (by decide) rfl rfl ?_
        refine r_goto (pc := 271) (tgt := 115) C dX6_takePart_271 (by decide) ?_
        exact ih (d + 1) _ h' _ _ (by rw [sm.2.2.2.2.2.1]; exact hS) (by rw [sm.1]; omega) ht B' E' f'
      have tail : ∀ h' x7, RM m (spBar t j c lo) h' → Fr m (m + 24) h0 h' → WA G F mX6_takePart h' 0 0 Q 215 [some (.ref m), some (.int (nI s)), some (.int (nI q)), some (.int (nI lo)), some (.int (nI j)), some (.int (nI d)), some (.int (nI c)), x7] [] := by
        intro h' x7 E' f'
        refine r_iconst (pc := 215) (v := nI 0) C dX6_takePart_215 (by decide) ?_
        refine r_istore (pc := 216) (lv' := [_, _, _, _, _, _, _, _]) C dX6_takePart_216 (by decide) rfl rfl ?_
        by_cases hl0 : lo = 0
        · rw [if_pos hl0] at nxt
          exact part_l4 C hl0 hc E' b5 (nxt h' _ E' f')
        · rw [if_neg hl0] at nxt
          exact part_l3 C hl0 hlb hc nxt (tC t c) 0 (spBar t j c lo) h' rfl (Nat.zero_le _) rfl B2 E' f'
      refine r_iload_n (pc := 146) C dX6_takePart_146 rfl rfl ?_
      refine r_iload_n (pc := 147) C dX6_takePart_147 rfl rfl ?_
      refine r_iload (pc := 148) C dX6_takePart_148 rfl ?_
      refine r_calli (cr_S (pc := 150) C (c_X6_at _ s q d) dX6_takePart_150 cm_X6_at ml_X6_118 st_X6_at ⟨⟨Nat.le_of_ble_eq_true rfl, Nat.le_of_ble_eq_true rfl⟩, Nat.le_of_ble_eq_true rfl, Nat.le_of_ble_eq_true rfl⟩ rfl rfl (Nat.le_of_ble_eq_true rfl)) (fun v150 h150 hq150 => ?_)
      obtain ⟨rfl, rfl⟩ := hq150
      rw [hcc]
      refine r_istore (pc := 153) (lv' := [_, _, _, _, _, _, _, _]) C dX6_takePart_153 (by decide) rfl rfl ?_
      refine r_aload_n (pc := 155) C dX6_takePart_155 rfl rfl ?_
      refine r_getR (pc := 156) C fl_X6_39 E.L.o rfl E.L.r12 dX6_takePart_156 ?_
      refine r_iload (pc := 159) C dX6_takePart_159 rfl ?_
      refine r_iload_n (pc := 161) C dX6_takePart_161 rfl rfl ?_
      refine n_if_eq (pc := 162) (tgt := 169) C (by omega) dX6_takePart_162 (by decide) (fun c162 => ?_) (fun c162 => ?_)
      · refine r_aload_n (pc := 169) C dX6_takePart_169 rfl rfl ?_
        refine r_getR (pc := 170) C fl_X6_36 E.L.o rfl E.L.r11 dX6_takePart_170 ?_
        refine r_iload (pc := 173) C dX6_takePart_173 rfl ?_
        refine n_iald (pc := 175) C E.L.s11 (by omega) (E.k_held _ (by omega)) dX6_takePart_175 ?_
        skip
        refine n_iast (pc := 176) C E.L.s12 (by omega) dX6_takePart_176 ?_
        refine r_aload_n (pc := 177) C dX6_takePart_177 rfl rfl ?_
        refine r_getR (pc := 178) C fl_X6_88 E.L.o rfl E.L.r30 dX6_takePart_178 ?_
        refine r_bipush (pc := 181) (v := (nI 48)) C dX6_takePart_181 (by decide) ?_
        refine r_iload (pc := 183) C dX6_takePart_183 rfl ?_
        refine n_imul (pc := 185) C dX6_takePart_185 ?_
        refine r_iload (pc := 186) C dX6_takePart_186 rfl ?_
        refine n_iadd (pc := 188) C dX6_takePart_188 ?_
        refine r_aload_n (pc := 189) C dX6_takePart_189 rfl rfl ?_
        refine r_getR (pc := 190) C fl_X6_88 E.L.o rfl E.L.r30 dX6_takePart_190 ?_
        refine r_bipush (pc := 193) (v := (nI 48)) C dX6_takePart_193 (by decide) ?_
        refine r_iload (pc := 195) C dX6_takePart_195 rfl ?_
        refine n_imul (pc := 197) C dX6_takePart_197 ?_
        refine r_iload (pc := 198) C dX6_takePart_198 rfl ?_
        refine n_iadd (pc := 200) C dX6_takePart_200 ?_
        refine n_zald (pc := 201) C E.L.s30 (by omega) (show _ = nI (tN t 12 (48 * j + c)) from (E.p_bar c _ (show _ = _ from (by first | exact (nI_pred _).symm | exact (show nI 0 = nI 1 - 1 by decide)))).k_loose _ (by omega)) dX6_takePart_201 ?_
        refine n_if_ne (pc := 202) (tgt := 209) C (by omega) dX6_takePart_202 (by decide) (fun c202 => ?_) (fun c202 => ?_)
        · refine r_iconst (pc := 209) (v := (nI 1)) C dX6_takePart_209 (by decide) ?_
          refine r_goto (pc := 210) (tgt := 214) C dX6_takePart_210 (by decide) ?_
          refine n_zast (pc := 214) C E.L.s30 (by omega) (by first | exact Or.inl rfl | exact Or.inr rfl | exact bI_01) dX6_takePart_214 ?_
          first | exact absurd c162 c206 | exact absurd c206 c162 | exact tail _ _ (by unfold spBar; rw [if_pos c162, if_neg (fun z => c202 z.1)]; exact (E.p_bar c ((tC t c).length + 1) (nI_pred _).symm).p_loose (48 * j + c) 1) ((f.pI (a := m + 8) (by omega) (by omega)).pI (a := m + 23) (by omega) (by omega)) | exact tail _ _ (by unfold spBar; rw [if_pos c162, if_pos ⟨c202, c162⟩]; exact (E.p_bar c ((tC t c).length + 1) (nI_pred _).symm).p_loose (48 * j + c) 0) ((f.pI (a := m + 8) (by omega) (by omega)).pI (a := m + 23) (by omega) (by omega)) | exact tail _ _ (by unfold spBar; rw [if_neg c162, if_neg (fun z => c162 z.2)]; exact (E.p_bar c 1 (by decide)).p_loose (48 * j + c) 1) ((f.pI (a := m + 8) (by omega) (by omega)).pI (a := m + 23) (by omega) (by omega))
        · refine r_iload_n (pc := 205) C dX6_takePart_205 rfl rfl ?_
          refine n_if_eq (pc := 206) (tgt := 213) C (by omega) dX6_takePart_206 (by decide) (fun c206 => ?_) (fun c206 => ?_)
          · refine r_iconst (pc := 213) (v := (nI 0)) C dX6_takePart_213 (by decide) ?_
            refine n_zast (pc := 214) C E.L.s30 (by omega) (by first | exact Or.inl rfl | exact Or.inr rfl | exact bI_01) dX6_takePart_214 ?_
            first | exact absurd c162 c206 | exact absurd c206 c162 | exact tail _ _ (by unfold spBar; rw [if_pos c162, if_neg (fun z => c202 z.1)]; exact (E.p_bar c ((tC t c).length + 1) (nI_pred _).symm).p_loose (48 * j + c) 1) ((f.pI (a := m + 8) (by omega) (by omega)).pI (a := m + 23) (by omega) (by omega)) | exact tail _ _ (by unfold spBar; rw [if_pos c162, if_pos ⟨c202, c162⟩]; exact (E.p_bar c ((tC t c).length + 1) (nI_pred _).symm).p_loose (48 * j + c) 0) ((f.pI (a := m + 8) (by omega) (by omega)).pI (a := m + 23) (by omega) (by omega)) | exact tail _ _ (by unfold spBar; rw [if_neg c162, if_neg (fun z => c162 z.2)]; exact (E.p_bar c 1 (by decide)).p_loose (48 * j + c) 1) ((f.pI (a := m + 8) (by omega) (by omega)).pI (a := m + 23) (by omega) (by omega))
          · refine r_iconst (pc := 209) (v := (nI 1)) C dX6_takePart_209 (by decide) ?_
            refine r_goto (pc := 210) (tgt := 214) C dX6_takePart_210 (by decide) ?_
            refine n_zast (pc := 214) C E.L.s30 (by omega) (by first | exact Or.inl rfl | exact Or.inr rfl | exact bI_01) dX6_takePart_214 ?_
            first | exact absurd c162 c206 | exact absurd c206 c162 | exact tail _ _ (by unfold spBar; rw [if_pos c162, if_neg (fun z => c202 z.1)]; exact (E.p_bar c ((tC t c).length + 1) (nI_pred _).symm).p_loose (48 * j + c) 1) ((f.pI (a := m + 8) (by omega) (by omega)).pI (a := m + 23) (by omega) (by omega)) | exact tail _ _ (by unfold spBar; rw [if_pos c162, if_pos ⟨c202, c162⟩]; exact (E.p_bar c ((tC t c).length + 1) (nI_pred _).symm).p_loose (48 * j + c) 0) ((f.pI (a := m + 8) (by omega) (by omega)).pI (a := m + 23) (by omega) (by omega)) | exact tail _ _ (by unfold spBar; rw [if_neg c162, if_neg (fun z => c162 z.2)]; exact (E.p_bar c 1 (by decide)).p_loose (48 * j + c) 1) ((f.pI (a := m + 8) (by omega) (by omega)).pI (a := m + 23) (by omega) (by omega))
      · refine r_iconst (pc := 165) (v := (nI 0)) C dX6_takePart_165 (by decide) ?_
        refine r_goto (pc := 166) (tgt := 176) C dX6_takePart_166 (by decide) ?_
        skip
        refine n_iast (pc := 176) C E.L.s12 (by omega) dX6_takePart_176 ?_
        refine r_aload_n (pc := 177) C dX6_takePart_177 rfl rfl ?_
        refine r_getR (pc := 178) C fl_X6_88 E.L.o rfl E.L.r30 dX6_takePart_178 ?_
        refine r_bipush (pc := 181) (v := (nI 48)) C dX6_takePart_181 (by decide) ?_
        refine r_iload (pc := 183) C dX6_takePart_183 rfl ?_
        refine n_imul (pc := 185) C dX6_takePart_185 ?_
        refine r_iload (pc := 186) C dX6_takePart_186 rfl ?_
        refine n_iadd (pc := 188) C dX6_takePart_188 ?_
        refine r_aload_n (pc := 189) C dX6_takePart_189 rfl rfl ?_
        refine r_getR (pc := 190) C fl_X6_88 E.L.o rfl E.L.r30 dX6_takePart_190 ?_
        refine r_bipush (pc := 193) (v := (nI 48)) C dX6_takePart_193 (by decide) ?_
        refine r_iload (pc := 195) C dX6_takePart_195 rfl ?_
        refine n_imul (pc := 197) C dX6_takePart_197 ?_
        refine r_iload (pc := 198) C dX6_takePart_198 rfl ?_
        refine n_iadd (pc := 200) C dX6_takePart_200 ?_
        refine n_zald (pc := 201) C E.L.s30 (by omega) (show _ = nI (tN t 12 (48 * j + c)) from (E.p_bar c _ (show _ = _ from (by first | exact (nI_pred _).symm | exact (show nI 0 = nI 1 - 1 by decide)))).k_loose _ (by omega)) dX6_takePart_201 ?_
        refine n_if_ne (pc := 202) (tgt := 209) C (by omega) dX6_takePart_202 (by decide) (fun c202 => ?_) (fun c202 => ?_)
        · refine r_iconst (pc := 209) (v := (nI 1)) C dX6_takePart_209 (by decide) ?_
          refine r_goto (pc := 210) (tgt := 214) C dX6_takePart_210 (by decide) ?_
          refine n_zast (pc := 214) C E.L.s30 (by omega) (by first | exact Or.inl rfl | exact Or.inr rfl | exact bI_01) dX6_takePart_214 ?_
          first | exact absurd c162 c206 | exact absurd c206 c162 | exact tail _ _ (by unfold spBar; rw [if_pos c162, if_neg (fun z => c202 z.1)]; exact (E.p_bar c ((tC t c).length + 1) (nI_pred _).symm).p_loose (48 * j + c) 1) ((f.pI (a := m + 8) (by omega) (by omega)).pI (a := m + 23) (by omega) (by omega)) | exact tail _ _ (by unfold spBar; rw [if_pos c162, if_pos ⟨c202, c162⟩]; exact (E.p_bar c ((tC t c).length + 1) (nI_pred _).symm).p_loose (48 * j + c) 0) ((f.pI (a := m + 8) (by omega) (by omega)).pI (a := m + 23) (by omega) (by omega)) | exact tail _ _ (by unfold spBar; rw [if_neg c162, if_neg (fun z => c162 z.2)]; exact (E.p_bar c 1 (by decide)).p_loose (48 * j + c) 1) ((f.pI (a := m + 8) (by omega) (by omega)).pI (a := m + 23) (by omega) (by omega))
        · refine r_iload_n (pc := 205) C dX6_takePart_205 rfl rfl ?_
          refine n_if_eq (pc := 206) (tgt := 213) C (by omega) dX6_takePart_206 (by decide) (fun c206 => ?_) (fun c206 => ?_)
          · refine r_iconst (pc := 213) (v := (nI 0)) C dX6_takePart_213 (by decide) ?_
            refine n_zast (pc := 214) C E.L.s30 (by omega) (by first | exact Or.inl rfl | exact Or.inr rfl | exact bI_01) dX6_takePart_214 ?_
            first | exact absurd c162 c206 | exact absurd c206 c162 | exact tail _ _ (by unfold spBar; rw [if_pos c162, if_neg (fun z => c202 z.1)]; exact (E.p_bar c ((tC t c).length + 1) (nI_pred _).symm).p_loose (48 * j + c) 1) ((f.pI (a := m + 8) (by omega) (by omega)).pI (a := m + 23) (by omega) (by omega)) | exact tail _ _ (by unfold spBar; rw [if_pos c162, if_pos ⟨c202, c162⟩]; exact (E.p_bar c ((tC t c).length + 1) (nI_pred _).symm).p_loose (48 * j + c) 0) ((f.pI (a := m + 8) (by omega) (by omega)).pI (a := m + 23) (by omega) (by omega)) | exact tail _ _ (by unfold spBar; rw [if_neg c162, if_neg (fun z => c162 z.2)]; exact (E.p_bar c 1 (by decide)).p_loose (48 * j + c) 1) ((f.pI (a := m + 8) (by omega) (by omega)).pI (a := m + 23) (by omega) (by omega))
          · refine r_iconst (pc := 209) (v := (nI 1)) C dX6_takePart_209 (by decide) ?_
            refine r_goto (pc := 210) (tgt := 214) C dX6_takePart_210 (by decide) ?_
            refine n_zast (pc := 214) C E.L.s30 (by omega) (by first | exact Or.inl rfl | exact Or.inr rfl | exact bI_01) dX6_takePart_214 ?_
            first | exact absurd c162 c206 | exact absurd c206 c162 | exact tail _ _ (by unfold spBar; rw [if_pos c162, if_neg (fun z => c202 z.1)]; exact (E.p_bar c ((tC t c).length + 1) (nI_pred _).symm).p_loose (48 * j + c) 1) ((f.pI (a := m + 8) (by omega) (by omega)).pI (a := m + 23) (by omega) (by omega)) | exact tail _ _ (by unfold spBar; rw [if_pos c162, if_pos ⟨c202, c162⟩]; exact (E.p_bar c ((tC t c).length + 1) (nI_pred _).symm).p_loose (48 * j + c) 0) ((f.pI (a := m + 8) (by omega) (by omega)).pI (a := m + 23) (by omega) (by omega)) | exact tail _ _ (by unfold spBar; rw [if_neg c162, if_neg (fun z => c162 z.2)]; exact (E.p_bar c 1 (by decide)).p_loose (48 * j + c) 1) ((f.pI (a := m + 8) (by omega) (by omega)).pI (a := m + 23) (by omega) (by omega))
end MT
theorem c_X6_takePart {G : GP} {m : Nat} {t : TS} {h : AH} (E : RM m t h) (B : TB t) {j : Nat} (hu : tN t 0 5 = j + 1) {s q lo : Nat} (hs : s < tN t 0 0) (hq : q < tN t 1 s) (hlo : lo ≤ 1) : MA G mX6_takePart 2 0 0 [.ref m, .int (nI s), .int (nI q), .int (nI lo)] h (Ov (fun h' => RM m (spPart t s q lo) h' ∧ Fr m (m + 24) h h')) := by
  have b0 := B.S
  have b1 := B.P (s := s) (by omega)
  have b2 := B.uw
  have b3 := B.marks
  have hj : tN t 0 5 - 1 = j := by omega
  have B1 : TB (uN (uN t 6 (4 * s + q) 1) 7 (4 * s + q) 0) := (B.p6 (by decide)).p7 (by decide)
  refine MA.intro (lv := [some (.ref m), some (.int (nI s)), some (.int (nI q)), some (.int (nI lo)), none, none, none, none]) (by decide) (Nat.le_of_ble_eq_true rfl) rfl (fun F C => ?_)
  have fin : ∀ h' lv, RM m (spPart t s q lo) h' → Fr m (m + 24) h h' → WA G F mX6_takePart h' 0 0 (MQA G F 0 0 (Ov (fun h' => RM m (spPart t s q lo) h' ∧ Fr m (m + 24) h h'))) 274 lv [] := by
    intro h' lv E' f'
    exact r_vret (pc := 274) C rfl (Nat.le_of_ble_eq_true rfl) (Nat.le_of_ble_eq_true rfl) ⟨rfl, ⟨E', f'⟩⟩ dX6_takePart_274
  refine r_aload_n (pc := 0) C dX6_takePart_0 rfl rfl ?_
  refine r_getIe (pc := 1) C fl_X6_58 E.L.o rfl (E.uw.trans (uwS hu)) dX6_takePart_1 ?_
  refine r_istore (pc := 4) (lv' := [_, _, _, _, _, _, _, _]) C dX6_takePart_4 (by decide) rfl rfl ?_
  refine r_aload_n (pc := 6) C dX6_takePart_6 rfl rfl ?_
  refine r_getR (pc := 7) C fl_X6_46 E.L.o rfl E.L.r14 dX6_takePart_7 ?_
  refine r_iconst (pc := 10) (v := (nI 4)) C dX6_takePart_10 (by decide) ?_
  refine r_iload_n (pc := 11) C dX6_takePart_11 rfl rfl ?_
  refine n_imul (pc := 12) C dX6_takePart_12 ?_
  refine r_iload_n (pc := 13) C dX6_takePart_13 rfl rfl ?_
  refine n_iadd (pc := 14) C dX6_takePart_14 ?_
  refine r_iconst (pc := 15) (v := (nI 1)) C dX6_takePart_15 (by decide) ?_
  refine n_zast (pc := 16) C E.L.s14 (by omega) (by first | exact Or.inl rfl | exact Or.inr rfl | exact bI_01) dX6_takePart_16 ?_
  have E := E.p_took (4 * s + q) 1
  refine r_aload_n (pc := 17) C dX6_takePart_17 rfl rfl ?_
  refine r_getR (pc := 18) C fl_X6_49 E.L.o rfl E.L.r15 dX6_takePart_18 ?_
  refine r_iconst (pc := 21) (v := (nI 4)) C dX6_takePart_21 (by decide) ?_
  refine r_iload_n (pc := 22) C dX6_takePart_22 rfl rfl ?_
  refine n_imul (pc := 23) C dX6_takePart_23 ?_
  refine r_iload_n (pc := 24) C dX6_takePart_24 rfl rfl ?_
  refine n_iadd (pc := 25) C dX6_takePart_25 ?_
  refine r_iconst (pc := 26) (v := (nI 0)) C dX6_takePart_26 (by decide) ?_
  refine n_zast (pc := 27) C E.L.s15 (by omega) (by first | exact Or.inl rfl | exact Or.inr rfl | exact bI_01) dX6_takePart_27 ?_
  have E := E.p_waits (4 * s + q) 0
  refine r_iload_n (pc := 28) C dX6_takePart_28 rfl rfl ?_
  refine r_istore (pc := 29) (lv' := [_, _, _, _, _, _, _, _]) C dX6_takePart_29 (by decide) rfl rfl ?_
  refine part_l1 C B1 (by omega) (by omega) (fun h1 x5 E1 f1 => ?_) 16 q _ (by omega) (Nat.mod_eq_of_lt hq) (by omega) (by rw [sv_0 (t := uN (uN t 6 (4 * s + q) 1) 7 (4 * s + q) 0) hq]; exact E) ((Fr.rf.pI (by omega) (by omega)).pI (by omega) (by omega))
  refine r_iconst (pc := 112) (v := (nI 0)) C dX6_takePart_112 (by decide) ?_
  refine r_istore (pc := 113) (lv' := [_, _, _, _, _, _, _, _]) C dX6_takePart_113 (by decide) rfl rfl ?_
  by_cases hS : s + 1 < tN t 0 0
  · refine part_l2 C hlo (by omega) (by omega) (by omega) (tf := spPart t s q lo) fin (tN t 1 (s + 1)) 0 (spSave (uN (uN t 6 (4 * s + q) 1) 7 (4 * s + q) 0) j s q) h1 _ _ hS (Nat.zero_add _) ?_ B1.save E1 f1
    unfold spPart
    rw [if_pos hS, hj]
  · have E := E1
    have e0 : spPart t s q lo = spSave (uN (uN t 6 (4 * s + q) 1) 7 (4 * s + q) 0) j s q := by unfold spPart; rw [if_neg hS, hj]
    rw [e0] at fin
    refine r_iload_n (pc := 115) C dX6_takePart_115 rfl rfl ?_
    refine r_iconst (pc := 116) (v := (nI 1)) C dX6_takePart_116 (by decide) ?_
    refine n_iadd (pc := 117) C dX6_takePart_117 ?_
    refine r_aload_n (pc := 118) C dX6_takePart_118 rfl rfl ?_
    refine r_getIe (pc := 119) C fl_X6_91 E.L.o rfl (show _ = nI (tN t 0 0) from E.S) dX6_takePart_119 ?_
    refine n_icmp_ge (pc := 122) (tgt := 274) C (by omega) (by omega) dX6_takePart_122 (by decide) (fun c122 => ?_) (fun c122 => absurd c122 (by omega))
    rw [e0]
    exact fin _ _ E1 f1
