/-! ===== the reference: audit, the marks and the input ===== -/
section AU39
variable {G : GP} {F : FX} {m : Nat} {Q : State → Prop}
theorem win_l3 (C : CX G F mX6_wrongIn (Rm 0 0 0)) {t : TS} {h : AH} (E : RM m t h) (B : TB t) {j g k N : Nat} {Sm : Int64} (hj : j < 8) (hg : g + 1 < tN t 0 0) (hk : k < 16) (kk : ∀ x8 x9, WA G F mX6_wrongIn h 0 0 Q 185 [some (.ref m), some (.int (nI j)), some (.int (nI 0)), some (.int (nI g)), some (.int (nI k)), some (.int (nI N)), some (.long Sm), none, some (.int x8), x9] []) :
    ∀ (rest : List (Nat × Nat)) (i b : Nat) (s : Int64) (x9 : Option Value), (tK t j).drop i = rest → i ≤ (tK t j).length → b + kcK t g k rest = N → s + ksK t g k rest = Sm → WA G F mX6_wrongIn h 0 0 Q 71 [some (.ref m), some (.int (nI j)), some (.int (nI 0)), some (.int (nI g)), some (.int (nI k)), some (.int (nI b)), some (.long s), none, some (.int (nI i)), x9] [] := by
  have b0 := B.S
  have b1 := B.klen j
  have b2 := B.fed
  intro rest
  induction rest with
  | nil =>
    intro i b s x9 hd hi hb hs
    have hi2 : (tK t j).length ≤ i := List.drop_eq_nil_iff.mp hd
    rw [show kcK t g k [] = 0 from rfl, Nat.add_zero] at hb
    rw [show ksK t g k [] = 0 from rfl, Int64.add_zero] at hs
    subst hb
    subst hs
    refine r_iload (pc := 71) C dX6_wrongIn_71 rfl ?_
    refine r_aload_n (pc := 73) C dX6_wrongIn_73 rfl rfl ?_
    refine r_getR (pc := 74) C fl_X6_79 E.L.o rfl E.L.r27 dX6_wrongIn_74 ?_
    refine r_iload_n (pc := 77) C dX6_wrongIn_77 rfl rfl ?_
    refine n_iald (pc := 78) C E.L.s27 (by omega) (E.k_klen _ (by omega)) dX6_wrongIn_78 ?_
    refine n_icmp_ge (pc := 79) (tgt := 185) C (by omega) (by omega) dX6_wrongIn_79 (by decide) (fun c79 => ?_) (fun c79 => absurd c79 (by omega))
    exact kk _ _
  | cons r rs ih =>
    intro i b s x9 hd hi hb hs
    have hi2 : i < (tK t j).length := by
      rcases Nat.lt_or_ge i (tK t j).length with z | z
      · exact z
      · rw [List.drop_eq_nil_iff.mpr z] at hd; cases hd
    have hq? : (tK t j)[i]? = some r := by
      have e := congrArg List.head? hd
      rw [List.head?_drop] at e
      exact e
    have hgd : (tK t j).getD i (0, 0) = r := by rw [List.getD_eq_getElem?_getD, hq?]; rfl
    have hrs : (tK t j).drop (i + 1) = rs := by rw [← List.tail_drop, hd]; rfl
    have hrm := List.mem_of_getElem? hq?
    have hr := B.krow hrm
    have b5 := B.key r.2
    unfold kcK at hb
    unfold ksK at hs
    have w1 : (r.1 / 16 = g ∧ tN t 2 r.2 = k) → WA G F mX6_wrongIn h 0 0 Q 132 [some (.ref m), some (.int (nI j)), some (.int (nI 0)), some (.int (nI g)), some (.int (nI k)), some (.int (nI b)), some (.long s), none, some (.int (nI i)), some (.int (nI 1))] [] := by
      intro e
      rw [if_pos e] at hb hs
      refine r_iload (pc := 132) C dX6_wrongIn_132 rfl ?_
      refine r_iload (pc := 134) C dX6_wrongIn_134 rfl ?_
      refine n_if_eq (pc := 136) (tgt := 143) C (by omega) dX6_wrongIn_136 (by decide) (fun c136 => absurd c136 (by decide)) (fun c136 => ?_)
      refine r_iconst (pc := 139) (v := (nI 1)) C dX6_wrongIn_139 (by decide) ?_
      refine r_goto (pc := 140) (tgt := 144) C dX6_wrongIn_140 (by decide) ?_
      refine n_iadd (pc := 144) C dX6_wrongIn_144 ?_
      refine r_istore (pc := 145) (lv' := [_, _, _, _, _, _, _, _, _, _]) C dX6_wrongIn_145 (by decide) rfl rfl ?_
      refine r_lload (pc := 147) C dX6_wrongIn_147 rfl ?_
      refine r_iload (pc := 149) C dX6_wrongIn_149 rfl ?_
      refine n_if_eq (pc := 151) (tgt := 175) C (by omega) dX6_wrongIn_151 (by decide) (fun c151 => absurd c151 (by decide)) (fun c151 => ?_)
      refine r_aload_n (pc := 154) C dX6_wrongIn_154 rfl rfl ?_
      refine r_getR (pc := 155) C fl_X6_23 E.L.o rfl E.L.r7 dX6_wrongIn_155 ?_
      refine r_aload_n (pc := 158) C dX6_wrongIn_158 rfl rfl ?_
      refine r_getR (pc := 159) C fl_X6_85 E.L.o rfl E.L.r29 dX6_wrongIn_159 ?_
      refine r_sipush (pc := 162) (v := (nI 200)) C dX6_wrongIn_162 (by decide) ?_
      refine r_iload_n (pc := 165) C dX6_wrongIn_165 rfl rfl ?_
      refine n_imul (pc := 166) C dX6_wrongIn_166 ?_
      refine r_iload (pc := 167) C dX6_wrongIn_167 rfl ?_
      refine n_iadd (pc := 169) C dX6_wrongIn_169 ?_
      refine n_iald (pc := 170) C E.L.s29 (by omega) ((E.k_krow _ (by omega) _ (by omega)).trans (by rw [hgd])) dX6_wrongIn_170 ?_
      refine n_lald (pc := 171) C E.L.s7 (by omega) (E.k_val _ (by omega)) dX6_wrongIn_171 ?_
      refine r_goto (pc := 172) (tgt := 176) C dX6_wrongIn_172 (by decide) ?_
      refine r_ladd (pc := 176) C dX6_wrongIn_176 ?_
      refine r_lstore (pc := 177) (lv' := [_, _, _, _, _, _, _, _, _, _]) C dX6_wrongIn_177 (by decide) rfl rfl ?_
      refine n_iinc (pc := 179) (lv' := [_, _, _, _, _, _, _, _, _, _]) C dX6_wrongIn_179 rfl (by decide) rfl rfl ?_
      refine r_goto (pc := 182) (tgt := 71) C dX6_wrongIn_182 (by decide) ?_
      exact ih (i + 1) _ _ _ hrs (by omega) (by omega) (by rw [Int64.add_assoc]; exact hs)
    have w0 : ¬ (r.1 / 16 = g ∧ tN t 2 r.2 = k) → WA G F mX6_wrongIn h 0 0 Q 132 [some (.ref m), some (.int (nI j)), some (.int (nI 0)), some (.int (nI g)), some (.int (nI k)), some (.int (nI b)), some (.long s), none, some (.int (nI i)), some (.int (nI 0))] [] := by
      intro e
      rw [if_neg e] at hb hs
      refine r_iload (pc := 132) C dX6_wrongIn_132 rfl ?_
      refine r_iload (pc := 134) C dX6_wrongIn_134 rfl ?_
      refine n_if_eq (pc := 136) (tgt := 143) C (by omega) dX6_wrongIn_136 (by decide) (fun c136 => ?_) (fun c136 => absurd c136 (by decide))
      refine r_iconst (pc := 143) (v := (nI 0)) C dX6_wrongIn_143 (by decide) ?_
      refine n_iadd (pc := 144) C dX6_wrongIn_144 ?_
      refine r_istore (pc := 145) (lv' := [_, _, _, _, _, _, _, _, _, _]) C dX6_wrongIn_145 (by decide) rfl rfl ?_
      refine r_lload (pc := 147) C dX6_wrongIn_147 rfl ?_
      refine r_iload (pc := 149) C dX6_wrongIn_149 rfl ?_
      refine n_if_eq (pc := 151) (tgt := 175) C (by omega) dX6_wrongIn_151 (by decide) (fun c151 => ?_) (fun c151 => absurd c151 (by decide))
      refine r_lconst (pc := 175) (v := 0) C dX6_wrongIn_175 (by decide) ?_
      refine r_ladd (pc := 176) C dX6_wrongIn_176 ?_
      refine r_lstore (pc := 177) (lv' := [_, _, _, _, _, _, _, _, _, _]) C dX6_wrongIn_177 (by decide) rfl rfl ?_
      refine n_iinc (pc := 179) (lv' := [_, _, _, _, _, _, _, _, _, _]) C dX6_wrongIn_179 rfl (by decide) rfl rfl ?_
      refine r_goto (pc := 182) (tgt := 71) C dX6_wrongIn_182 (by decide) ?_
      exact ih (i + 1) _ _ _ hrs (by omega) (by omega) (by rw [Int64.add_assoc]; exact hs)
    refine r_iload (pc := 71) C dX6_wrongIn_71 rfl ?_
    refine r_aload_n (pc := 73) C dX6_wrongIn_73 rfl rfl ?_
    refine r_getR (pc := 74) C fl_X6_79 E.L.o rfl E.L.r27 dX6_wrongIn_74 ?_
    refine r_iload_n (pc := 77) C dX6_wrongIn_77 rfl rfl ?_
    refine n_iald (pc := 78) C E.L.s27 (by omega) (E.k_klen _ (by omega)) dX6_wrongIn_78 ?_
    refine n_icmp_ge (pc := 79) (tgt := 185) C (by omega) (by omega) dX6_wrongIn_79 (by decide) (fun c79 => absurd c79 (by omega)) (fun c79 => ?_)
    refine r_aload_n (pc := 82) C dX6_wrongIn_82 rfl rfl ?_
    refine r_getR (pc := 83) C fl_X6_82 E.L.o rfl E.L.r28 dX6_wrongIn_83 ?_
    refine r_sipush (pc := 86) (v := (nI 200)) C dX6_wrongIn_86 (by decide) ?_
    refine r_iload_n (pc := 89) C dX6_wrongIn_89 rfl rfl ?_
    refine n_imul (pc := 90) C dX6_wrongIn_90 ?_
    refine r_iload (pc := 91) C dX6_wrongIn_91 rfl ?_
    refine n_iadd (pc := 93) C dX6_wrongIn_93 ?_
    refine n_iald (pc := 94) C E.L.s28 (by omega) ((E.k_kch _ (by omega) _ (by omega)).trans (by rw [hgd])) dX6_wrongIn_94 ?_
    refine r_bipush (pc := 95) (v := (nI 16)) C dX6_wrongIn_95 (by decide) ?_
    refine n_idiv (pc := 97) C (by omega) (by omega) (by omega) dX6_wrongIn_97 ?_
    refine r_iload_n (pc := 98) C dX6_wrongIn_98 rfl rfl ?_
    refine n_icmp_ne (pc := 99) (tgt := 129) C (by omega) (by omega) dX6_wrongIn_99 (by decide) (fun c99 => ?_) (fun c99 => ?_)
    · refine r_iconst (pc := 129) (v := (nI 0)) C dX6_wrongIn_129 (by decide) ?_
      refine r_istore (pc := 130) (lv' := [_, _, _, _, _, _, _, _, _, _]) C dX6_wrongIn_130 (by decide) rfl rfl ?_
      exact w0 (fun z => c99 z.1)
    · refine r_aload_n (pc := 102) C dX6_wrongIn_102 rfl rfl ?_
      refine r_getR (pc := 103) C fl_X6_20 E.L.o rfl E.L.r6 dX6_wrongIn_103 ?_
      refine r_aload_n (pc := 106) C dX6_wrongIn_106 rfl rfl ?_
      refine r_getR (pc := 107) C fl_X6_85 E.L.o rfl E.L.r29 dX6_wrongIn_107 ?_
      refine r_sipush (pc := 110) (v := (nI 200)) C dX6_wrongIn_110 (by decide) ?_
      refine r_iload_n (pc := 113) C dX6_wrongIn_113 rfl rfl ?_
      refine n_imul (pc := 114) C dX6_wrongIn_114 ?_
      refine r_iload (pc := 115) C dX6_wrongIn_115 rfl ?_
      refine n_iadd (pc := 117) C dX6_wrongIn_117 ?_
      refine n_iald (pc := 118) C E.L.s29 (by omega) ((E.k_krow _ (by omega) _ (by omega)).trans (by rw [hgd])) dX6_wrongIn_118 ?_
      refine n_iald (pc := 119) C E.L.s6 (by omega) (E.k_key _ (by omega)) dX6_wrongIn_119 ?_
      refine r_iload (pc := 120) C dX6_wrongIn_120 rfl ?_
      refine n_icmp_ne (pc := 122) (tgt := 129) C (by omega) (by omega) dX6_wrongIn_122 (by decide) (fun c122 => ?_) (fun c122 => ?_)
      · refine r_iconst (pc := 129) (v := (nI 0)) C dX6_wrongIn_129 (by decide) ?_
        refine r_istore (pc := 130) (lv' := [_, _, _, _, _, _, _, _, _, _]) C dX6_wrongIn_130 (by decide) rfl rfl ?_
        exact w0 (fun z => c122 z.2)
      · refine r_iconst (pc := 125) (v := (nI 1)) C dX6_wrongIn_125 (by decide) ?_
        refine r_goto (pc := 126) (tgt := 130) C dX6_wrongIn_126 (by decide) ?_
        refine r_istore (pc := 130) (lv' := [_, _, _, _, _, _, _, _, _, _]) C dX6_wrongIn_130 (by decide) rfl rfl ?_
        exact w1 ⟨c99, c122⟩
theorem win_l2 (C : CX G F mX6_wrongIn (Rm 0 0 0)) {t : TS} {h : AH} (E : RM m t h) (B : TB t) (A : AO t) {j g : Nat} (hj : j < tN t 0 4) (h1 : tN t 9 j = 1) (hg : g + 1 < tN t 0 0) (kk : ∀ x4 x5 x6 x7 x8 x9, WA G F mX6_wrongIn h 0 0 Q 244 [some (.ref m), some (.int (nI j)), some (.int (nI 0)), some (.int (nI g)), some (.int x4), x5, x6, x7, x8, x9] []) :
    ∀ (n k : Nat) (x5 x6 x7 x8 x9 : Option Value), k + n = 16 → WA G F mX6_wrongIn h 0 0 Q 17 [some (.ref m), some (.int (nI j)), some (.int (nI 0)), some (.int (nI g)), some (.int (nI k)), x5, x6, x7, x8, x9] [] := by
  have b0 := B.S
  have b9 := B.marks
  intro n
  induction n with
  | zero =>
    intro k x5 x6 x7 x8 x9 hk
    refine r_iload (pc := 17) C dX6_wrongIn_17 rfl ?_
    refine r_bipush (pc := 19) (v := (nI 16)) C dX6_wrongIn_19 (by decide) ?_
    refine n_icmp_ge (pc := 21) (tgt := 244) C (by omega) (by omega) dX6_wrongIn_21 (by decide) (fun c21 => ?_) (fun c21 => absurd c21 (by omega))
    exact kk _ _ _ _ _ _
  | succ n ih =>
    intro k x5 x6 x7 x8 x9 hk
    have b1 := B.kmany (64 * j + 16 * g + k)
    obtain ⟨a1, a2⟩ := A.2.2.2 j hj h1 g hg k (by omega)
    refine r_iload (pc := 17) C dX6_wrongIn_17 rfl ?_
    refine r_bipush (pc := 19) (v := (nI 16)) C dX6_wrongIn_19 (by decide) ?_
    refine n_icmp_ge (pc := 21) (tgt := 244) C (by omega) (by omega) dX6_wrongIn_21 (by decide) (fun c21 => absurd c21 (by omega)) (fun c21 => ?_)
    refine r_aload_n (pc := 24) C dX6_wrongIn_24 rfl rfl ?_
    refine r_getR (pc := 25) C fl_X6_73 E.L.o rfl E.L.r25 dX6_wrongIn_25 ?_
    refine r_bipush (pc := 28) (v := (nI 64)) C dX6_wrongIn_28 (by decide) ?_
    refine r_iload_n (pc := 30) C dX6_wrongIn_30 rfl rfl ?_
    refine n_imul (pc := 31) C dX6_wrongIn_31 ?_
    refine r_bipush (pc := 32) (v := (nI 16)) C dX6_wrongIn_32 (by decide) ?_
    refine r_iload_n (pc := 34) C dX6_wrongIn_34 rfl rfl ?_
    refine n_imul (pc := 35) C dX6_wrongIn_35 ?_
    refine n_iadd (pc := 36) C dX6_wrongIn_36 ?_
    refine r_bipush (pc := 37) (v := (nI 16)) C dX6_wrongIn_37 (by decide) ?_
    refine n_iadd (pc := 39) C dX6_wrongIn_39 ?_
    refine r_iload (pc := 40) C dX6_wrongIn_40 rfl ?_
    refine n_iadd (pc := 42) C dX6_wrongIn_42 ?_
    refine n_iald (pc := 43) C E.L.s25 (by omega) (E.k_kmany _ (by omega)) dX6_wrongIn_43 ?_
    refine r_istore (pc := 44) (lv' := [_, _, _, _, _, _, _, _, _, _]) C dX6_wrongIn_44 (by decide) rfl rfl ?_
    refine r_aload_n (pc := 46) C dX6_wrongIn_46 rfl rfl ?_
    refine r_getR (pc := 47) C fl_X6_76 E.L.o rfl E.L.r26 dX6_wrongIn_47 ?_
    refine r_bipush (pc := 50) (v := (nI 64)) C dX6_wrongIn_50 (by decide) ?_
    refine r_iload_n (pc := 52) C dX6_wrongIn_52 rfl rfl ?_
    refine n_imul (pc := 53) C dX6_wrongIn_53 ?_
    refine r_bipush (pc := 54) (v := (nI 16)) C dX6_wrongIn_54 (by decide) ?_
    refine r_iload_n (pc := 56) C dX6_wrongIn_56 rfl rfl ?_
    refine n_imul (pc := 57) C dX6_wrongIn_57 ?_
    refine n_iadd (pc := 58) C dX6_wrongIn_58 ?_
    refine r_bipush (pc := 59) (v := (nI 16)) C dX6_wrongIn_59 (by decide) ?_
    refine n_iadd (pc := 61) C dX6_wrongIn_61 ?_
    refine r_iload (pc := 62) C dX6_wrongIn_62 rfl ?_
    refine n_iadd (pc := 64) C dX6_wrongIn_64 ?_
    refine n_lald (pc := 65) C E.L.s26 (by omega) (E.k_ksum _ (by omega)) dX6_wrongIn_65 ?_
    refine r_lstore (pc := 66) (lv' := [_, _, _, _, _, _, _, _, _, _]) C dX6_wrongIn_66 (by decide) rfl rfl ?_
    refine r_iconst (pc := 68) (v := (nI 0)) C dX6_wrongIn_68 (by decide) ?_
    refine r_istore (pc := 69) (lv' := [_, _, _, _, _, _, _, _, _, _]) C dX6_wrongIn_69 (by decide) rfl rfl ?_
    refine win_l3 C E B (j := j) (g := g) (k := k) (by omega) hg (by omega) (fun x8 x9 => ?_) (tK t j) 0 _ _ _ rfl (Nat.zero_le _) a1 a2
    refine r_iload_n (pc := 185) C dX6_wrongIn_185 rfl rfl ?_
    refine r_iload (pc := 186) C dX6_wrongIn_186 rfl ?_
    refine r_aload_n (pc := 188) C dX6_wrongIn_188 rfl rfl ?_
    refine r_getR (pc := 189) C fl_X6_73 E.L.o rfl E.L.r25 dX6_wrongIn_189 ?_
    refine r_bipush (pc := 192) (v := (nI 64)) C dX6_wrongIn_192 (by decide) ?_
    refine r_iload_n (pc := 194) C dX6_wrongIn_194 rfl rfl ?_
    refine n_imul (pc := 195) C dX6_wrongIn_195 ?_
    refine r_bipush (pc := 196) (v := (nI 16)) C dX6_wrongIn_196 (by decide) ?_
    refine r_iload_n (pc := 198) C dX6_wrongIn_198 rfl rfl ?_
    refine n_imul (pc := 199) C dX6_wrongIn_199 ?_
    refine n_iadd (pc := 200) C dX6_wrongIn_200 ?_
    refine r_iload (pc := 201) C dX6_wrongIn_201 rfl ?_
    refine n_iadd (pc := 203) C dX6_wrongIn_203 ?_
    refine n_iald (pc := 204) C E.L.s25 (by omega) (E.k_kmany _ (by omega)) dX6_wrongIn_204 ?_
    refine n_icmp_ne (pc := 205) (tgt := 231) C (by omega) (by omega) dX6_wrongIn_205 (by decide) (fun c205 => absurd c205 (fun z => z rfl)) (fun c205 => ?_)
    refine r_lload (pc := 208) C dX6_wrongIn_208 rfl ?_
    refine r_aload_n (pc := 210) C dX6_wrongIn_210 rfl rfl ?_
    refine r_getR (pc := 211) C fl_X6_76 E.L.o rfl E.L.r26 dX6_wrongIn_211 ?_
    refine r_bipush (pc := 214) (v := (nI 64)) C dX6_wrongIn_214 (by decide) ?_
    refine r_iload_n (pc := 216) C dX6_wrongIn_216 rfl rfl ?_
    refine n_imul (pc := 217) C dX6_wrongIn_217 ?_
    refine r_bipush (pc := 218) (v := (nI 16)) C dX6_wrongIn_218 (by decide) ?_
    refine r_iload_n (pc := 220) C dX6_wrongIn_220 rfl rfl ?_
    refine n_imul (pc := 221) C dX6_wrongIn_221 ?_
    refine n_iadd (pc := 222) C dX6_wrongIn_222 ?_
    refine r_iload (pc := 223) C dX6_wrongIn_223 rfl ?_
    refine n_iadd (pc := 225) C dX6_wrongIn_225 ?_
    refine n_lald (pc := 226) C E.L.s26 (by omega) (E.k_ksum _ (by omega)) dX6_wrongIn_226 ?_
    refine r_lcmp (pc := 227) C dX6_wrongIn_227 ?_
    refine r_if_eq (pc := 228) (tgt := 235) C dX6_wrongIn_228 (by decide) (fun c228 => ?_) (fun c228 => absurd c228 (fun z => z (lg_cmp0 rfl)))
    refine r_iconst (pc := 235) (v := (nI 0)) C dX6_wrongIn_235 (by decide) ?_
    refine n_iadd (pc := 236) C dX6_wrongIn_236 ?_
    refine r_istore_n (pc := 237) (lv' := [_, _, _, _, _, _, _, _, _, _]) C dX6_wrongIn_237 rfl (by decide) rfl rfl ?_
    refine n_iinc (pc := 238) (lv' := [_, _, _, _, _, _, _, _, _, _]) C dX6_wrongIn_238 rfl (by decide) rfl rfl ?_
    refine r_goto (pc := 241) (tgt := 17) C dX6_wrongIn_241 (by decide) ?_
    exact ih (k + 1) _ _ _ _ _ (by omega)
theorem win_l1 (C : CX G F mX6_wrongIn (Rm 0 0 0)) {t : TS} {h : AH} (E : RM m t h) (B : TB t) (A : AO t) {j : Nat} (hj : j < tN t 0 4) (h1 : tN t 9 j = 1) (kk : ∀ lv, lv[2]? = some (some (.int (nI 0))) → WA G F mX6_wrongIn h 0 0 Q 250 lv []) :
    ∀ (n g : Nat) (x4 x5 x6 x7 x8 x9 : Option Value), g + n + 1 = tN t 0 0 → WA G F mX6_wrongIn h 0 0 Q 4 [some (.ref m), some (.int (nI j)), some (.int (nI 0)), some (.int (nI g)), x4, x5, x6, x7, x8, x9] [] := by
  have b0 := B.S
  intro n
  induction n with
  | zero =>
    intro g x4 x5 x6 x7 x8 x9 hg
    refine r_iload_n (pc := 4) C dX6_wrongIn_4 rfl rfl ?_
    refine r_iconst (pc := 5) (v := (nI 1)) C dX6_wrongIn_5 (by decide) ?_
    refine n_iadd (pc := 6) C dX6_wrongIn_6 ?_
    refine r_aload_n (pc := 7) C dX6_wrongIn_7 rfl rfl ?_
    refine r_getIe (pc := 8) C fl_X6_91 E.L.o rfl E.S dX6_wrongIn_8 ?_
    refine n_icmp_ge (pc := 11) (tgt := 250) C (by omega) (by omega) dX6_wrongIn_11 (by decide) (fun c11 => ?_) (fun c11 => absurd c11 (by omega))
    exact kk _ rfl
  | succ n ih =>
    intro g x4 x5 x6 x7 x8 x9 hg
    refine r_iload_n (pc := 4) C dX6_wrongIn_4 rfl rfl ?_
    refine r_iconst (pc := 5) (v := (nI 1)) C dX6_wrongIn_5 (by decide) ?_
    refine n_iadd (pc := 6) C dX6_wrongIn_6 ?_
    refine r_aload_n (pc := 7) C dX6_wrongIn_7 rfl rfl ?_
    refine r_getIe (pc := 8) C fl_X6_91 E.L.o rfl E.S dX6_wrongIn_8 ?_
    refine n_icmp_ge (pc := 11) (tgt := 250) C (by omega) (by omega) dX6_wrongIn_11 (by decide) (fun c11 => absurd c11 (by omega)) (fun c11 => ?_)
    refine r_iconst (pc := 14) (v := (nI 0)) C dX6_wrongIn_14 (by decide) ?_
    refine r_istore (pc := 15) (lv' := [_, _, _, _, _, _, _, _, _, _]) C dX6_wrongIn_15 (by decide) rfl rfl ?_
    refine win_l2 C E B A hj h1 (by omega) (fun x4 x5 x6 x7 x8 x9 => ?_) 16 0 _ _ _ _ _ rfl
    refine n_iinc (pc := 244) (lv' := [_, _, _, _, _, _, _, _, _, _]) C dX6_wrongIn_244 rfl (by decide) rfl rfl ?_
    refine r_goto (pc := 247) (tgt := 4) C dX6_wrongIn_247 (by decide) ?_
    exact ih (g + 1) _ _ _ _ _ _ (by omega)
theorem wip_l2 (C : CX G F mX6_wrongInput (Rm 0 0 0)) {t : TS} {h : AH} (E : RM m t h) (B : TB t) {k : Nat} (hk : k < 16) (kk : ∀ x6 x7, WA G F mX6_wrongInput h 0 0 Q 95 [some (.ref m), some (.int (nI 0)), some (.int (nI k)), some (.int (nI (inpN t k (tN t 3 k) (tN t 0 3)))), some (.long (inpS t k (tN t 3 k) (tN t 0 3))), none, some (.int x6), x7] []) :
    ∀ (n i : Nat) (x7 : Option Value), i + n = tN t 0 3 → WA G F mX6_wrongInput h 0 0 Q 18 [some (.ref m), some (.int (nI 0)), some (.int (nI k)), some (.int (nI (inpN t k (tN t 3 k) i))), some (.long (inpS t k (tN t 3 k) i)), none, some (.int (nI i)), x7] [] := by
  have b0 := B.fed
  have b1 := B.many k
  intro n
  induction n with
  | zero =>
    intro i x7 hi
    obtain rfl : i = tN t 0 3 := by omega
    refine r_iload (pc := 18) C dX6_wrongInput_18 rfl ?_
    refine r_aload_n (pc := 20) C dX6_wrongInput_20 rfl rfl ?_
    refine r_getIe (pc := 21) C fl_X6_111 E.L.o rfl E.fed dX6_wrongInput_21 ?_
    refine n_icmp_ge (pc := 24) (tgt := 95) C (by omega) (by omega) dX6_wrongInput_24 (by decide) (fun c24 => ?_) (fun c24 => absurd c24 (by omega))
    exact kk _ _
  | succ n ih =>
    intro i x7 hi
    have b5 := B.key i
    have e1 : inpN t k (tN t 3 k) (i + 1) = inpN t k (tN t 3 k) i + (if tN t 2 i = k ∧ inpN t k (tN t 3 k) i < tN t 3 k then 1 else 0) := rfl
    have e2 : inpS t k (tN t 3 k) (i + 1) = inpS t k (tN t 3 k) i + (if tN t 2 i = k ∧ inpN t k (tN t 3 k) i < tN t 3 k then tL t 0 i else 0) := rfl
    have b6 : inpN t k (tN t 3 k) i ≤ i := by
      clear e1 e2 b5 ih hi
      induction i with
      | zero => exact Nat.le_refl 0
      | succ i ih => unfold inpN; split <;> omega
    have w1 : (tN t 2 i = k ∧ inpN t k (tN t 3 k) i < tN t 3 k) → WA G F mX6_wrongInput h 0 0 Q 55 [some (.ref m), some (.int (nI 0)), some (.int (nI k)), some (.int (nI (inpN t k (tN t 3 k) i))), some (.long (inpS t k (tN t 3 k) i)), none, some (.int (nI i)), some (.int (nI 1))] [] := by
      intro e
      rw [if_pos e] at e1 e2
      have w := ih (i + 1) (some (.int (nI 1))) (by omega)
      rw [e1, e2] at w
      refine r_iload_n (pc := 55) C dX6_wrongInput_55 rfl rfl ?_
      refine r_iload (pc := 56) C dX6_wrongInput_56 rfl ?_
      refine n_if_eq (pc := 58) (tgt := 65) C (by omega) dX6_wrongInput_58 (by decide) (fun c58 => absurd c58 (by decide)) (fun c58 => ?_)
      refine r_iconst (pc := 61) (v := (nI 1)) C dX6_wrongInput_61 (by decide) ?_
      refine r_goto (pc := 62) (tgt := 66) C dX6_wrongInput_62 (by decide) ?_
      refine n_iadd (pc := 66) C dX6_wrongInput_66 ?_
      refine r_istore_n (pc := 67) (lv' := [_, _, _, _, _, _, _, _]) C dX6_wrongInput_67 rfl (by decide) rfl rfl ?_
      refine r_lload (pc := 68) C dX6_wrongInput_68 rfl ?_
      refine r_iload (pc := 70) C dX6_wrongInput_70 rfl ?_
      refine n_if_eq (pc := 72) (tgt := 85) C (by omega) dX6_wrongInput_72 (by decide) (fun c72 => absurd c72 (by decide)) (fun c72 => ?_)
      refine r_aload_n (pc := 75) C dX6_wrongInput_75 rfl rfl ?_
      refine r_getR (pc := 76) C fl_X6_23 E.L.o rfl E.L.r7 dX6_wrongInput_76 ?_
      refine r_iload (pc := 79) C dX6_wrongInput_79 rfl ?_
      refine n_lald (pc := 81) C E.L.s7 (by omega) (E.k_val _ (by omega)) dX6_wrongInput_81 ?_
      refine r_goto (pc := 82) (tgt := 86) C dX6_wrongInput_82 (by decide) ?_
      refine r_ladd (pc := 86) C dX6_wrongInput_86 ?_
      refine r_lstore (pc := 87) (lv' := [_, _, _, _, _, _, _, _]) C dX6_wrongInput_87 (by decide) rfl rfl ?_
      refine n_iinc (pc := 89) (lv' := [_, _, _, _, _, _, _, _]) C dX6_wrongInput_89 rfl (by decide) rfl rfl ?_
      refine r_goto (pc := 92) (tgt := 18) C dX6_wrongInput_92 (by decide) ?_
      exact w
    have w0 : ¬ (tN t 2 i = k ∧ inpN t k (tN t 3 k) i < tN t 3 k) → WA G F mX6_wrongInput h 0 0 Q 55 [some (.ref m), some (.int (nI 0)), some (.int (nI k)), some (.int (nI (inpN t k (tN t 3 k) i))), some (.long (inpS t k (tN t 3 k) i)), none, some (.int (nI i)), some (.int (nI 0))] [] := by
      intro e
      rw [if_neg e] at e1 e2
      have w := ih (i + 1) (some (.int (nI 0))) (by omega)
      rw [e1, e2] at w
      refine r_iload_n (pc := 55) C dX6_wrongInput_55 rfl rfl ?_
      refine r_iload (pc := 56) C dX6_wrongInput_56 rfl ?_
      refine n_if_eq (pc := 58) (tgt := 65) C (by omega) dX6_wrongInput_58 (by decide) (fun c58 => ?_) (fun c58 => absurd c58 (by decide))
      refine r_iconst (pc := 65) (v := (nI 0)) C dX6_wrongInput_65 (by decide) ?_
      refine n_iadd (pc := 66) C dX6_wrongInput_66 ?_
      refine r_istore_n (pc := 67) (lv' := [_, _, _, _, _, _, _, _]) C dX6_wrongInput_67 rfl (by decide) rfl rfl ?_
      refine r_lload (pc := 68) C dX6_wrongInput_68 rfl ?_
      refine r_iload (pc := 70) C dX6_wrongInput_70 rfl ?_
      refine n_if_eq (pc := 72) (tgt := 85) C (by omega) dX6_wrongInput_72 (by decide) (fun c72 => ?_) (fun c72 => absurd c72 (by decide))
      refine r_lconst (pc := 85) (v := 0) C dX6_wrongInput_85 (by decide) ?_
      refine r_ladd (pc := 86) C dX6_wrongInput_86 ?_
      refine r_lstore (pc := 87) (lv' := [_, _, _, _, _, _, _, _]) C dX6_wrongInput_87 (by decide) rfl rfl ?_
      refine n_iinc (pc := 89) (lv' := [_, _, _, _, _, _, _, _]) C dX6_wrongInput_89 rfl (by decide) rfl rfl ?_
      refine r_goto (pc := 92) (tgt := 18) C dX6_wrongInput_92 (by decide) ?_
      exact w
    refine r_iload (pc := 18) C dX6_wrongInput_18 rfl ?_
    refine r_aload_n (pc := 20) C dX6_wrongInput_20 rfl rfl ?_
    refine r_getIe (pc := 21) C fl_X6_111 E.L.o rfl E.fed dX6_wrongInput_21 ?_
    refine n_icmp_ge (pc := 24) (tgt := 95) C (by omega) (by omega) dX6_wrongInput_24 (by decide) (fun c24 => absurd c24 (by omega)) (fun c24 => ?_)
    refine r_aload_n (pc := 27) C dX6_wrongInput_27 rfl rfl ?_
    refine r_getR (pc := 28) C fl_X6_20 E.L.o rfl E.L.r6 dX6_wrongInput_28 ?_
    refine r_iload (pc := 31) C dX6_wrongInput_31 rfl ?_
    refine n_iald (pc := 33) C E.L.s6 (by omega) (E.k_key _ (by omega)) dX6_wrongInput_33 ?_
    refine r_iload_n (pc := 34) C dX6_wrongInput_34 rfl rfl ?_
    refine n_icmp_ne (pc := 35) (tgt := 52) C (by omega) (by omega) dX6_wrongInput_35 (by decide) (fun c35 => ?_) (fun c35 => ?_)
    · refine r_iconst (pc := 52) (v := (nI 0)) C dX6_wrongInput_52 (by decide) ?_
      refine r_istore (pc := 53) (lv' := [_, _, _, _, _, _, _, _]) C dX6_wrongInput_53 (by decide) rfl rfl ?_
      exact w0 (fun z => c35 z.1)
    · refine r_iload_n (pc := 38) C dX6_wrongInput_38 rfl rfl ?_
      refine r_aload_n (pc := 39) C dX6_wrongInput_39 rfl rfl ?_
      refine r_getR (pc := 40) C fl_X6_27 E.L.o rfl E.L.r8 dX6_wrongInput_40 ?_
      refine r_iload_n (pc := 43) C dX6_wrongInput_43 rfl rfl ?_
      refine n_iald (pc := 44) C E.L.s8 (by omega) (E.k_many _ (by omega)) dX6_wrongInput_44 ?_
      refine n_icmp_ge (pc := 45) (tgt := 52) C (by omega) (by omega) dX6_wrongInput_45 (by decide) (fun c45 => ?_) (fun c45 => ?_)
      · refine r_iconst (pc := 52) (v := (nI 0)) C dX6_wrongInput_52 (by decide) ?_
        refine r_istore (pc := 53) (lv' := [_, _, _, _, _, _, _, _]) C dX6_wrongInput_53 (by decide) rfl rfl ?_
        exact w0 (fun z => by omega)
      · refine r_iconst (pc := 48) (v := (nI 1)) C dX6_wrongInput_48 (by decide) ?_
        refine r_goto (pc := 49) (tgt := 53) C dX6_wrongInput_49 (by decide) ?_
        refine r_istore (pc := 53) (lv' := [_, _, _, _, _, _, _, _]) C dX6_wrongInput_53 (by decide) rfl rfl ?_
        exact w1 ⟨c35, by omega⟩
theorem wip_l1 (C : CX G F mX6_wrongInput (Rm 0 0 0)) {t : TS} {h : AH} (E : RM m t h) (B : TB t) (A : AO t) (kk : ∀ lv, lv[1]? = some (some (.int (nI 0))) → WA G F mX6_wrongInput h 0 0 Q 131 lv []) :
    ∀ (n k : Nat) (x3 x4 x5 x6 x7 : Option Value), k + n = 16 → WA G F mX6_wrongInput h 0 0 Q 4 [some (.ref m), some (.int (nI 0)), some (.int (nI k)), x3, x4, x5, x6, x7] [] := by
  have b0 := B.fed
  intro n
  induction n with
  | zero =>
    intro k x3 x4 x5 x6 x7 hk
    refine r_iload_n (pc := 4) C dX6_wrongInput_4 rfl rfl ?_
    refine r_bipush (pc := 5) (v := (nI 16)) C dX6_wrongInput_5 (by decide) ?_
    refine n_icmp_ge (pc := 7) (tgt := 131) C (by omega) (by omega) dX6_wrongInput_7 (by decide) (fun c7 => ?_) (fun c7 => absurd c7 (by omega))
    exact kk _ rfl
  | succ n ih =>
    intro k x3 x4 x5 x6 x7 hk
    have b1 := B.many k
    obtain ⟨a1, a2⟩ := A.2.2.1 k (by omega)
    refine r_iload_n (pc := 4) C dX6_wrongInput_4 rfl rfl ?_
    refine r_bipush (pc := 5) (v := (nI 16)) C dX6_wrongInput_5 (by decide) ?_
    refine n_icmp_ge (pc := 7) (tgt := 131) C (by omega) (by omega) dX6_wrongInput_7 (by decide) (fun c7 => absurd c7 (by omega)) (fun c7 => ?_)
    refine r_iconst (pc := 10) (v := (nI 0)) C dX6_wrongInput_10 (by decide) ?_
    refine r_istore_n (pc := 11) (lv' := [_, _, _, _, _, _, _, _]) C dX6_wrongInput_11 rfl (by decide) rfl rfl ?_
    refine r_lconst (pc := 12) (v := 0) C dX6_wrongInput_12 (by decide) ?_
    refine r_lstore (pc := 13) (lv' := [_, _, _, _, _, _, _, _]) C dX6_wrongInput_13 (by decide) rfl rfl ?_
    refine r_iconst (pc := 15) (v := (nI 0)) C dX6_wrongInput_15 (by decide) ?_
    refine r_istore (pc := 16) (lv' := [_, _, _, _, _, _, _, _]) C dX6_wrongInput_16 (by decide) rfl rfl ?_
    refine wip_l2 C E B (k := k) (by omega) (fun x6 x7 => ?_) (tN t 0 3) 0 _ (Nat.zero_add _)
    refine r_iload_n (pc := 95) C dX6_wrongInput_95 rfl rfl ?_
    refine r_iload_n (pc := 96) C dX6_wrongInput_96 rfl rfl ?_
    refine r_aload_n (pc := 97) C dX6_wrongInput_97 rfl rfl ?_
    refine r_getR (pc := 98) C fl_X6_27 E.L.o rfl E.L.r8 dX6_wrongInput_98 ?_
    refine r_iload_n (pc := 101) C dX6_wrongInput_101 rfl rfl ?_
    refine n_iald (pc := 102) C E.L.s8 (by omega) (E.k_many _ (by omega)) dX6_wrongInput_102 ?_
    refine n_icmp_ne (pc := 103) (tgt := 118) C (by omega) (by omega) dX6_wrongInput_103 (by decide) (fun c103 => absurd c103 (fun z => z a1)) (fun c103 => ?_)
    refine r_lload (pc := 106) C dX6_wrongInput_106 rfl ?_
    refine r_aload_n (pc := 108) C dX6_wrongInput_108 rfl rfl ?_
    refine r_getR (pc := 109) C fl_X6_30 E.L.o rfl E.L.r9 dX6_wrongInput_109 ?_
    refine r_iload_n (pc := 112) C dX6_wrongInput_112 rfl rfl ?_
    refine n_lald (pc := 113) C E.L.s9 (by omega) (E.k_sum _ (by omega)) dX6_wrongInput_113 ?_
    refine r_lcmp (pc := 114) C dX6_wrongInput_114 ?_
    refine r_if_eq (pc := 115) (tgt := 122) C dX6_wrongInput_115 (by decide) (fun c115 => ?_) (fun c115 => absurd c115 (fun z => z (lg_cmp0 a2)))
    refine r_iconst (pc := 122) (v := (nI 0)) C dX6_wrongInput_122 (by decide) ?_
    refine n_iadd (pc := 123) C dX6_wrongInput_123 ?_
    refine r_istore_n (pc := 124) (lv' := [_, _, _, _, _, _, _, _]) C dX6_wrongInput_124 rfl (by decide) rfl rfl ?_
    refine n_iinc (pc := 125) (lv' := [_, _, _, _, _, _, _, _]) C dX6_wrongInput_125 rfl (by decide) rfl rfl ?_
    refine r_goto (pc := 128) (tgt := 4) C dX6_wrongInput_128 (by decide) ?_
    exact ih (k + 1) _ _ _ _ _ (by omega)
end AU39
theorem c_X6_wrongIn {G : GP} {m : Nat} {t : TS} {h : AH} (E : RM m t h) (B : TB t) (A : AO t) {j : Nat} (hj : j < tN t 0 4) (h1 : tN t 9 j = 1) : MA G mX6_wrongIn 0 0 0 [.ref m, .int (nI j)] h (Oi (fun v h' => v = nI 0 ∧ h' = h)) := by
  have b0 := B.S
  refine MA.intro (lv := [some (.ref m), some (.int (nI j)), none, none, none, none, none, none, none, none]) (by decide) (Nat.le_of_ble_eq_true rfl) rfl (fun F C => ?_)
  refine r_iconst (pc := 0) (v := (nI 0)) C dX6_wrongIn_0 (by decide) ?_
  refine r_istore_n (pc := 1) (lv' := [_, _, _, _, _, _, _, _, _, _]) C dX6_wrongIn_1 rfl (by decide) rfl rfl ?_
  refine r_iconst (pc := 2) (v := (nI 0)) C dX6_wrongIn_2 (by decide) ?_
  refine r_istore_n (pc := 3) (lv' := [_, _, _, _, _, _, _, _, _, _]) C dX6_wrongIn_3 rfl (by decide) rfl rfl ?_
  refine win_l1 C E B A hj h1 (fun lv hlv => ?_) (tN t 0 0 - 1) 0 _ _ _ _ _ _ (by omega)
  refine r_iload_n (pc := 250) C dX6_wrongIn_250 rfl hlv ?_
  exact r_iret (pc := 251) C rfl (Nat.le_of_ble_eq_true rfl) (Nat.le_of_ble_eq_true rfl) ⟨_, rfl, ⟨rfl, rfl⟩⟩ dX6_wrongIn_251
theorem c_X6_wrongInput {G : GP} {m : Nat} {t : TS} {h : AH} (E : RM m t h) (B : TB t) (A : AO t) : MA G mX6_wrongInput 0 0 0 [.ref m] h (Oi (fun v h' => v = nI 0 ∧ h' = h)) := by
  refine MA.intro (lv := [some (.ref m), none, none, none, none, none, none, none]) (by decide) (Nat.le_of_ble_eq_true rfl) rfl (fun F C => ?_)
  refine r_iconst (pc := 0) (v := (nI 0)) C dX6_wrongInput_0 (by decide) ?_
  refine r_istore_n (pc := 1) (lv' := [_, _, _, _, _, _, _, _]) C dX6_wrongInput_1 rfl (by decide) rfl rfl ?_
  refine r_iconst (pc := 2) (v := (nI 0)) C dX6_wrongInput_2 (by decide) ?_
  refine r_istore_n (pc := 3) (lv' := [_, _, _, _, _, _, _, _]) C dX6_wrongInput_3 rfl (by decide) rfl rfl ?_
  refine wip_l1 C E B A (fun lv hlv => ?_) 16 0 _ _ _ _ _ rfl
  refine r_iload_n (pc := 131) C dX6_wrongInput_131 rfl hlv ?_
  exact r_iret (pc := 132) C rfl (Nat.le_of_ble_eq_true rfl) (Nat.le_of_ble_eq_true rfl) ⟨_, rfl, ⟨rfl, rfl⟩⟩ dX6_wrongInput_132
theorem aud_l {G : GP} {F : FX} {m : Nat} {Q : State → Prop} (C : CX G F mX6_audit (Rm 2 0 0)) {t : TS} {h : AH} (E : RM m t h) (B : TB t) (A : AO t) (kk : ∀ x2, WA G F mX6_audit h 0 0 Q 48 [some (.ref m), some (.int (nI 0)), some (.int x2)] []) :
    ∀ (n j : Nat), j + n = tN t 0 4 → WA G F mX6_audit h 0 0 Q 12 [some (.ref m), some (.int (nI 0)), some (.int (nI j))] [] := by
  have b0 := B.marks
  intro n
  induction n with
  | zero =>
    intro j hj
    refine r_iload_n (pc := 12) C dX6_audit_12 rfl rfl ?_
    refine r_aload_n (pc := 13) C dX6_audit_13 rfl rfl ?_
    refine r_getIe (pc := 14) C fl_X6_105 E.L.o rfl E.marks dX6_audit_14 ?_
    refine n_icmp_ge (pc := 17) (tgt := 48) C (by omega) (by omega) dX6_audit_17 (by decide) (fun c17 => ?_) (fun c17 => absurd c17 (by omega))
    exact kk _
  | succ n ih =>
    intro j hj
    have b1 := B.stat j
    refine r_iload_n (pc := 12) C dX6_audit_12 rfl rfl ?_
    refine r_aload_n (pc := 13) C dX6_audit_13 rfl rfl ?_
    refine r_getIe (pc := 14) C fl_X6_105 E.L.o rfl E.marks dX6_audit_14 ?_
    refine n_icmp_ge (pc := 17) (tgt := 48) C (by omega) (by omega) dX6_audit_17 (by decide) (fun c17 => absurd c17 (by omega)) (fun c17 => ?_)
    refine r_iload_n (pc := 20) C dX6_audit_20 rfl rfl ?_
    refine r_aload_n (pc := 21) C dX6_audit_21 rfl rfl ?_
    refine r_getR (pc := 22) C fl_X6_61 E.L.o rfl E.L.r21 dX6_audit_22 ?_
    refine r_iload_n (pc := 25) C dX6_audit_25 rfl rfl ?_
    refine n_iald (pc := 26) C E.L.s21 (by omega) (E.k_stat _ (by omega)) dX6_audit_26 ?_
    refine r_iconst (pc := 27) (v := (nI 1)) C dX6_audit_27 (by decide) ?_
    refine n_icmp_ne (pc := 28) (tgt := 39) C (by omega) (by omega) dX6_audit_28 (by decide) (fun c28 => ?_) (fun c28 => ?_)
    · refine r_iconst (pc := 39) (v := (nI 0)) C dX6_audit_39 (by decide) ?_
      refine n_iadd (pc := 40) C dX6_audit_40 ?_
      refine r_istore_n (pc := 41) (lv' := [_, _, _]) C dX6_audit_41 rfl (by decide) rfl rfl ?_
      refine n_iinc (pc := 42) (lv' := [_, _, _]) C dX6_audit_42 rfl (by decide) rfl rfl ?_
      refine r_goto (pc := 45) (tgt := 12) C dX6_audit_45 (by decide) ?_
      exact ih (j + 1) (by omega)
    · refine r_aload_n (pc := 31) C dX6_audit_31 rfl rfl ?_
      refine r_iload_n (pc := 32) C dX6_audit_32 rfl rfl ?_
      refine r_calli (cr_V (pc := 33) C (c_X6_wrongIn E B A (j := j) (by omega) c28) dX6_audit_33 cm_X6_wrongIn ml_X6_193 im_X6_wrongIn se_X6_wrongIn E.L.o rfl ⟨⟨Nat.le_of_ble_eq_true rfl, Nat.le_of_ble_eq_true rfl⟩, Nat.le_of_ble_eq_true rfl, Nat.le_of_ble_eq_true rfl⟩ rfl rfl (Nat.le_of_ble_eq_true rfl)) (fun v33 h33 hq33 => ?_)
      obtain ⟨rfl, rfl⟩ := hq33
      refine r_goto (pc := 36) (tgt := 40) C dX6_audit_36 (by decide) ?_
      refine n_iadd (pc := 40) C dX6_audit_40 ?_
      refine r_istore_n (pc := 41) (lv' := [_, _, _]) C dX6_audit_41 rfl (by decide) rfl rfl ?_
      refine n_iinc (pc := 42) (lv' := [_, _, _]) C dX6_audit_42 rfl (by decide) rfl rfl ?_
      refine r_goto (pc := 45) (tgt := 12) C dX6_audit_45 (by decide) ?_
      exact ih (j + 1) (by omega)
theorem c_X6_audit {G : GP} {m : Nat} {t : TS} {h : AH} (E : RM m t h) (B : TB t) (A : AO t) : MA G mX6_audit 2 0 0 [.ref m] h (Oi (fun v h' => v = nI 0 ∧ h' = h)) := by
  refine MA.intro (lv := [some (.ref m), none, none]) (by decide) (Nat.le_of_ble_eq_true rfl) rfl (fun F C => ?_)
  refine r_aload_n (pc := 0) C dX6_audit_0 rfl rfl ?_
  refine r_calli (cr_V (pc := 1) C (c_X6_wrongNow E B A) dX6_audit_1 cm_X6_wrongNow ml_X6_187 im_X6_wrongNow se_X6_wrongNow E.L.o rfl ⟨⟨Nat.le_of_ble_eq_true rfl, Nat.le_of_ble_eq_true rfl⟩, Nat.le_of_ble_eq_true rfl, Nat.le_of_ble_eq_true rfl⟩ rfl rfl (Nat.le_of_ble_eq_true rfl)) (fun v1 h1 hq1 => ?_)
  obtain ⟨rfl, rfl⟩ := hq1
  refine r_aload_n (pc := 4) C dX6_audit_4 rfl rfl ?_
  refine r_calli (cr_V (pc := 5) C (c_X6_wrongInput E B A) dX6_audit_5 cm_X6_wrongInput ml_X6_190 im_X6_wrongInput se_X6_wrongInput E.L.o rfl ⟨⟨Nat.le_of_ble_eq_true rfl, Nat.le_of_ble_eq_true rfl⟩, Nat.le_of_ble_eq_true rfl, Nat.le_of_ble_eq_true rfl⟩ rfl rfl (Nat.le_of_ble_eq_true rfl)) (fun v5 h5 hq5 => ?_)
  obtain ⟨rfl, rfl⟩ := hq5
  refine n_iadd (pc := 8) C dX6_audit_8 ?_
  refine r_istore_n (pc := 9) (lv' := [_, _, _]) C dX6_audit_9 rfl (by decide) rfl rfl ?_
  refine r_iconst (pc := 10) (v := (nI 0)) C dX6_audit_10 (by decide) ?_
  refine r_istore_n (pc := 11) (lv' := [_, _, _]) C dX6_audit_11 rfl (by decide) rfl rfl ?_
  refine aud_l C E B A (fun x2 => ?_) (tN t 0 4) 0 (Nat.zero_add _)
  refine r_iload_n (pc := 48) C dX6_audit_48 rfl rfl ?_
  exact r_iret (pc := 49) C rfl (Nat.le_of_ble_eq_true rfl) (Nat.le_of_ble_eq_true rfl) ⟨_, rfl, ⟨rfl, rfl⟩⟩ dX6_audit_49
