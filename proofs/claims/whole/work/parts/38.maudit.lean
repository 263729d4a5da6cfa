/-! ===== the reference: audit ===== -/
theorem lg_cmp0 {x y : Int64} (h : x = y) : lg_cmp x y = 0 := by
  subst h
  unfold lg_cmp
  have : ¬ x < x := Int64.lt_irrefl
  simp [this]
/-- rows of KEY k in a list, and the sum of their VALUES -/
def kcN (t : TS) (k : Nat) : List Nat → Nat
  | [] => 0
  | r :: l => (if tN t 2 r = k then 1 else 0) + kcN t k l
def ksN (t : TS) (k : Nat) : List Nat → Int64
  | [] => 0
  | r :: l => (if tN t 2 r = k then tL t 0 r else 0) + ksN t k l
theorem kcN_app {t : TS} {k : Nat} : ∀ (a b : List Nat), kcN t k (a ++ b) = kcN t k a + kcN t k b
  | [], b => by simp [kcN]
  | r :: a, b => by
    have := kcN_app (t := t) (k := k) a b
    simp only [List.cons_append, kcN, this]
    omega
theorem ksN_app {t : TS} {k : Nat} : ∀ (a b : List Nat), ksN t k (a ++ b) = ksN t k a + ksN t k b
  | [], b => by simp [ksN]
  | r :: a, b => by
    have := ksN_app (t := t) (k := k) a b
    simp only [List.cons_append, ksN, this, Int64.add_assoc]
/-- the rows of a gap's first n channels -/
def gl_ (t : TS) (g : Nat) : Nat → List Nat
  | 0 => []
  | n + 1 => gl_ t g n ++ tC t (16 * g + n)
def kcK (t : TS) (g k : Nat) : List (Nat × Nat) → Nat
  | [] => 0
  | q :: l => (if q.1 / 16 = g ∧ tN t 2 q.2 = k then 1 else 0) + kcK t g k l
def ksK (t : TS) (g k : Nat) : List (Nat × Nat) → Int64
  | [] => 0
  | q :: l => (if q.1 / 16 = g ∧ tN t 2 q.2 = k then tL t 0 q.2 else 0) + ksK t g k l
/-- of the first n INPUT rows those of KEY k, up to M of them, and their sum -/
def inpN (t : TS) (k M : Nat) : Nat → Nat
  | 0 => 0
  | n + 1 => inpN t k M n + (if tN t 2 n = k ∧ inpN t k M n < M then 1 else 0)
def inpS (t : TS) (k M : Nat) : Nat → Int64
  | 0 => 0
  | n + 1 => inpS t k M n + (if tN t 2 n = k ∧ inpN t k M n < M then tL t 0 n else 0)
/-- nothing is wrong -/
def AO (t : TS) : Prop :=
  (∀ g, g + 1 < tN t 0 0 → ∀ k, k < 16 → tN t 3 (16 * g + 16 + k) + kcN t k (gl_ t g 16) = tN t 3 (16 * g + k) ∧ tL t 1 (16 * g + 16 + k) + ksN t k (gl_ t g 16) = tL t 1 (16 * g + k)) ∧
  (∀ g, g + 1 < tN t 0 0 → ∀ x, x < 16 → ∀ r, r ∈ tC t (16 * g + x) → 16 * g + x = 16 * g + 4 * (tN t 2 r % tN t 1 g) + tN t 2 r % tN t 1 (g + 1)) ∧
  (∀ k, k < 16 → inpN t k (tN t 3 k) (tN t 0 3) = tN t 3 k ∧ inpS t k (tN t 3 k) (tN t 0 3) = tL t 1 k) ∧
  ∀ j, j < tN t 0 4 → tN t 9 j = 1 → ∀ g, g + 1 < tN t 0 0 → ∀ k, k < 16 → tN t 11 (64 * j + 16 * g + 16 + k) + kcK t g k (tK t j) = tN t 11 (64 * j + 16 * g + k) ∧ tL t 2 (64 * j + 16 * g + 16 + k) + ksK t g k (tK t j) = tL t 2 (64 * j + 16 * g + k)
section AU38
variable {G : GP} {F : FX} {m : Nat} {Q : State → Prop}
/-- a channel's rows -/
theorem now_l4 (C : CX G F mX6_wrongNow (Rm 1 0 0)) {t : TS} {h : AH} (E : RM m t h) (B : TB t) {g k c N : Nat} {Sm : Int64} (hg : g + 1 < tN t 0 0) (hk : k < 16) (hc : c < 48) (hst : ∀ r, r ∈ tC t c → c = 16 * g + 4 * (tN t 2 r % tN t 1 g) + tN t 2 r % tN t 1 (g + 1)) (kk : ∀ x8 x9, WA G F mX6_wrongNow h 0 0 Q 211 [some (.ref m), some (.int (nI 0)), some (.int (nI g)), some (.int (nI k)), some (.int (nI N)), some (.long Sm), none, some (.int (nI c)), some (.int x8), x9] []) :
    ∀ (rest : List Nat) (i b : Nat) (s : Int64) (x9 : Option Value), (tC t c).drop i = rest → i ≤ (tC t c).length → b + kcN t k rest = N → s + ksN t k rest = Sm → WA G F mX6_wrongNow h 0 0 Q 75 [some (.ref m), some (.int (nI 0)), some (.int (nI g)), some (.int (nI k)), some (.int (nI b)), some (.long s), none, some (.int (nI c)), some (.int (nI i)), x9] [] := by
  have b0 := B.S
  have b1 := B.len c
  have b2 := B.fed
  have b3 := B.P (s := g) (by omega)
  have b4 := B.P (s := g + 1) (by omega)
  intro rest
  induction rest with
  | nil =>
    intro i b s x9 hd hi hb hs
    have hi2 : (tC t c).length ≤ i := List.drop_eq_nil_iff.mp hd
    rw [show kcN t k [] = 0 from rfl, Nat.add_zero] at hb
    rw [show ksN t k [] = 0 from rfl, Int64.add_zero] at hs
    subst hb
    subst hs
    refine r_iload (pc := 75) C dX6_wrongNow_75 rfl ?_
    refine r_aload_n (pc := 77) C dX6_wrongNow_77 rfl rfl ?_
    refine r_getR (pc := 78) C fl_X6_36 E.L.o rfl E.L.r11 dX6_wrongNow_78 ?_
    refine r_iload (pc := 81) C dX6_wrongNow_81 rfl ?_
    refine n_iald (pc := 83) C E.L.s11 (by omega) (E.k_held _ (by omega)) dX6_wrongNow_83 ?_
    refine n_icmp_ge (pc := 84) (tgt := 211) C (by omega) (by omega) dX6_wrongNow_84 (by decide) (fun c84 => ?_) (fun c84 => absurd c84 (by omega))
    exact kk _ _
  | cons r rs ih =>
    intro i b s x9 hd hi hb hs
    have hi2 : i < (tC t c).length := by
      rcases Nat.lt_or_ge i (tC t c).length with z | z
      · exact z
      · rw [List.drop_eq_nil_iff.mpr z] at hd; cases hd
    have hq? : (tC t c)[i]? = some r := by
      have e := congrArg List.head? hd
      rw [List.head?_drop] at e
      exact e
    have hgd : (tC t c).getD i 0 = r := by rw [List.getD_eq_getElem?_getD, hq?]; rfl
    have hrs : (tC t c).drop (i + 1) = rs := by rw [← List.tail_drop, hd]; rfl
    have hrm := List.mem_of_getElem? hq?
    have hr := B.row hrm
    have b5 := B.key r
    unfold kcN at hb
    unfold ksN at hs
    have w1 : tN t 2 r = k → WA G F mX6_wrongNow h 0 0 Q 117 [some (.ref m), some (.int (nI 0)), some (.int (nI g)), some (.int (nI k)), some (.int (nI b)), some (.long s), none, some (.int (nI c)), some (.int (nI i)), some (.int (nI 1))] [] := by
      intro e
      rw [if_pos e] at hb hs
      have ha := hst r hrm
      rw [e] at ha
      refine r_iload (pc := 117) C dX6_wrongNow_117 rfl ?_
      refine r_iload (pc := 119) C dX6_wrongNow_119 rfl ?_
      refine n_if_eq (pc := 121) (tgt := 128) C (by omega) dX6_wrongNow_121 (by decide) (fun c121 => absurd c121 (by decide)) (fun c121 => ?_)
      refine r_iconst (pc := 124) (v := (nI 1)) C dX6_wrongNow_124 (by decide) ?_
      refine r_goto (pc := 125) (tgt := 129) C dX6_wrongNow_125 (by decide) ?_
      refine n_iadd (pc := 129) C dX6_wrongNow_129 ?_
      refine r_istore (pc := 130) (lv' := [_, _, _, _, _, _, _, _, _, _]) C dX6_wrongNow_130 (by decide) rfl rfl ?_
      refine r_lload (pc := 132) C dX6_wrongNow_132 rfl ?_
      refine r_iload (pc := 134) C dX6_wrongNow_134 rfl ?_
      refine n_if_eq (pc := 136) (tgt := 161) C (by omega) dX6_wrongNow_136 (by decide) (fun c136 => absurd c136 (by decide)) (fun c136 => ?_)
      refine r_aload_n (pc := 139) C dX6_wrongNow_139 rfl rfl ?_
      refine r_getR (pc := 140) C fl_X6_23 E.L.o rfl E.L.r7 dX6_wrongNow_140 ?_
      refine r_aload_n (pc := 143) C dX6_wrongNow_143 rfl rfl ?_
      refine r_getR (pc := 144) C fl_X6_33 E.L.o rfl E.L.r10 dX6_wrongNow_144 ?_
      refine r_sipush (pc := 147) (v := (nI 200)) C dX6_wrongNow_147 (by decide) ?_
      refine r_iload (pc := 150) C dX6_wrongNow_150 rfl ?_
      refine n_imul (pc := 152) C dX6_wrongNow_152 ?_
      refine r_iload (pc := 153) C dX6_wrongNow_153 rfl ?_
      refine n_iadd (pc := 155) C dX6_wrongNow_155 ?_
      refine n_iald (pc := 156) C E.L.s10 (by omega) ((E.k_rows _ (by omega) _ (by omega)).trans (by rw [hgd])) dX6_wrongNow_156 ?_
      refine n_lald (pc := 157) C E.L.s7 (by omega) (E.k_val _ (by omega)) dX6_wrongNow_157 ?_
      refine r_goto (pc := 158) (tgt := 162) C dX6_wrongNow_158 (by decide) ?_
      refine r_ladd (pc := 162) C dX6_wrongNow_162 ?_
      refine r_lstore (pc := 163) (lv' := [_, _, _, _, _, _, _, _, _, _]) C dX6_wrongNow_163 (by decide) rfl rfl ?_
      refine r_iload_n (pc := 165) C dX6_wrongNow_165 rfl rfl ?_
      refine r_iload (pc := 166) C dX6_wrongNow_166 rfl ?_
      refine n_if_eq (pc := 168) (tgt := 202) C (by omega) dX6_wrongNow_168 (by decide) (fun c168 => absurd c168 (by decide)) (fun c168 => ?_)
      refine r_iload (pc := 171) C dX6_wrongNow_171 rfl ?_
      refine r_iload_n (pc := 173) C dX6_wrongNow_173 rfl rfl ?_
      refine r_iload_n (pc := 174) C dX6_wrongNow_174 rfl rfl ?_
      refine r_aload_n (pc := 175) C dX6_wrongNow_175 rfl rfl ?_
      refine r_getR (pc := 176) C fl_X6_7 E.L.o rfl E.L.r1 dX6_wrongNow_176 ?_
      refine r_iload_n (pc := 179) C dX6_wrongNow_179 rfl rfl ?_
      refine n_iald (pc := 180) C E.L.s1 (by omega) (E.k_P _ (by omega)) dX6_wrongNow_180 ?_
      refine n_irem (pc := 181) C (by omega) (by omega) (by omega) dX6_wrongNow_181 ?_
      refine r_iload_n (pc := 182) C dX6_wrongNow_182 rfl rfl ?_
      refine r_aload_n (pc := 183) C dX6_wrongNow_183 rfl rfl ?_
      refine r_getR (pc := 184) C fl_X6_7 E.L.o rfl E.L.r1 dX6_wrongNow_184 ?_
      refine r_iload_n (pc := 187) C dX6_wrongNow_187 rfl rfl ?_
      refine r_iconst (pc := 188) (v := (nI 1)) C dX6_wrongNow_188 (by decide) ?_
      refine n_iadd (pc := 189) C dX6_wrongNow_189 ?_
      refine n_iald (pc := 190) C E.L.s1 (by omega) (E.k_P _ (by omega)) dX6_wrongNow_190 ?_
      refine n_irem (pc := 191) C (by omega) (by omega) (by omega) dX6_wrongNow_191 ?_
      refine r_calli (cr_S (pc := 192) C (c_X6_at _ _ _ _) dX6_wrongNow_192 cm_X6_at ml_X6_118 st_X6_at ⟨⟨Nat.le_of_ble_eq_true rfl, Nat.le_of_ble_eq_true rfl⟩, Nat.le_of_ble_eq_true rfl, Nat.le_of_ble_eq_true rfl⟩ rfl rfl (Nat.le_of_ble_eq_true rfl)) (fun v192 h192 hq192 => ?_)
      obtain ⟨rfl, rfl⟩ := hq192
      rw [← ha]
      refine n_icmp_eq (pc := 195) (tgt := 202) C (by omega) (by omega) dX6_wrongNow_195 (by decide) (fun c195 => ?_) (fun c195 => absurd c195 (fun z => z rfl))
      refine r_iconst (pc := 202) (v := (nI 0)) C dX6_wrongNow_202 (by decide) ?_
      refine n_iadd (pc := 203) C dX6_wrongNow_203 ?_
      refine r_istore_n (pc := 204) (lv' := [_, _, _, _, _, _, _, _, _, _]) C dX6_wrongNow_204 rfl (by decide) rfl rfl ?_
      refine n_iinc (pc := 205) (lv' := [_, _, _, _, _, _, _, _, _, _]) C dX6_wrongNow_205 rfl (by decide) rfl rfl ?_
      refine r_goto (pc := 208) (tgt := 75) C dX6_wrongNow_208 (by decide) ?_
      exact ih (i + 1) _ _ _ hrs (by omega) (by omega) (by rw [Int64.add_assoc]; exact hs)
    have w0 : tN t 2 r ≠ k → WA G F mX6_wrongNow h 0 0 Q 117 [some (.ref m), some (.int (nI 0)), some (.int (nI g)), some (.int (nI k)), some (.int (nI b)), some (.long s), none, some (.int (nI c)), some (.int (nI i)), some (.int (nI 0))] [] := by
      intro e
      rw [if_neg e] at hb hs
      refine r_iload (pc := 117) C dX6_wrongNow_117 rfl ?_
      refine r_iload (pc := 119) C dX6_wrongNow_119 rfl ?_
      refine n_if_eq (pc := 121) (tgt := 128) C (by omega) dX6_wrongNow_121 (by decide) (fun c121 => ?_) (fun c121 => absurd c121 (by decide))
      refine r_iconst (pc := 128) (v := (nI 0)) C dX6_wrongNow_128 (by decide) ?_
      refine n_iadd (pc := 129) C dX6_wrongNow_129 ?_
      refine r_istore (pc := 130) (lv' := [_, _, _, _, _, _, _, _, _, _]) C dX6_wrongNow_130 (by decide) rfl rfl ?_
      refine r_lload (pc := 132) C dX6_wrongNow_132 rfl ?_
      refine r_iload (pc := 134) C dX6_wrongNow_134 rfl ?_
      refine n_if_eq (pc := 136) (tgt := 161) C (by omega) dX6_wrongNow_136 (by decide) (fun c136 => ?_) (fun c136 => absurd c136 (by decide))
      refine r_lconst (pc := 161) (v := 0) C dX6_wrongNow_161 (by decide) ?_
      refine r_ladd (pc := 162) C dX6_wrongNow_162 ?_
      refine r_lstore (pc := 163) (lv' := [_, _, _, _, _, _, _, _, _, _]) C dX6_wrongNow_163 (by decide) rfl rfl ?_
      refine r_iload_n (pc := 165) C dX6_wrongNow_165 rfl rfl ?_
      refine r_iload (pc := 166) C dX6_wrongNow_166 rfl ?_
      refine n_if_eq (pc := 168) (tgt := 202) C (by omega) dX6_wrongNow_168 (by decide) (fun c168 => ?_) (fun c168 => absurd c168 (by decide))
      refine r_iconst (pc := 202) (v := (nI 0)) C dX6_wrongNow_202 (by decide) ?_
      refine n_iadd (pc := 203) C dX6_wrongNow_203 ?_
      refine r_istore_n (pc := 204) (lv' := [_, _, _, _, _, _, _, _, _, _]) C dX6_wrongNow_204 rfl (by decide) rfl rfl ?_
      refine n_iinc (pc := 205) (lv' := [_, _, _, _, _, _, _, _, _, _]) C dX6_wrongNow_205 rfl (by decide) rfl rfl ?_
      refine r_goto (pc := 208) (tgt := 75) C dX6_wrongNow_208 (by decide) ?_
      exact ih (i + 1) _ _ _ hrs (by omega) (by omega) (by rw [Int64.add_assoc]; exact hs)
    refine r_iload (pc := 75) C dX6_wrongNow_75 rfl ?_
    refine r_aload_n (pc := 77) C dX6_wrongNow_77 rfl rfl ?_
    refine r_getR (pc := 78) C fl_X6_36 E.L.o rfl E.L.r11 dX6_wrongNow_78 ?_
    refine r_iload (pc := 81) C dX6_wrongNow_81 rfl ?_
    refine n_iald (pc := 83) C E.L.s11 (by omega) (E.k_held _ (by omega)) dX6_wrongNow_83 ?_
    refine n_icmp_ge (pc := 84) (tgt := 211) C (by omega) (by omega) dX6_wrongNow_84 (by decide) (fun c84 => absurd c84 (by omega)) (fun c84 => ?_)
    refine r_aload_n (pc := 87) C dX6_wrongNow_87 rfl rfl ?_
    refine r_getR (pc := 88) C fl_X6_20 E.L.o rfl E.L.r6 dX6_wrongNow_88 ?_
    refine r_aload_n (pc := 91) C dX6_wrongNow_91 rfl rfl ?_
    refine r_getR (pc := 92) C fl_X6_33 E.L.o rfl E.L.r10 dX6_wrongNow_92 ?_
    refine r_sipush (pc := 95) (v := (nI 200)) C dX6_wrongNow_95 (by decide) ?_
    refine r_iload (pc := 98) C dX6_wrongNow_98 rfl ?_
    refine n_imul (pc := 100) C dX6_wrongNow_100 ?_
    refine r_iload (pc := 101) C dX6_wrongNow_101 rfl ?_
    refine n_iadd (pc := 103) C dX6_wrongNow_103 ?_
    refine n_iald (pc := 104) C E.L.s10 (by omega) ((E.k_rows _ (by omega) _ (by omega)).trans (by rw [hgd])) dX6_wrongNow_104 ?_
    refine n_iald (pc := 105) C E.L.s6 (by omega) (E.k_key _ (by omega)) dX6_wrongNow_105 ?_
    refine r_iload_n (pc := 106) C dX6_wrongNow_106 rfl rfl ?_
    refine n_icmp_ne (pc := 107) (tgt := 114) C (by omega) (by omega) dX6_wrongNow_107 (by decide) (fun c107 => ?_) (fun c107 => ?_)
    · refine r_iconst (pc := 114) (v := (nI 0)) C dX6_wrongNow_114 (by decide) ?_
      refine r_istore (pc := 115) (lv' := [_, _, _, _, _, _, _, _, _, _]) C dX6_wrongNow_115 (by decide) rfl rfl ?_
      exact w0 c107
    · refine r_iconst (pc := 110) (v := (nI 1)) C dX6_wrongNow_110 (by decide) ?_
      refine r_goto (pc := 111) (tgt := 115) C dX6_wrongNow_111 (by decide) ?_
      refine r_istore (pc := 115) (lv' := [_, _, _, _, _, _, _, _, _, _]) C dX6_wrongNow_115 (by decide) rfl rfl ?_
      exact w1 c107
/-- a gap's channels -/
theorem now_l3 (C : CX G F mX6_wrongNow (Rm 1 0 0)) {t : TS} {h : AH} (E : RM m t h) (B : TB t) (A : AO t) {g k : Nat} (hg : g + 1 < tN t 0 0) (hk : k < 16) (kk : ∀ x7 x8 x9, WA G F mX6_wrongNow h 0 0 Q 217 [some (.ref m), some (.int (nI 0)), some (.int (nI g)), some (.int (nI k)), some (.int (nI (tN t 3 (16 * g + k)))), some (.long (tL t 1 (16 * g + k))), none, some (.int x7), x8, x9] []) :
    ∀ (n x b : Nat) (s : Int64) (x8 x9 : Option Value), x + n = 16 → b = tN t 3 (16 * g + 16 + k) + kcN t k (gl_ t g x) → s = tL t 1 (16 * g + 16 + k) + ksN t k (gl_ t g x) → WA G F mX6_wrongNow h 0 0 Q 60 [some (.ref m), some (.int (nI 0)), some (.int (nI g)), some (.int (nI k)), some (.int (nI b)), some (.long s), none, some (.int (nI (16 * g + x))), x8, x9] [] := by
  have b0 := B.S
  intro n
  induction n with
  | zero =>
    intro x b s x8 x9 hx hb hs
    obtain rfl : x = 16 := by omega
    rw [(A.1 g hg k hk).1] at hb
    rw [(A.1 g hg k hk).2] at hs
    subst hb
    subst hs
    refine r_iload (pc := 60) C dX6_wrongNow_60 rfl ?_
    refine r_bipush (pc := 62) (v := (nI 16)) C dX6_wrongNow_62 (by decide) ?_
    refine r_iload_n (pc := 64) C dX6_wrongNow_64 rfl rfl ?_
    refine n_imul (pc := 65) C dX6_wrongNow_65 ?_
    refine r_bipush (pc := 66) (v := (nI 16)) C dX6_wrongNow_66 (by decide) ?_
    refine n_iadd (pc := 68) C dX6_wrongNow_68 ?_
    refine n_icmp_ge (pc := 69) (tgt := 217) C (by omega) (by omega) dX6_wrongNow_69 (by decide) (fun c69 => ?_) (fun c69 => absurd c69 (by omega))
    exact kk _ _ _
  | succ n ih =>
    intro x b s x8 x9 hx hb hs
    refine r_iload (pc := 60) C dX6_wrongNow_60 rfl ?_
    refine r_bipush (pc := 62) (v := (nI 16)) C dX6_wrongNow_62 (by decide) ?_
    refine r_iload_n (pc := 64) C dX6_wrongNow_64 rfl rfl ?_
    refine n_imul (pc := 65) C dX6_wrongNow_65 ?_
    refine r_bipush (pc := 66) (v := (nI 16)) C dX6_wrongNow_66 (by decide) ?_
    refine n_iadd (pc := 68) C dX6_wrongNow_68 ?_
    refine n_icmp_ge (pc := 69) (tgt := 217) C (by omega) (by omega) dX6_wrongNow_69 (by decide) (fun c69 => absurd c69 (by omega)) (fun c69 => ?_)
    refine r_iconst (pc := 72) (v := (nI 0)) C dX6_wrongNow_72 (by decide) ?_
    refine r_istore (pc := 73) (lv' := [_, _, _, _, _, _, _, _, _, _]) C dX6_wrongNow_73 (by decide) rfl rfl ?_
    refine now_l4 C E B hg hk (by omega) (A.2.1 g hg x (by omega)) (fun x8 x9 => ?_) (tC t (16 * g + x)) 0 b s _ rfl (Nat.zero_le _) rfl rfl
    refine n_iinc (pc := 211) (lv' := [_, _, _, _, _, _, _, _, _, _]) C dX6_wrongNow_211 rfl (by decide) rfl rfl ?_
    refine r_goto (pc := 214) (tgt := 60) C dX6_wrongNow_214 (by decide) ?_
    exact ih (x + 1) _ _ _ _ (by omega) (by unfold gl_; rw [kcN_app, hb]; omega) (by unfold gl_; rw [ksN_app, hs, Int64.add_assoc])
theorem now_l2 (C : CX G F mX6_wrongNow (Rm 1 0 0)) {t : TS} {h : AH} (E : RM m t h) (B : TB t) (A : AO t) {g : Nat} (hg : g + 1 < tN t 0 0) (kk : ∀ x3 x4 x5 x6 x7 x8 x9, lvok [some (.ref m), some (.int (nI 0)), some (.int (nI g))] 2 = true → WA G F mX6_wrongNow h 0 0 Q 264 [some (.ref m), some (.int (nI 0)), some (.int (nI g)), some (.int x3), x4, x5, x6, x7, x8, x9] []) :
    ∀ (n k : Nat) (x4 x5 x6 x7 x8 x9 : Option Value), (∀ v, x6 = some v → v.category = 1) → k + n = 16 → WA G F mX6_wrongNow h 0 0 Q 16 [some (.ref m), some (.int (nI 0)), some (.int (nI g)), some (.int (nI k)), x4, x5, x6, x7, x8, x9] [] := by
  have b0 := B.S
  intro n
  induction n with
  | zero =>
    intro k x4 x5 x6 x7 x8 x9 h6 hk
    refine r_iload_n (pc := 16) C dX6_wrongNow_16 rfl rfl ?_
    refine r_bipush (pc := 17) (v := (nI 16)) C dX6_wrongNow_17 (by decide) ?_
    refine n_icmp_ge (pc := 19) (tgt := 264) C (by omega) (by omega) dX6_wrongNow_19 (by decide) (fun c19 => ?_) (fun c19 => absurd c19 (by omega))
    exact kk _ _ _ _ _ _ _ rfl
  | succ n ih =>
    intro k x4 x5 x6 x7 x8 x9 h6 hk
    have b1 := B.many (16 * g + k)
    refine r_iload_n (pc := 16) C dX6_wrongNow_16 rfl rfl ?_
    refine r_bipush (pc := 17) (v := (nI 16)) C dX6_wrongNow_17 (by decide) ?_
    refine n_icmp_ge (pc := 19) (tgt := 264) C (by omega) (by omega) dX6_wrongNow_19 (by decide) (fun c19 => absurd c19 (by omega)) (fun c19 => ?_)
    refine r_aload_n (pc := 22) C dX6_wrongNow_22 rfl rfl ?_
    refine r_getR (pc := 23) C fl_X6_27 E.L.o rfl E.L.r8 dX6_wrongNow_23 ?_
    refine r_bipush (pc := 26) (v := (nI 16)) C dX6_wrongNow_26 (by decide) ?_
    refine r_iload_n (pc := 28) C dX6_wrongNow_28 rfl rfl ?_
    refine n_imul (pc := 29) C dX6_wrongNow_29 ?_
    refine r_bipush (pc := 30) (v := (nI 16)) C dX6_wrongNow_30 (by decide) ?_
    refine n_iadd (pc := 32) C dX6_wrongNow_32 ?_
    refine r_iload_n (pc := 33) C dX6_wrongNow_33 rfl rfl ?_
    refine n_iadd (pc := 34) C dX6_wrongNow_34 ?_
    refine n_iald (pc := 35) C E.L.s8 (by omega) (E.k_many _ (by omega)) dX6_wrongNow_35 ?_
    refine r_istore (pc := 36) (lv' := [_, _, _, _, _, _, _, _, _, _]) C dX6_wrongNow_36 (by decide) rfl rfl ?_
    refine r_aload_n (pc := 38) C dX6_wrongNow_38 rfl rfl ?_
    refine r_getR (pc := 39) C fl_X6_30 E.L.o rfl E.L.r9 dX6_wrongNow_39 ?_
    refine r_bipush (pc := 42) (v := (nI 16)) C dX6_wrongNow_42 (by decide) ?_
    refine r_iload_n (pc := 44) C dX6_wrongNow_44 rfl rfl ?_
    refine n_imul (pc := 45) C dX6_wrongNow_45 ?_
    refine r_bipush (pc := 46) (v := (nI 16)) C dX6_wrongNow_46 (by decide) ?_
    refine n_iadd (pc := 48) C dX6_wrongNow_48 ?_
    refine r_iload_n (pc := 49) C dX6_wrongNow_49 rfl rfl ?_
    refine n_iadd (pc := 50) C dX6_wrongNow_50 ?_
    refine n_lald (pc := 51) C E.L.s9 (by omega) (E.k_sum _ (by omega)) dX6_wrongNow_51 ?_
    refine r_lstore (pc := 52) (lv' := [_, _, _, _, _, _, _, _, _, _]) C dX6_wrongNow_52 (by decide) rfl rfl ?_
    refine r_bipush (pc := 54) (v := (nI 16)) C dX6_wrongNow_54 (by decide) ?_
    refine r_iload_n (pc := 56) C dX6_wrongNow_56 rfl rfl ?_
    refine n_imul (pc := 57) C dX6_wrongNow_57 ?_
    refine r_istore (pc := 58) (lv' := [_, _, _, _, _, _, _, _, _, _]) C dX6_wrongNow_58 (by decide) rfl rfl ?_
    refine now_l3 C E B A hg (k := k) (by omega) (fun x7 x8 x9 => ?_) 16 0 _ _ _ _ rfl rfl (Int64.add_zero _).symm
    refine r_iload_n (pc := 217) C dX6_wrongNow_217 rfl rfl ?_
    refine r_iload (pc := 218) C dX6_wrongNow_218 rfl ?_
    refine r_aload_n (pc := 220) C dX6_wrongNow_220 rfl rfl ?_
    refine r_getR (pc := 221) C fl_X6_27 E.L.o rfl E.L.r8 dX6_wrongNow_221 ?_
    refine r_bipush (pc := 224) (v := (nI 16)) C dX6_wrongNow_224 (by decide) ?_
    refine r_iload_n (pc := 226) C dX6_wrongNow_226 rfl rfl ?_
    refine n_imul (pc := 227) C dX6_wrongNow_227 ?_
    refine r_iload_n (pc := 228) C dX6_wrongNow_228 rfl rfl ?_
    refine n_iadd (pc := 229) C dX6_wrongNow_229 ?_
    refine n_iald (pc := 230) C E.L.s8 (by omega) (E.k_many _ (by omega)) dX6_wrongNow_230 ?_
    refine n_icmp_ne (pc := 231) (tgt := 251) C (by omega) (by omega) dX6_wrongNow_231 (by decide) (fun c231 => absurd c231 (fun z => z rfl)) (fun c231 => ?_)
    refine r_lload (pc := 234) C dX6_wrongNow_234 rfl ?_
    refine r_aload_n (pc := 236) C dX6_wrongNow_236 rfl rfl ?_
    refine r_getR (pc := 237) C fl_X6_30 E.L.o rfl E.L.r9 dX6_wrongNow_237 ?_
    refine r_bipush (pc := 240) (v := (nI 16)) C dX6_wrongNow_240 (by decide) ?_
    refine r_iload_n (pc := 242) C dX6_wrongNow_242 rfl rfl ?_
    refine n_imul (pc := 243) C dX6_wrongNow_243 ?_
    refine r_iload_n (pc := 244) C dX6_wrongNow_244 rfl rfl ?_
    refine n_iadd (pc := 245) C dX6_wrongNow_245 ?_
    refine n_lald (pc := 246) C E.L.s9 (by omega) (E.k_sum _ (by omega)) dX6_wrongNow_246 ?_
    refine r_lcmp (pc := 247) C dX6_wrongNow_247 ?_
    refine r_if_eq (pc := 248) (tgt := 255) C dX6_wrongNow_248 (by decide) (fun c248 => ?_) (fun c248 => absurd c248 (fun z => z (lg_cmp0 rfl)))
    refine r_iconst (pc := 255) (v := (nI 0)) C dX6_wrongNow_255 (by decide) ?_
    refine n_iadd (pc := 256) C dX6_wrongNow_256 ?_
    refine r_istore_n (pc := 257) (lv' := [_, _, _, _, _, _, _, _, _, _]) C dX6_wrongNow_257 rfl (by decide) rfl rfl ?_
    refine n_iinc (pc := 258) (lv' := [_, _, _, _, _, _, _, _, _, _]) C dX6_wrongNow_258 rfl (by decide) rfl rfl ?_
    refine r_goto (pc := 261) (tgt := 16) C dX6_wrongNow_261 (by decide) ?_
    exact ih (k + 1) _ _ _ _ _ _ (fun v hv => by cases hv) (by omega)
theorem now_l1 (C : CX G F mX6_wrongNow (Rm 1 0 0)) {t : TS} {h : AH} (E : RM m t h) (B : TB t) (A : AO t) (kk : ∀ lv, lv[1]? = some (some (.int (nI 0))) → WA G F mX6_wrongNow h 0 0 Q 270 lv []) :
    ∀ (n g : Nat) (x3 x4 x5 x6 x7 x8 x9 : Option Value), (∀ v, x6 = some v → v.category = 1) → g + n + 1 = tN t 0 0 → WA G F mX6_wrongNow h 0 0 Q 4 [some (.ref m), some (.int (nI 0)), some (.int (nI g)), x3, x4, x5, x6, x7, x8, x9] [] := by
  have b0 := B.S
  intro n
  induction n with
  | zero =>
    intro g x3 x4 x5 x6 x7 x8 x9 h6 hg
    refine r_iload_n (pc := 4) C dX6_wrongNow_4 rfl rfl ?_
    refine r_iconst (pc := 5) (v := (nI 1)) C dX6_wrongNow_5 (by decide) ?_
    refine n_iadd (pc := 6) C dX6_wrongNow_6 ?_
    refine r_aload_n (pc := 7) C dX6_wrongNow_7 rfl rfl ?_
    refine r_getIe (pc := 8) C fl_X6_91 E.L.o rfl E.S dX6_wrongNow_8 ?_
    refine n_icmp_ge (pc := 11) (tgt := 270) C (by omega) (by omega) dX6_wrongNow_11 (by decide) (fun c11 => ?_) (fun c11 => absurd c11 (by omega))
    exact kk _ rfl
  | succ n ih =>
    intro g x3 x4 x5 x6 x7 x8 x9 h6 hg
    refine r_iload_n (pc := 4) C dX6_wrongNow_4 rfl rfl ?_
    refine r_iconst (pc := 5) (v := (nI 1)) C dX6_wrongNow_5 (by decide) ?_
    refine n_iadd (pc := 6) C dX6_wrongNow_6 ?_
    refine r_aload_n (pc := 7) C dX6_wrongNow_7 rfl rfl ?_
    refine r_getIe (pc := 8) C fl_X6_91 E.L.o rfl E.S dX6_wrongNow_8 ?_
    refine n_icmp_ge (pc := 11) (tgt := 270) C (by omega) (by omega) dX6_wrongNow_11 (by decide) (fun c11 => absurd c11 (by omega)) (fun c11 => ?_)
    refine r_iconst (pc := 14) (v := (nI 0)) C dX6_wrongNow_14 (by decide) ?_
    refine r_istore_n (pc := 15) (lv' := [_, _, _, _, _, _, _, _, _, _]) C dX6_wrongNow_15 rfl (by decide) rfl rfl ?_
    refine now_l2 C E B A (by omega) (fun x3 x4 x5 x6 x7 x8 x9 _ => ?_) 16 0 _ _ _ _ _ _ h6 rfl
    refine n_iinc (pc := 264) (lv' := [_, _, _, _, _, _, _, _, _, _]) C dX6_wrongNow_264 rfl (by decide) rfl rfl ?_
    refine r_goto (pc := 267) (tgt := 4) C dX6_wrongNow_267 (by decide) ?_
    refine WA.less (lv' := [some (.ref m), some (.int (nI 0)), some (.int (nI (g + 1))), some (.int x3), none, none, none, none, none, none]) ?_ (ih (g + 1) _ _ _ _ _ _ _ (fun v hv => by cases hv) (by omega))
    simp [lvle]
end AU38
theorem c_X6_wrongNow {G : GP} {m : Nat} {t : TS} {h : AH} (E : RM m t h) (B : TB t) (A : AO t) : MA G mX6_wrongNow 1 0 0 [.ref m] h (Oi (fun v h' => v = nI 0 ∧ h' = h)) := by
  have b0 := B.S
  refine MA.intro (lv := [some (.ref m), none, none, none, none, none, none, none, none, none]) (by decide) (Nat.le_of_ble_eq_true rfl) rfl (fun F C => ?_)
  refine r_iconst (pc := 0) (v := (nI 0)) C dX6_wrongNow_0 (by decide) ?_
  refine r_istore_n (pc := 1) (lv' := [_, _, _, _, _, _, _, _, _, _]) C dX6_wrongNow_1 rfl (by decide) rfl rfl ?_
  refine r_iconst (pc := 2) (v := (nI 0)) C dX6_wrongNow_2 (by decide) ?_
  refine r_istore_n (pc := 3) (lv' := [_, _, _, _, _, _, _, _, _, _]) C dX6_wrongNow_3 rfl (by decide) rfl rfl ?_
  refine now_l1 C E B A (fun lv hlv => ?_) (tN t 0 0 - 1) 0 _ _ _ _ _ _ _ (fun v hv => by cases hv) (by omega)
  refine r_iload_n (pc := 270) C dX6_wrongNow_270 rfl hlv ?_
  exact r_iret (pc := 271) C rfl (Nat.le_of_ble_eq_true rfl) (Nat.le_of_ble_eq_true rfl) ⟨_, rfl, ⟨rfl, rfl⟩⟩ dX6_wrongNow_271
