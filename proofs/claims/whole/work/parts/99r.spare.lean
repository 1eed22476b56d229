/-! sparing: the least form that stands all alone -/
def Aln (u : CW) (k n : Nat) (c : Int32) : Prop := (∀ t, k ≤ t → t < k + n → ¬ rAt u 49 (nI t) = 0) ∧ ∃ t, k ≤ t ∧ t < k + n ∧ rAt u 40 (nI t) = c
def Mn (Q : Nat → Prop) (b : Int32) : Prop := (b = -nI 5 ∧ ∀ r, ¬ Q r) ∨ ∃ r, r ≤ 999999 ∧ b = nI r ∧ Q r ∧ ∀ r', Q r' → r ≤ r'
def ls3 (b x : Int32) : Int32 := if b = -nI 5 then x else if x < b then x else b
theorem m5n {r : Nat} (h : r < 2 ^ 31) : ¬ nI r = -nI 5 := fun z => by
  have := congrArg Int32.toInt z
  rw [nI_toInt h, show (-nI 5).toInt = -5 from rfl] at this
  omega
theorem Mn.uq {Q : Nat → Prop} {a b : Int32} (h : Mn Q a) (g : Mn Q b) : a = b := by
  rcases h with ⟨h1, h2⟩ | ⟨r, h1, h2, h3, h4⟩ <;> rcases g with ⟨g1, g2⟩ | ⟨s, g1, g2, g3, g4⟩
  · rw [h1, g1]
  · exact absurd g3 (h2 s)
  · exact absurd h3 (g2 r)
  · have := h4 s g3
    have := g4 r h3
    rw [h2, g2, show r = s from by omega]
theorem Mn.cg {Q R : Nat → Prop} {a : Int32} (h : Mn Q a) (e : ∀ r, Q r ↔ R r) : Mn R a := by
  rw [← show Q = R from funext fun r => propext (e r)]; exact h
theorem Mn.add {Q : Nat → Prop} {b : Int32} (h : Mn Q b) {r : Nat} (hr : r ≤ 999999) : Mn (fun q => Q q ∨ q = r) (ls3 b (nI r)) := by
  unfold ls3
  rcases h with ⟨h1, h2⟩ | ⟨s, h1, h2, h3, h4⟩
  · rw [if_pos h1]
    refine .inr ⟨r, hr, rfl, .inr rfl, fun q hq => ?_⟩
    rcases hq with hq | hq
    · exact absurd hq (h2 q)
    · omega
  · subst h2
    rw [if_neg (m5n (by omega))]
    by_cases c : r < s
    · rw [if_pos (show nI r < nI s from of_eq_true (by simp (disch := omega) only [↓nmk_e, ↓reduceIte, Option.bind_some, Option.map_some, lit, ofN, nI_add, pk_sub, pk_mul, nI_clamp, nI_leI, nI_ltI, nI_eq, pk_div, nI_an, nleT, nleF, nltT, nltF, neqT, neqF, or_false, false_or, or_self, or_true, true_or, and_self, and_true, true_and, and_false, false_and, not_true_eq_false, not_false_eq_true, c]))]
      refine .inr ⟨r, hr, rfl, .inr rfl, fun q hq => ?_⟩
      rcases hq with hq | hq
      · have := h4 q hq; omega
      · omega
    · rw [if_neg (show ¬ nI r < nI s from of_eq_true (by simp (disch := omega) only [↓nmk_e, ↓reduceIte, Option.bind_some, Option.map_some, lit, ofN, nI_add, pk_sub, pk_mul, nI_clamp, nI_leI, nI_ltI, nI_eq, pk_div, nI_an, nleT, nleF, nltT, nltF, neqT, neqF, or_false, false_or, or_self, or_true, true_or, and_self, and_true, true_and, and_false, false_and, not_true_eq_false, not_false_eq_true, c]))]
      refine .inr ⟨s, h1, rfl, .inl h3, fun q hq => ?_⟩
      rcases hq with hq | hq
      · exact h4 q hq
      · omega
theorem l_alone (u : CW) {k n : Nat} (hk : k < 60) (hn : n ≤ 3) (c : Int32) : (f_X6_standsAlone u (nI k) (nI n) c = some (nI 1) ∧ Aln u k n c) ∨ (f_X6_standsAlone u (nI k) (nI n) c = some (nI 0) ∧ ¬ Aln u k n c) := by
  unfold f_X6_standsAlone
  refine run1 (fun q i s => f_X6_standsAlone_L6 u (nI k) (nI n) c q s i) (fun i s => k ≤ i ∧ (∀ t, k ≤ t → t < i → ¬ rAt u 49 (nI t) = 0) ∧ ((s = nI 0 ∧ ∀ t, k ≤ t → t < i → ¬ rAt u 40 (nI t) = c) ∨ (s = nI 1 ∧ ∃ t, k ≤ t ∧ t < i ∧ rAt u 40 (nI t) = c))) (k + n) (fun r => (r = some (nI 1) ∧ Aln u k n c) ∨ (r = some (nI 0) ∧ ¬ Aln u k n c)) ?_ ?_ FU k (nI 0) (by omega) (by unfold FU; omega) ⟨Nat.le_refl k, fun t h1 h2 => absurd h2 (by omega), .inl ⟨rfl, fun t h1 h2 => absurd h2 (by omega)⟩⟩
  · rintro q s ⟨-, h1, h2⟩
    rcases h2 with ⟨rfl, h2⟩ | ⟨rfl, h2⟩
    · refine .inr ⟨?_, fun ⟨_, t, t1, t2, t3⟩ => h2 t t1 t2 t3⟩
      simp (disch := omega) only [f_X6_standsAlone_L6, ↓nmk_e, ↓reduceIte, Option.bind_some, Option.map_some, lit, ofN, nI_add, pk_sub, pk_mul, nI_clamp, nI_leI, nI_ltI, nI_eq, pk_div, nI_an, nleT, nleF, nltT, nltF, neqT, neqF, or_false, false_or, or_self, or_true, true_or, and_self, and_true, true_and, and_false, false_and, not_true_eq_false, not_false_eq_true]
    · refine .inl ⟨?_, h1, h2⟩
      simp (disch := omega) only [f_X6_standsAlone_L6, ↓nmk_e, ↓reduceIte, Option.bind_some, Option.map_some, lit, ofN, nI_add, pk_sub, pk_mul, nI_clamp, nI_leI, nI_ltI, nI_eq, pk_div, nI_an, nleT, nleF, nltT, nltF, neqT, neqF, or_false, false_or, or_self, or_true, true_or, and_self, and_true, true_and, and_false, false_and, not_true_eq_false, not_false_eq_true]
  · rintro q i s hi ⟨h0, h1, h2⟩
    by_cases c9 : rAt u 49 (nI i) = nI 0
    · refine .inl (.inr ⟨?_, fun ⟨z, _⟩ => z i h0 hi c9⟩)
      simp (disch := omega) only [f_X6_standsAlone_L6, ↓nmk_e, ↓reduceIte, Option.bind_some, Option.map_some, lit, ofN, nI_add, pk_sub, pk_mul, nI_clamp, nI_leI, nI_ltI, nI_eq, pk_div, nI_an, nleT, nleF, nltT, nltF, neqT, neqF, or_false, false_or, or_self, or_true, true_or, and_self, and_true, true_and, and_false, false_and, not_true_eq_false, not_false_eq_true, c9]
    · rcases h2 with ⟨rfl, h2⟩ | ⟨rfl, h2⟩
      · by_cases cc : rAt u 40 (nI i) = c
        · refine .inr ⟨nI 1, ?_, by omega, fun t t1 t2 => ?_, .inr ⟨rfl, i, h0, by omega, cc⟩⟩
          · simp (disch := omega) only [f_X6_standsAlone_L6, ↓nmk_e, ↓reduceIte, Option.bind_some, Option.map_some, lit, ofN, nI_add, pk_sub, pk_mul, nI_clamp, nI_leI, nI_ltI, nI_eq, pk_div, nI_an, nleT, nleF, nltT, nltF, neqT, neqF, or_false, false_or, or_self, or_true, true_or, and_self, and_true, true_and, and_false, false_and, not_true_eq_false, not_false_eq_true, c9, cc]
          · by_cases e : t = i
            · rw [e]; exact c9
            · exact h1 t t1 (by omega)
        · refine .inr ⟨nI 0, ?_, by omega, fun t t1 t2 => ?_, .inl ⟨rfl, fun t t1 t2 => ?_⟩⟩
          · simp (disch := omega) only [f_X6_standsAlone_L6, ↓nmk_e, ↓reduceIte, Option.bind_some, Option.map_some, lit, ofN, nI_add, pk_sub, pk_mul, nI_clamp, nI_leI, nI_ltI, nI_eq, pk_div, nI_an, nleT, nleF, nltT, nltF, neqT, neqF, or_false, false_or, or_self, or_true, true_or, and_self, and_true, true_and, and_false, false_and, not_true_eq_false, not_false_eq_true, c9, cc]
          · by_cases e : t = i
            · rw [e]; exact c9
            · exact h1 t t1 (by omega)
          · by_cases e : t = i
            · rw [e]; exact cc
            · exact h2 t t1 (by omega)
      · obtain ⟨t0, a1, a2, a3⟩ := h2
        refine .inr ⟨nI 1, ?_, by omega, fun t t1 t2 => ?_, .inr ⟨rfl, t0, a1, by omega, a3⟩⟩
        · simp (disch := omega) only [f_X6_standsAlone_L6, ↓nmk_e, ↓reduceIte, Option.bind_some, Option.map_some, lit, ofN, nI_add, pk_sub, pk_mul, nI_clamp, nI_leI, nI_ltI, nI_eq, pk_div, nI_an, nleT, nleF, nltT, nltF, neqT, neqF, or_false, false_or, or_self, or_true, true_or, and_self, and_true, true_and, and_false, false_and, not_true_eq_false, not_false_eq_true, c9]
        · by_cases e : t = i
          · rw [e]; exact c9
          · exact h1 t t1 (by omega)
theorem fit_le {z : Nat} {ch : Nat → Nat} {k n : Nat} (hn : n = 2 ∨ n = 3) (hf : fit z ch k n = true) : k + n ≤ z ∧ ∀ t, k ≤ t → t < k + n → 97 ≤ ch t := by
  unfold fit at hf
  simp only [Bool.and_eq_true, Bool.or_eq_true, decide_eq_true_eq, ltF_iff] at hf
  obtain ⟨⟨⟨a1, a2⟩, b1, b2⟩, c1⟩ := hf
  rcases hn with rfl | rfl
  · refine ⟨by omega, fun t t1 t2 => ?_⟩
    have : t = k ∨ t = k + 1 := by omega
    rcases this with rfl | rfl
    · exact a2
    · exact b2
  · rcases c1 with c1 | ⟨c1, c2⟩
    · omega
    · refine ⟨by omega, fun t t1 t2 => ?_⟩
      have : t = k ∨ t = k + 1 ∨ t = k + 2 := by omega
      rcases this with rfl | rfl | rfl
      · exact a2
      · exact b2
      · exact c2
def Spr (u : CW) (z : Nat) (ch : Nat → Nat) (c : Int32) (k n r : Nat) : Prop := (n = 2 ∨ n = 3) ∧ fit z ch k n = true ∧ fkN ch k n = r ∧ Aln u k n c
theorem fkN_le {z : Nat} {ch : Nat → Nat} {k n : Nat} (hc : ∀ i, i < z → ch i ≤ 122) (hn : n = 2 ∨ n = 3) (hf : fit z ch k n = true) : fkN ch k n ≤ 252599 := by
  obtain ⟨h1, -⟩ := fit_le hn hf
  have e0 := hc k (by omega)
  have e1 := hc (k + 1) (by omega)
  unfold fkN
  rcases hn with rfl | rfl
  · rw [if_pos rfl]; omega
  · have e2 := hc (k + 2) (by omega)
    rw [if_neg (by decide)]; omega
theorem l_sp1 {u : CW} {z k n : Nat} {ch : Nat → Nat} {A : CA} {c b r0 : Int32} {Q : Nat → Prop} (hc : ∀ i, i < z → ch i ≤ 122) (hA : A.2.2 ≤ 72) (hk : k < 60) (hn : n = 2 ∨ n = 3) (hF : FoP u z ch A k n r0) (hb : Mn Q b) : ∃ q, f_X6_standsAlone u (nI k) (nI n) c = some q ∧ Mn (fun r => Q r ∨ (A.2.1 (nI r) ≠ none ∧ Spr u z ch c k n r)) (f_X6_lesser u b (if q = 0 then -1 else r0)) := by
  have e0 : f_X6_lesser u b (-nI 1) = b := by
    unfold f_X6_lesser
    rw [if_neg (show ¬ (0 : Int32) ≤ -nI 1 by decide), nmk_e]
    split
    · rfl
    · split <;> rfl
  rcases l_alone u hk (n := n) (by omega) c with ⟨h1, h2⟩ | ⟨h1, h2⟩
  · refine ⟨_, h1, ?_⟩
    rw [if_neg (show ¬ nI 1 = 0 by decide)]
    rcases hF with ⟨rfl, f1⟩ | ⟨i, i1, rfl, f1, f2, f3⟩
    · rw [e0]
      refine hb.cg fun r => ⟨.inl, fun w => ?_⟩
      rcases w with w | ⟨w, -, w1, rfl, -⟩
      · exact w
      · exact absurd ⟨w1, w⟩ f1
    · have e1 : f_X6_lesser u b (nI i) = ls3 b (nI (fkN ch k n)) := by
        have e37 : rAt u 37 (nI i) = nI (fkN ch k n) := by rw [aT u (by omega) (by rw [cp_37]; omega)]; exact f2
        unfold f_X6_lesser ls3
        simp (disch := omega) only [↓nmk_e, ↓reduceIte, Option.bind_some, Option.map_some, lit, ofN, nI_add, pk_sub, pk_mul, nI_clamp, nI_leI, nI_ltI, nI_eq, pk_div, nI_an, nleT, nleF, nltT, nltF, neqT, neqF, or_false, false_or, or_self, or_true, true_or, and_self, and_true, true_and, and_false, false_and, not_true_eq_false, not_false_eq_true, e37]
      have hfk := fkN_le hc hn f1
      rw [e1]
      refine (hb.add (r := fkN ch k n) (by omega)).cg fun r => ⟨fun w => ?_, fun w => ?_⟩
      · rcases w with w | rfl
        · exact .inl w
        · exact .inr ⟨by rw [f3]; exact fun q => (by cases q), hn, f1, rfl, h2⟩
      · rcases w with w | ⟨w, -, w1, rfl, -⟩
        · exact .inl w
        · exact .inr rfl
  · refine ⟨_, h1, ?_⟩
    rw [if_pos (show nI 0 = 0 from rfl)]
    refine (show Mn _ (f_X6_lesser u b (-nI 1)) from ?_)
    rw [e0]
    refine hb.cg fun r => ⟨.inl, fun w => ?_⟩
    rcases w with w | ⟨-, -, -, -, w⟩
    · exact w
    · exact absurd w h2
theorem l_sparC {u : CW} {z : Nat} {ch WD : Nat → Nat} {A : CA} (hS : StC u z ch WD A) (c : Int32) : ∃ b, f_X6_sparing u c = some b ∧ Mn (fun r => ∃ k, k < z ∧ ∃ n, A.2.1 (nI r) ≠ none ∧ Spr u z ch c k n r) b := by
  obtain ⟨hE, hF, -⟩ := hS
  obtain ⟨z1, z2, z3, z4, z5, -⟩ := hE
  have hA : A.2.2 ≤ 72 := z5.2.2.2.2.2.2.1
  have hc : ∀ i, i < z → ch i ≤ 122 := fun i hi => by
    have := (z4 i hi).2; omega
  unfold f_X6_sparing
  refine run1 (fun q i s => f_X6_sparing_L5 u c q s i) (fun i s => Mn (fun r => ∃ k, k < i ∧ ∃ n, A.2.1 (nI r) ≠ none ∧ Spr u z ch c k n r) s) z (fun r => ∃ b, r = some b ∧ Mn (fun r => ∃ k, k < z ∧ ∃ n, A.2.1 (nI r) ≠ none ∧ Spr u z ch c k n r) b) ?_ ?_ FU 0 (-5) (Nat.zero_le _) (by unfold FU; omega) (.inl ⟨rfl, fun r ⟨k, hk, _⟩ => Nat.not_lt_zero k hk⟩)
  · rintro q s hI
    refine ⟨s, ?_, hI⟩
    simp (disch := omega) only [f_X6_sparing_L5, ↓nmk_e, ↓reduceIte, Option.bind_some, Option.map_some, lit, ofN, nI_add, pk_sub, pk_mul, nI_clamp, nI_leI, nI_ltI, nI_eq, pk_div, nI_an, nleT, nleF, nltT, nltF, neqT, neqF, or_false, false_or, or_self, or_true, true_or, and_self, and_true, true_and, and_false, false_and, not_true_eq_false, not_false_eq_true, f_X12_isSort, f_X12_isDay, f_X11_isSort, f_X11_isDay, inI, inP, f_X5_size, f_X5_isFull, f_X11_now, f_X2_isKind, f_X2_has, f_X3_has, f_X8_hasPage, f_X8_hasAllPages, f_X8_stands, f_X1_isPrinted, f_X1_rule, f_X9_has, f_X9_isFull, f_X12_isPage, f_X12_isVerse, sC_s, sC_n, sC_2, sN_1, sN_s, sN_n, sN_2, sS_1, sS_2, sS_s, sS_n, upd_s, upd_e, upd_n, rAt, rPut, rAdd, rSwap, rPush, rNumber, cp_0, cp_1, cp_2, cp_3, cp_4, cp_5, cp_6, cp_7, cp_8, cp_9, cp_10, cp_11, cp_12, cp_13, cp_14, cp_15, cp_16, cp_17, cp_18, cp_19, cp_20, cp_21, cp_22, cp_23, cp_24, cp_25, cp_26, cp_27, cp_28, cp_29, cp_30, cp_31, cp_32, cp_33, cp_34, cp_35, cp_36, cp_37, cp_38, cp_39, cp_40, cp_41, cp_42, cp_43, cp_44, cp_45, cp_46, cp_47, cp_48, cp_49, cp_50, cp_51, cp_52, cp_53, cp_54, cp_55, cp_56, cp_57, z3]
  · rintro q i s hi hI
    obtain ⟨f2, f3⟩ := hF i hi
    obtain ⟨q1, g1, g2⟩ := l_sp1 (c := c) hc hA (by omega) (.inr rfl) f3 hI
    obtain ⟨q2, g3, g4⟩ := l_sp1 (c := c) hc hA (by omega) (.inl rfl) f2 g2
    refine .inr ⟨_, ?_, g4.cg fun r => ⟨fun w => ?_, fun w => ?_⟩⟩
    · have e41 : rAt u 41 (nI i) = u.1 41 i := aT u (by omega) (by rw [cp_41]; omega)
      have e42 : rAt u 42 (nI i) = u.1 42 i := aT u (by omega) (by rw [cp_42]; omega)
      have e5 : f_X5_size u 40 = nI z := z3
      show f_X6_sparing_L5 u c (q + 1) s (nI i) = f_X6_sparing_L5 u c q _ (nI (i + 1))
      rw [f_X6_sparing_L5, e5, if_neg (show ¬ nI z ≤ nI i from of_eq_true (by simp (disch := omega) only [↓nmk_e, ↓reduceIte, Option.bind_some, Option.map_some, lit, ofN, nI_add, pk_sub, pk_mul, nI_clamp, nI_leI, nI_ltI, nI_eq, pk_div, nI_an, nleT, nleF, nltT, nltF, neqT, neqF, or_false, false_or, or_self, or_true, true_or, and_self, and_true, true_and, and_false, false_and, not_true_eq_false, not_false_eq_true])), show (3 : Int32) = nI 3 from rfl, g1, Option.bind_some, nmk_e, show (2 : Int32) = nI 2 from rfl, g3, Option.bind_some, nmk_e, nmk_e, e41, e42, show nI i + 1 = nI (i + 1) from by simp (disch := omega) only [↓nmk_e, ↓reduceIte, Option.bind_some, Option.map_some, lit, ofN, nI_add, pk_sub, pk_mul, nI_clamp, nI_leI, nI_ltI, nI_eq, pk_div, nI_an, nleT, nleF, nltT, nltF, neqT, neqF, or_false, false_or, or_self, or_true, true_or, and_self, and_true, true_and, and_false, false_and, not_true_eq_false, not_false_eq_true]]
    · rcases w with (⟨k, hk, n, w⟩ | w) | w
      · exact ⟨k, by omega, n, w⟩
      · exact ⟨i, by omega, _, w⟩
      · exact ⟨i, by omega, _, w⟩
    · obtain ⟨k, hk, n, w1, w2⟩ := w
      by_cases e : k = i
      · subst e
        have w3 := w2
        rcases w2.1 with rfl | rfl
        · exact .inr ⟨w1, w3⟩
        · exact .inl (.inr ⟨w1, w3⟩)
      · exact .inl (.inl ⟨k, by omega, n, w1, w2⟩)
