/-! page -/
theorem l_putUp {u y : CW} {m a : Nat} (h : Sim u y) (hm : m < 20) (n15 : u.2.1 15 = nI m) (n3 : y.1 0 3 = nI m) (h48 : ∀ c, c < 27 → u.1 48 c = y.1 11 c) : ∃ u' y', f_X8_putUp u 48 = some (nI m, u') ∧ (∀ j, f_X12_page_L95 (nI m) j FU (nI 0) (sC (sC (sC y 0 (2270 + m) (nI a)) 0 (2290 + m) (nI 1)) 0 (2310 + m) (nI 0)) = j y') ∧ Sim u' (sC y' 0 3 (nI (m + 1))) ∧ y'.1 0 3 = nI m := by
  obtain ⟨m', hm', k1, k2, g5⟩ := h.g5
  have : m' = m := by
    have := congrArg tN (k1.symm.trans n15)
    rw [show tN (nI m) = m from nI_clamp (by omega), show tN (nI m') = m' from nI_clamp (by omega)] at this
    exact this
  subst this
  clear k1 k2
  have g4 := h.g4
  have eu : f_X8_putUp u 48 = f_X8_putUp_L20 48 (nI m', sN (sC u 15 m' (nI 0)) 15 (nI (m' + 1))) FU (nI 0) (sC (sN (sC u 15 m' (nI 0)) 15 (nI (m' + 1))) 16 m' (nI 1)) := by
    unfold f_X8_putUp
    rw [show (0 : Int32) = nI 0 from rfl, numT (nI 0) n15 (by rw [cp_15]; omega), nmk_e, nmk_e, pT _ (by omega) (by rw [cp_16]; omega)]
    rfl
  rw [eu]
  refine run2 (fun q i s => f_X8_putUp_L20 48 (nI m', sN (sC u 15 m' (nI 0)) 15 (nI (m' + 1))) q i s) (fun q i t => fun j => f_X12_page_L95 (nI m') j q i t) (fun i s t => ((∀ k, k ≠ 13 → k ≠ 15 → k ≠ 16 → k ≠ 17 → s.1 k = u.1 k) ∧ s.1 15 = upd (u.1 15) m' (nI 0) ∧ s.1 16 = upd (u.1 16) m' (nI 1) ∧ (∀ k, k ≠ 15 → s.2.1 k = u.2.1 k) ∧ s.2.1 15 = nI (m' + 1) ∧ s.2.2 = u.2.2) ∧ ((∀ k, k ≠ 0 → t.1 k = y.1 k) ∧ t.2 = y.2 ∧ (∀ j, (j < 50 ∨ 77 ≤ j) → (j < 2270 ∨ 2870 ≤ j) → t.1 0 j = y.1 0 j) ∧ (∀ p, p < m' → t.1 0 (2290 + p) = y.1 0 (2290 + p) ∧ t.1 0 (2310 + p) = y.1 0 (2310 + p)) ∧ t.1 0 (2290 + m') = nI 1 ∧ t.1 0 (2310 + m') = nI 0) ∧ (∀ c, c < 27 → s.1 13 c = t.1 0 (50 + c)) ∧ ∀ p k, k < 27 → (p < m' ∨ p = m' ∧ k < i) → s.1 17 (p * 27 + k) = t.1 0 (2330 + 27 * p + k)) 27 (fun r r2 => ∃ u' y', r = some (nI m', u') ∧ (∀ j, r2 j = j y') ∧ Sim u' (sC y' 0 3 (nI (m' + 1))) ∧ y'.1 0 3 = nI m') ?_ ?_ FU FU 0 (sC (sN (sC u 15 m' (nI 0)) 15 (nI (m' + 1))) 16 m' (nI 1)) (sC (sC (sC y 0 (2270 + m') (nI a)) 0 (2290 + m') (nI 1)) 0 (2310 + m') (nI 0)) (Nat.zero_le _) (by unfold FU; omega) (by unfold FU; omega) ?_
  · rintro q q2 s t ⟨⟨a1, a2, a3, a4, a5, a6⟩, ⟨b1, b2, b3, b4, b5, b6⟩, c1, c2⟩
    refine ⟨s, t, ?_, fun j => ?_, ?_, ?_⟩
    · simp (disch := omega) only [f_X8_putUp_L20, ↓nmk_e, ↓reduceIte, Option.bind_some, Option.map_some, lit, ofN, nI_add, pk_sub, pk_mul, nI_clamp, nI_leI, nI_ltI, nI_eq, pk_div, nI_an, nleT, nleF, nltT, nltF, neqT, neqF, or_false, false_or, or_self, or_true, true_or, and_self, and_true, true_and, and_false, false_and, not_true_eq_false, not_false_eq_true]
    · simp (disch := omega) only [f_X12_page_L95, ↓nmk_e, ↓reduceIte, Option.bind_some, Option.map_some, lit, ofN, nI_add, pk_sub, pk_mul, nI_clamp, nI_leI, nI_ltI, nI_eq, pk_div, nI_an, nleT, nleF, nltT, nltF, neqT, neqF, or_false, false_or, or_self, or_true, true_or, and_self, and_true, true_and, and_false, false_and, not_true_eq_false, not_false_eq_true]
    · refine Sim_u4_5 h (fun k hk h1 h2 => ⟨a1 k (by omega) (by omega) (by omega) (by omega), a4 k (by omega)⟩) (by rw [a6]) (fun j hj h1 h2 h3 => ?_) ?_ ?_ (Sim.i4 fun i hi => ?_) (Sim.i5 ⟨m' + 1, by omega, a5, ?_, fun p hp => ?_⟩)
      · simp (disch := omega) only [sC_s, sC_n, sC_2, sN_1, sN_s, sN_n, sN_2, sS_1, sS_2, sS_s, sS_n, upd_s, upd_e, upd_n]
        exact b3 j (by omega) (by omega)
      · simp (disch := omega) only [sC_s, sC_n, sC_2, sN_1, sN_s, sN_n, sN_2, sS_1, sS_2, sS_s, sS_n, upd_s, upd_e, upd_n]
        exact b1 1 (by decide)
      · simp (disch := omega) only [sC_s, sC_n, sC_2, sN_1, sN_s, sN_n, sN_2, sS_1, sS_2, sS_s, sS_n, upd_s, upd_e, upd_n]
        rw [b2]
      · have g := g4 i hi
        simp (disch := omega) only [sC_s, sC_n, sC_2, sN_1, sN_s, sN_n, sN_2, sS_1, sS_2, sS_s, sS_n, upd_s, upd_e, upd_n]
        rw [a1 12 (by decide) (by decide) (by decide) (by decide), a1 14 (by decide) (by decide) (by decide) (by decide), c1 i hi, b3 (20 + i) (by omega) (by omega), b3 (80 + i) (by omega) (by omega)]
        exact ⟨g.1, g.2.1, rfl, g.2.2.2⟩
      · simp (disch := omega) only [sC_s, sC_n, sC_2, sN_1, sN_s, sN_n, sN_2, sS_1, sS_2, sS_s, sS_n, upd_s, upd_e, upd_n]
      · simp (disch := omega) only [sC_s, sC_n, sC_2, sN_1, sN_s, sN_n, sN_2, sS_1, sS_2, sS_s, sS_n, upd_s, upd_e, upd_n]
        rw [a2, a3]
        by_cases e : p = m'
        · subst e
          rw [upd_s, upd_s, b5, b6]
          exact ⟨rfl, rfl, ⟨1, by decide, rfl⟩, fun k hk => c2 p k hk (.inr ⟨rfl, hk⟩)⟩
        · rw [upd_n _ _ e, upd_n _ _ e, (b4 p (by omega)).1, (b4 p (by omega)).2]
          have g := g5 p (by omega)
          exact ⟨g.1, g.2.1, g.2.2.1, fun k hk => c2 p k hk (.inl (by omega))⟩
    · rw [b3 3 (by decide) (by decide)]; exact n3
  · rintro q q2 i s t hi ⟨⟨a1, a2, a3, a4, a5, a6⟩, ⟨b1, b2, b3, b4, b5, b6⟩, c1, c2⟩
    have e48 : s.1 48 i = y.1 11 i := by rw [a1 48 (by decide) (by decide) (by decide) (by decide)]; exact h48 i hi
    have e11 : t.1 11 = y.1 11 := b1 11 (by decide)
    have e13 := c1 i hi
    refine .inr ⟨sC (sC s 17 (m' * 27 + i) (y.1 11 i)) 13 i (t.1 0 (50 + i) + -(y.1 11 i)), sC (sC t 0 (2330 + 27 * m' + i) (y.1 11 i)) 0 (50 + i) (t.1 0 (50 + i) - y.1 11 i), ?_, funext fun j => ?_, ⟨fun k h1 h2 h3 h4 => ?_, ?_, ?_, ?_, ?_, ?_⟩, ⟨fun k hk => ?_, ?_, fun j h1 h2 => ?_, fun p hp => ?_, ?_, ?_⟩, fun c hc => ?_, fun p k hk hp => ?_⟩
    · show f_X8_putUp_L20 48 (nI m', sN (sC u 15 m' (nI 0)) 15 (nI (m' + 1))) (q + 1) (nI i) s = _
      simp (disch := omega) only [f_X8_putUp_L20, ↓nmk_e, ↓reduceIte, Option.bind_some, Option.map_some, lit, ofN, nI_add, pk_sub, pk_mul, nI_clamp, nI_leI, nI_ltI, nI_eq, pk_div, nI_an, nleT, nleF, nltT, nltF, neqT, neqF, or_false, false_or, or_self, or_true, true_or, and_self, and_true, true_and, and_false, false_and, not_true_eq_false, not_false_eq_true, f_X12_isSort, f_X12_isDay, f_X11_isSort, f_X11_isDay, inI, inP, f_X5_size, f_X5_isFull, f_X11_now, f_X2_isKind, f_X2_has, f_X3_has, f_X8_hasPage, f_X8_hasAllPages, f_X8_stands, f_X1_isPrinted, f_X1_rule, f_X9_has, f_X9_isFull, f_X12_isPage, f_X12_isVerse, sC_s, sC_n, sC_2, sN_1, sN_s, sN_n, sN_2, sS_1, sS_2, sS_s, sS_n, upd_s, upd_e, upd_n, rAt, rPut, rAdd, rSwap, rPush, rNumber, cp_0, cp_1, cp_2, cp_3, cp_4, cp_5, cp_6, cp_7, cp_8, cp_9, cp_10, cp_11, cp_12, cp_13, cp_14, cp_15, cp_16, cp_17, cp_18, cp_19, cp_20, cp_21, cp_22, cp_23, cp_24, cp_25, cp_26, cp_27, cp_28, cp_29, cp_30, cp_31, cp_32, cp_33, cp_34, cp_35, cp_36, cp_37, cp_38, cp_39, cp_40, cp_41, cp_42, cp_43, cp_44, cp_45, cp_46, cp_47, cp_48, cp_49, cp_50, cp_51, cp_52, cp_53, cp_54, cp_55, cp_56, cp_57, e48, e13]
    · show f_X12_page_L95 (nI m') j (q2 + 1) (nI i) t = _
      simp (disch := omega) only [f_X12_page_L95, ↓nmk_e, ↓reduceIte, Option.bind_some, Option.map_some, lit, ofN, nI_add, pk_sub, pk_mul, nI_clamp, nI_leI, nI_ltI, nI_eq, pk_div, nI_an, nleT, nleF, nltT, nltF, neqT, neqF, or_false, false_or, or_self, or_true, true_or, and_self, and_true, true_and, and_false, false_and, not_true_eq_false, not_false_eq_true, f_X12_isSort, f_X12_isDay, f_X11_isSort, f_X11_isDay, inI, inP, f_X5_size, f_X5_isFull, f_X11_now, f_X2_isKind, f_X2_has, f_X3_has, f_X8_hasPage, f_X8_hasAllPages, f_X8_stands, f_X1_isPrinted, f_X1_rule, f_X9_has, f_X9_isFull, f_X12_isPage, f_X12_isVerse, sC_s, sC_n, sC_2, sN_1, sN_s, sN_n, sN_2, sS_1, sS_2, sS_s, sS_n, upd_s, upd_e, upd_n, rAt, rPut, rAdd, rSwap, rPush, rNumber, cp_0, cp_1, cp_2, cp_3, cp_4, cp_5, cp_6, cp_7, cp_8, cp_9, cp_10, cp_11, cp_12, cp_13, cp_14, cp_15, cp_16, cp_17, cp_18, cp_19, cp_20, cp_21, cp_22, cp_23, cp_24, cp_25, cp_26, cp_27, cp_28, cp_29, cp_30, cp_31, cp_32, cp_33, cp_34, cp_35, cp_36, cp_37, cp_38, cp_39, cp_40, cp_41, cp_42, cp_43, cp_44, cp_45, cp_46, cp_47, cp_48, cp_49, cp_50, cp_51, cp_52, cp_53, cp_54, cp_55, cp_56, cp_57, e11]
    · simp (disch := omega) only [sC_s, sC_n, sC_2, sN_1, sN_s, sN_n, sN_2, sS_1, sS_2, sS_s, sS_n, upd_s, upd_e, upd_n]; exact a1 k h1 h2 h3 h4
    · simp (disch := omega) only [sC_s, sC_n, sC_2, sN_1, sN_s, sN_n, sN_2, sS_1, sS_2, sS_s, sS_n, upd_s, upd_e, upd_n]; exact a2
    · simp (disch := omega) only [sC_s, sC_n, sC_2, sN_1, sN_s, sN_n, sN_2, sS_1, sS_2, sS_s, sS_n, upd_s, upd_e, upd_n]; exact a3
    · simp (disch := omega) only [sC_s, sC_n, sC_2, sN_1, sN_s, sN_n, sN_2, sS_1, sS_2, sS_s, sS_n, upd_s, upd_e, upd_n]; exact a4
    · simp (disch := omega) only [sC_s, sC_n, sC_2, sN_1, sN_s, sN_n, sN_2, sS_1, sS_2, sS_s, sS_n, upd_s, upd_e, upd_n]; exact a5
    · simp (disch := omega) only [sC_s, sC_n, sC_2, sN_1, sN_s, sN_n, sN_2, sS_1, sS_2, sS_s, sS_n, upd_s, upd_e, upd_n]; exact a6
    · simp (disch := omega) only [sC_s, sC_n, sC_2, sN_1, sN_s, sN_n, sN_2, sS_1, sS_2, sS_s, sS_n, upd_s, upd_e, upd_n]; exact b1 k hk
    · simp (disch := omega) only [sC_s, sC_n, sC_2, sN_1, sN_s, sN_n, sN_2, sS_1, sS_2, sS_s, sS_n, upd_s, upd_e, upd_n]; exact b2
    · simp (disch := omega) only [sC_s, sC_n, sC_2, sN_1, sN_s, sN_n, sN_2, sS_1, sS_2, sS_s, sS_n, upd_s, upd_e, upd_n]; exact b3 j h1 h2
    · simp (disch := omega) only [sC_s, sC_n, sC_2, sN_1, sN_s, sN_n, sN_2, sS_1, sS_2, sS_s, sS_n, upd_s, upd_e, upd_n]; exact b4 p hp
    · simp (disch := omega) only [sC_s, sC_n, sC_2, sN_1, sN_s, sN_n, sN_2, sS_1, sS_2, sS_s, sS_n, upd_s, upd_e, upd_n]; exact b5
    · simp (disch := omega) only [sC_s, sC_n, sC_2, sN_1, sN_s, sN_n, sN_2, sS_1, sS_2, sS_s, sS_n, upd_s, upd_e, upd_n]; exact b6
    · by_cases e : c = i
      · subst e
        simp (disch := omega) only [sC_s, sC_n, sC_2, sN_1, sN_s, sN_n, sN_2, sS_1, sS_2, sS_s, sS_n, upd_s, upd_e, upd_n]
        exact (Int32.sub_eq_add_neg _ _).symm
      · simp (disch := omega) only [sC_s, sC_n, sC_2, sN_1, sN_s, sN_n, sN_2, sS_1, sS_2, sS_s, sS_n, upd_s, upd_e, upd_n]; exact c1 c hc
    · by_cases e : p = m' ∧ k = i
      · obtain ⟨rfl, rfl⟩ := e
        simp (disch := omega) only [sC_s, sC_n, sC_2, sN_1, sN_s, sN_n, sN_2, sS_1, sS_2, sS_s, sS_n, upd_s, upd_e, upd_n]
      · simp (disch := omega) only [sC_s, sC_n, sC_2, sN_1, sN_s, sN_n, sN_2, sS_1, sS_2, sS_s, sS_n, upd_s, upd_e, upd_n]; exact c2 p k hk (by omega)
  · refine ⟨⟨fun k h1 h2 h3 h4 => ?_, ?_, ?_, fun k hk => ?_, ?_, ?_⟩, ⟨fun k hk => ?_, ?_, fun j h1 h2 => ?_, fun p hp => ?_, ?_, ?_⟩, fun c hc => ?_, fun p k hk hp => ?_⟩
    · simp (disch := omega) only [sC_s, sC_n, sC_2, sN_1, sN_s, sN_n, sN_2, sS_1, sS_2, sS_s, sS_n, upd_s, upd_e, upd_n]
    · simp (disch := omega) only [sC_s, sC_n, sC_2, sN_1, sN_s, sN_n, sN_2, sS_1, sS_2, sS_s, sS_n, upd_s, upd_e, upd_n]
    · simp (disch := omega) only [sC_s, sC_n, sC_2, sN_1, sN_s, sN_n, sN_2, sS_1, sS_2, sS_s, sS_n, upd_s, upd_e, upd_n]
    · simp (disch := omega) only [sC_s, sC_n, sC_2, sN_1, sN_s, sN_n, sN_2, sS_1, sS_2, sS_s, sS_n, upd_s, upd_e, upd_n]
    · simp (disch := omega) only [sC_s, sC_n, sC_2, sN_1, sN_s, sN_n, sN_2, sS_1, sS_2, sS_s, sS_n, upd_s, upd_e, upd_n]
    · simp (disch := omega) only [sC_s, sC_n, sC_2, sN_1, sN_s, sN_n, sN_2, sS_1, sS_2, sS_s, sS_n, upd_s, upd_e, upd_n]
    · simp (disch := omega) only [sC_s, sC_n, sC_2, sN_1, sN_s, sN_n, sN_2, sS_1, sS_2, sS_s, sS_n, upd_s, upd_e, upd_n]
    · simp (disch := omega) only [sC_s, sC_n, sC_2, sN_1, sN_s, sN_n, sN_2, sS_1, sS_2, sS_s, sS_n, upd_s, upd_e, upd_n]
    · simp (disch := omega) only [sC_s, sC_n, sC_2, sN_1, sN_s, sN_n, sN_2, sS_1, sS_2, sS_s, sS_n, upd_s, upd_e, upd_n]
    · simp (disch := omega) only [sC_s, sC_n, sC_2, sN_1, sN_s, sN_n, sN_2, sS_1, sS_2, sS_s, sS_n, upd_s, upd_e, upd_n, and_self]
    · simp (disch := omega) only [sC_s, sC_n, sC_2, sN_1, sN_s, sN_n, sN_2, sS_1, sS_2, sS_s, sS_n, upd_s, upd_e, upd_n]
    · simp (disch := omega) only [sC_s, sC_n, sC_2, sN_1, sN_s, sN_n, sN_2, sS_1, sS_2, sS_s, sS_n, upd_s, upd_e, upd_n]
    · simp (disch := omega) only [sC_s, sC_n, sC_2, sN_1, sN_s, sN_n, sN_2, sS_1, sS_2, sS_s, sS_n, upd_s, upd_e, upd_n]; exact (g4 c hc).2.2.1
    · simp (disch := omega) only [sC_s, sC_n, sC_2, sN_1, sN_s, sN_n, sN_2, sS_1, sS_2, sS_s, sS_n, upd_s, upd_e, upd_n]
      exact (g5 p (by omega)).2.2.2 k hk
theorem s_page {w v : CW} (h : Sim w v) (a : Int32) : Same w v (f_X11_page w a) (f_X12_page v a) := by
  unfold f_X11_page f_X12_page
  rcases l_verse h a with ⟨h1, h2⟩ | ⟨i, m, hm, hi, rfl, m2, h1, h2⟩
  · rw [if_pos (show _ = (0 : Int32) from h1), h2, Option.bind_some, if_pos (show nI 0 = (0 : Int32) from rfl)]
    exact ⟨_, _, _, rfl, rfl, h⟩
  rw [h1, h2, if_neg (show ¬ nI 1 = (0 : Int32) by decide), Option.bind_some, if_neg (show ¬ nI 1 = (0 : Int32) by decide), if_neg (show ¬ ((3 : Int32) < 0 ∨ 3250 ≤ (3 : Int32).toNatClampNeg) by decide)]
  obtain ⟨p, hp, p1, p2, -⟩ := h.g5
  by_cases c20 : p = 20
  · subst c20
    rw [if_neg (show ¬ f_X8_hasAllPages w = 0 from of_eq_true (by simp (disch := omega) only [↓nmk_e, ↓reduceIte, Option.bind_some, Option.map_some, lit, ofN, nI_add, pk_sub, pk_mul, nI_clamp, nI_leI, nI_ltI, nI_eq, pk_div, nI_an, nleT, nleF, nltT, nltF, neqT, neqF, or_false, false_or, or_self, or_true, true_or, and_self, and_true, true_and, and_false, false_and, not_true_eq_false, not_false_eq_true, f_X12_isSort, f_X12_isDay, f_X11_isSort, f_X11_isDay, inI, inP, f_X5_size, f_X5_isFull, f_X11_now, f_X2_isKind, f_X2_has, f_X3_has, f_X8_hasPage, f_X8_hasAllPages, f_X8_stands, f_X1_isPrinted, f_X1_rule, f_X9_has, f_X9_isFull, f_X12_isPage, f_X12_isVerse, sC_s, sC_n, sC_2, sN_1, sN_s, sN_n, sN_2, sS_1, sS_2, sS_s, sS_n, upd_s, upd_e, upd_n, rAt, rPut, rAdd, rSwap, rPush, rNumber, cp_0, cp_1, cp_2, cp_3, cp_4, cp_5, cp_6, cp_7, cp_8, cp_9, cp_10, cp_11, cp_12, cp_13, cp_14, cp_15, cp_16, cp_17, cp_18, cp_19, cp_20, cp_21, cp_22, cp_23, cp_24, cp_25, cp_26, cp_27, cp_28, cp_29, cp_30, cp_31, cp_32, cp_33, cp_34, cp_35, cp_36, cp_37, cp_38, cp_39, cp_40, cp_41, cp_42, cp_43, cp_44, cp_45, cp_46, cp_47, cp_48, cp_49, cp_50, cp_51, cp_52, cp_53, cp_54, cp_55, cp_56, cp_57, p1])), if_pos (show v.1 0 (3 : Int32).toNatClampNeg = 20 from p2)]
    exact ⟨_, _, _, rfl, rfl, h⟩
  obtain ⟨g1, D, hD, g2⟩ := h.g0
  obtain ⟨r, w', v', e1, e2, e3, e0, e4⟩ := l_isSet2 h m2 hm hi hD
  have en : f_X11_now w = nI D := by simp (disch := omega) only [↓nmk_e, ↓reduceIte, Option.bind_some, Option.map_some, lit, ofN, nI_add, pk_sub, pk_mul, nI_clamp, nI_leI, nI_ltI, nI_eq, pk_div, nI_an, nleT, nleF, nltT, nltF, neqT, neqF, or_false, false_or, or_self, or_true, true_or, and_self, and_true, true_and, and_false, false_and, not_true_eq_false, not_false_eq_true, f_X12_isSort, f_X12_isDay, f_X11_isSort, f_X11_isDay, inI, inP, f_X5_size, f_X5_isFull, f_X11_now, f_X2_isKind, f_X2_has, f_X3_has, f_X8_hasPage, f_X8_hasAllPages, f_X8_stands, f_X1_isPrinted, f_X1_rule, f_X9_has, f_X9_isFull, f_X12_isPage, f_X12_isVerse, sC_s, sC_n, sC_2, sN_1, sN_s, sN_n, sN_2, sS_1, sS_2, sS_s, sS_n, upd_s, upd_e, upd_n, rAt, rPut, rAdd, rSwap, rPush, rNumber, cp_0, cp_1, cp_2, cp_3, cp_4, cp_5, cp_6, cp_7, cp_8, cp_9, cp_10, cp_11, cp_12, cp_13, cp_14, cp_15, cp_16, cp_17, cp_18, cp_19, cp_20, cp_21, cp_22, cp_23, cp_24, cp_25, cp_26, cp_27, cp_28, cp_29, cp_30, cp_31, cp_32, cp_33, cp_34, cp_35, cp_36, cp_37, cp_38, cp_39, cp_40, cp_41, cp_42, cp_43, cp_44, cp_45, cp_46, cp_47, cp_48, cp_49, cp_50, cp_51, cp_52, cp_53, cp_54, cp_55, cp_56, cp_57, g1, g2]
  have e1 : f_X11_isSet w (nI i) (f_X11_now w) 0 = some (nI r, w') := by rw [en]; exact e1
  have e2 : f_X12_sets v (nI i) (v.1 0 (0 : Int32).toNatClampNeg) = some (nI r, v') := by
    rw [show v.1 0 (0 : Int32).toNatClampNeg = nI D from g2]; exact e2
  rw [if_pos (show f_X8_hasAllPages w = 0 from by simp (disch := omega) only [↓nmk_e, ↓reduceIte, Option.bind_some, Option.map_some, lit, ofN, nI_add, pk_sub, pk_mul, nI_clamp, nI_leI, nI_ltI, nI_eq, pk_div, nI_an, nleT, nleF, nltT, nltF, neqT, neqF, or_false, false_or, or_self, or_true, true_or, and_self, and_true, true_and, and_false, false_and, not_true_eq_false, not_false_eq_true, f_X12_isSort, f_X12_isDay, f_X11_isSort, f_X11_isDay, inI, inP, f_X5_size, f_X5_isFull, f_X11_now, f_X2_isKind, f_X2_has, f_X3_has, f_X8_hasPage, f_X8_hasAllPages, f_X8_stands, f_X1_isPrinted, f_X1_rule, f_X9_has, f_X9_isFull, f_X12_isPage, f_X12_isVerse, sC_s, sC_n, sC_2, sN_1, sN_s, sN_n, sN_2, sS_1, sS_2, sS_s, sS_n, upd_s, upd_e, upd_n, rAt, rPut, rAdd, rSwap, rPush, rNumber, cp_0, cp_1, cp_2, cp_3, cp_4, cp_5, cp_6, cp_7, cp_8, cp_9, cp_10, cp_11, cp_12, cp_13, cp_14, cp_15, cp_16, cp_17, cp_18, cp_19, cp_20, cp_21, cp_22, cp_23, cp_24, cp_25, cp_26, cp_27, cp_28, cp_29, cp_30, cp_31, cp_32, cp_33, cp_34, cp_35, cp_36, cp_37, cp_38, cp_39, cp_40, cp_41, cp_42, cp_43, cp_44, cp_45, cp_46, cp_47, cp_48, cp_49, cp_50, cp_51, cp_52, cp_53, cp_54, cp_55, cp_56, cp_57, p1]), if_neg (show ¬ v.1 0 (3 : Int32).toNatClampNeg = 20 from fun q => ?_), if_neg (show ¬ ((0 : Int32) < 0 ∨ 3250 ≤ (0 : Int32).toNatClampNeg) by decide), e1, e2, Option.bind_some, Option.bind_some]
  · rcases e4 with rfl | ⟨rfl, e5, z, ch, WD, A, L, hz, hS, hE, hO⟩
    · rw [if_pos (show nI 0 = (0 : Int32) from rfl), if_pos (show nI 0 = (0 : Int32) from rfl)]
      exact ⟨_, _, _, rfl, rfl, e3⟩
    · obtain ⟨o1, o2, o3, o4, o5, o6, o7, o8, o9, -⟩ := hO
      obtain ⟨t, t1, t2, t3⟩ := l_lack (fun c hc => (e3.g4 c hc).2.2.1) o7
      rw [if_neg (show ¬ nI 1 = (0 : Int32) by decide), if_neg (show ¬ nI 1 = (0 : Int32) by decide), t1, t2, Option.bind_some, Option.bind_some]
      by_cases c5 : t = -5
      · rw [if_pos c5, if_pos c5, if_neg (show ¬ ((3 : Int32) < 0 ∨ 3250 ≤ (3 : Int32).toNatClampNeg) by decide)]
        obtain ⟨p', hp', q1, q2, -⟩ := e3.g5
        have hpp : p' < 20 := by
          rw [e0, p2] at q2
          have := congrArg tN q2
          rw [show tN (nI p) = p from nI_clamp (by omega), show tN (nI p') = p' from nI_clamp (by omega)] at this
          omega
        obtain ⟨u', y', f1, f2, f3, f4⟩ := l_putUp (a := i) e3 hpp q1 q2 o7
        rw [f1, Option.bind_some, nmk_e, show v'.1 0 (3 : Int32).toNatClampNeg = nI p' from q2]
        refine ⟨nI p', u', sC y' 0 3 (nI (p' + 1)), rfl, ?_, f3⟩
        have k1 : (2270 + nI p').toNatClampNeg = 2270 + p' := by simp (disch := omega) only [↓nmk_e, ↓reduceIte, Option.bind_some, Option.map_some, lit, ofN, nI_add, pk_sub, pk_mul, nI_clamp, nI_leI, nI_ltI, nI_eq, pk_div, nI_an, nleT, nleF, nltT, nltF, neqT, neqF, or_false, false_or, or_self, or_true, true_or, and_self, and_true, true_and, and_false, false_and, not_true_eq_false, not_false_eq_true]
        have k2 : (2290 + nI p').toNatClampNeg = 2290 + p' := by simp (disch := omega) only [↓nmk_e, ↓reduceIte, Option.bind_some, Option.map_some, lit, ofN, nI_add, pk_sub, pk_mul, nI_clamp, nI_leI, nI_ltI, nI_eq, pk_div, nI_an, nleT, nleF, nltT, nltF, neqT, neqF, or_false, false_or, or_self, or_true, true_or, and_self, and_true, true_and, and_false, false_and, not_true_eq_false, not_false_eq_true]
        have k3 : (2310 + nI p').toNatClampNeg = 2310 + p' := by simp (disch := omega) only [↓nmk_e, ↓reduceIte, Option.bind_some, Option.map_some, lit, ofN, nI_add, pk_sub, pk_mul, nI_clamp, nI_leI, nI_ltI, nI_eq, pk_div, nI_an, nleT, nleF, nltT, nltF, neqT, neqF, or_false, false_or, or_self, or_true, true_or, and_self, and_true, true_and, and_false, false_and, not_true_eq_false, not_false_eq_true]
        have l1 : ¬ ((2270 + nI p') < 0 ∨ 3250 ≤ (2270 + nI p').toNatClampNeg) := of_eq_true (by simp (disch := omega) only [↓nmk_e, ↓reduceIte, Option.bind_some, Option.map_some, lit, ofN, nI_add, pk_sub, pk_mul, nI_clamp, nI_leI, nI_ltI, nI_eq, pk_div, nI_an, nleT, nleF, nltT, nltF, neqT, neqF, or_false, false_or, or_self, or_true, true_or, and_self, and_true, true_and, and_false, false_and, not_true_eq_false, not_false_eq_true])
        have l2 : ¬ ((2290 + nI p') < 0 ∨ 3250 ≤ (2290 + nI p').toNatClampNeg) := of_eq_true (by simp (disch := omega) only [↓nmk_e, ↓reduceIte, Option.bind_some, Option.map_some, lit, ofN, nI_add, pk_sub, pk_mul, nI_clamp, nI_leI, nI_ltI, nI_eq, pk_div, nI_an, nleT, nleF, nltT, nltF, neqT, neqF, or_false, false_or, or_self, or_true, true_or, and_self, and_true, true_and, and_false, false_and, not_true_eq_false, not_false_eq_true])
        have l3 : ¬ ((2310 + nI p') < 0 ∨ 3250 ≤ (2310 + nI p').toNatClampNeg) := of_eq_true (by simp (disch := omega) only [↓nmk_e, ↓reduceIte, Option.bind_some, Option.map_some, lit, ofN, nI_add, pk_sub, pk_mul, nI_clamp, nI_leI, nI_ltI, nI_eq, pk_div, nI_an, nleT, nleF, nltT, nltF, neqT, neqF, or_false, false_or, or_self, or_true, true_or, and_self, and_true, true_and, and_false, false_and, not_true_eq_false, not_false_eq_true])
        rw [if_neg l1, nmk_e, if_neg l2, nmk_e, if_neg l3, nmk_e, nmk_e, k1, k2, k3]
        refine (f2 _).trans ?_
        rw [if_neg (show ¬ ((3 : Int32) < 0 ∨ 3250 ≤ (3 : Int32).toNatClampNeg) by decide), if_neg (show ¬ ((3 : Int32) < 0 ∨ 3250 ≤ (3 : Int32).toNatClampNeg) by decide), nmk_e, show y'.1 0 (3 : Int32).toNatClampNeg = nI p' from f4, show nI p' + 1 = nI (p' + 1) by simp (disch := omega) only [↓nmk_e, ↓reduceIte, Option.bind_some, Option.map_some, lit, ofN, nI_add, pk_sub, pk_mul, nI_clamp, nI_leI, nI_ltI, nI_eq, pk_div, nI_an, nleT, nleF, nltT, nltF, neqT, neqF, or_false, false_or, or_self, or_true, true_or, and_self, and_true, true_and, and_false, false_and, not_true_eq_false, not_false_eq_true]]
        rfl
      · rw [if_neg c5, if_neg c5]
        exact ⟨_, _, _, rfl, rfl, e3⟩
  · have := congrArg tN (p2.symm.trans q)
    rw [show tN (nI p) = p from nI_clamp (by omega), show tN (20 : Int32) = 20 from rfl] at this
    exact c20 this
