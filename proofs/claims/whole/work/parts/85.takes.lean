/-! the reference takes a clause; both worlds against one picture -/
theorem l_forg {y : CW} {f : Nat} {M : FM} (h : RMp y f M) (key : Int32) : ∃ y', f_X12_forgets y key = some y' ∧ RMp y' (if M key = none then f else f - 1) (barM M key) ∧ (∀ k, k ≠ 4 → k ≠ 5 → k ≠ 6 → y'.1 k = y.1 k) ∧ y'.2.1 = y.2.1 ∧ ∀ k, k ≠ 13 → y'.2.2 k = y.2.2 k := by
  obtain ⟨h1, h2, h3⟩ := h
  unfold f_X12_forgets
  simp only [↓nmk_e]
  refine run1 (fun q i (s : Int32 × CW) => f_X12_forgets_L4 key (fun y67_2 w67_ => nmk (sS w67_ 13 y67_2) fun w69 => some w69) q s.1 i s.2) (fun k s => ∃ n, s.1 = nI n ∧ s.2.2 = y.2 ∧ (∀ a, a ≠ 4 → a ≠ 5 → a ≠ 6 → s.2.1 a = y.1 a) ∧ (∀ i, k ≤ i → s.2.1 4 i = y.1 4 i ∧ s.2.1 5 i = y.1 5 i ∧ s.2.1 6 i = y.1 6 i) ∧ ((n = k ∧ ∀ i, i < k → y.1 4 i ≠ key) ∨ (n + 1 = k ∧ ∃ i, i < k ∧ y.1 4 i = key)) ∧ (∀ i j, i < n → j < n → s.2.1 4 i = s.2.1 4 j → i = j) ∧ ∀ q w u, (∃ i, i < n ∧ s.2.1 4 i = q ∧ s.2.1 5 i = w ∧ s.2.1 6 i = u) ↔ (q ≠ key ∧ ∃ i, i < k ∧ y.1 4 i = q ∧ y.1 5 i = w ∧ y.1 6 i = u)) f (fun z => ∃ y', z = some y' ∧ RMp y' (if M key = none then f else f - 1) (barM M key) ∧ (∀ k, k ≠ 4 → k ≠ 5 → k ≠ 6 → y'.1 k = y.1 k) ∧ y'.2.1 = y.2.1 ∧ ∀ k, k ≠ 13 → y'.2.2 k = y.2.2 k) ?_ ?_ FU 0 (0, y) (Nat.zero_le _) (by unfold FU; omega) ⟨0, rfl, rfl, fun _ _ _ _ => rfl, fun _ _ => ⟨rfl, rfl, rfl⟩, .inl ⟨rfl, fun i hi => absurd hi (Nat.not_lt_zero i)⟩, fun i j hi => absurd hi (Nat.not_lt_zero i), fun q w u => ⟨fun ⟨i, hi, _⟩ => absurd hi (Nat.not_lt_zero i), fun ⟨_, i, hi, _⟩ => absurd hi (Nat.not_lt_zero i)⟩⟩
  · rintro q ⟨_, s⟩ ⟨n, rfl, g1, g2, g3, g4, g5, g6⟩
    have e13 : s.2.2 13 = nI f := by rw [g1]; exact h1
    have hn : n = if M key = none then f else f - 1 := by
      rcases g4 with ⟨a, b⟩ | ⟨a, i, hi, b⟩
      · rw [if_pos ((Mp_none h3 key).mpr b)]; exact a
      · rw [if_neg (fun z => (Mp_none h3 key).mp z i hi b)]; omega
    refine ⟨sS s 13 (nI n), ?_, ⟨?_, ?_, by rw [← hn]; exact g5, fun k w u => ?_⟩, g2, ?_, fun k hk => ?_⟩
    · simp (disch := omega) only [f_X12_forgets_L4, ↓nmk_e, ↓reduceIte, Option.bind_some, Option.map_some, lit, ofN, nI_add, pk_sub, pk_mul, nI_clamp, nI_leI, nI_ltI, nI_eq, pk_div, nI_an, nleT, nleF, nltT, nltF, neqT, neqF, or_false, false_or, or_self, or_true, true_or, and_self, and_true, true_and, and_false, false_and, not_true_eq_false, not_false_eq_true, f_X12_isSort, f_X12_isDay, f_X11_isSort, f_X11_isDay, inI, inP, f_X5_size, f_X5_isFull, f_X11_now, f_X2_isKind, f_X2_has, f_X3_has, f_X8_hasPage, f_X8_hasAllPages, f_X8_stands, f_X1_isPrinted, f_X1_rule, f_X9_has, f_X9_isFull, f_X12_isPage, f_X12_isVerse, sC_s, sC_n, sC_2, sN_1, sN_s, sN_n, sN_2, sS_1, sS_2, sS_s, sS_n, upd_s, upd_e, upd_n, rAt, rPut, rAdd, rSwap, rPush, rNumber, cp_0, cp_1, cp_2, cp_3, cp_4, cp_5, cp_6, cp_7, cp_8, cp_9, cp_10, cp_11, cp_12, cp_13, cp_14, cp_15, cp_16, cp_17, cp_18, cp_19, cp_20, cp_21, cp_22, cp_23, cp_24, cp_25, cp_26, cp_27, cp_28, cp_29, cp_30, cp_31, cp_32, cp_33, cp_34, cp_35, cp_36, cp_37, cp_38, cp_39, cp_40, cp_41, cp_42, cp_43, cp_44, cp_45, cp_46, cp_47, cp_48, cp_49, cp_50, cp_51, cp_52, cp_53, cp_54, cp_55, cp_56, cp_57, e13]
    · simp (disch := omega) only [sC_s, sC_n, sC_2, sN_1, sN_s, sN_n, sN_2, sS_1, sS_2, sS_s, sS_n, upd_s, upd_e, upd_n]; rw [hn]
    · rw [← hn]; rcases g4 with ⟨a, -⟩ | ⟨a, -⟩ <;> omega
    · rw [← hn]
      refine Iff.trans ?_ (g6 k w u).symm
      unfold barM
      by_cases c : k = key
      · rw [if_pos c]
        exact ⟨(fun z => by cases z), fun z => absurd c z.1⟩
      · rw [if_neg c, h3.2]
        exact ⟨fun z => ⟨c, z⟩, fun z => z.2⟩
    · rw [sS_2, g1]
    · simp (disch := omega) only [sC_s, sC_n, sC_2, sN_1, sN_s, sN_n, sN_2, sS_1, sS_2, sS_s, sS_n, upd_s, upd_e, upd_n]; rw [g1]
  · rintro q k ⟨_, s⟩ hk ⟨n, rfl, g1, g2, g3, g4, g5, g6⟩
    have e13 : s.2.2 13 = nI f := by rw [g1]; exact h1
    obtain ⟨k1, k2, k3⟩ := g3 k (Nat.le_refl _)
    have k1 : s.1 4 k = y.1 4 k := k1
    have k2 : s.1 5 k = y.1 5 k := k2
    have k3 : s.1 6 k = y.1 6 k := k3
    have hnk : n ≤ k := by rcases g4 with ⟨a, -⟩ | ⟨a, -⟩ <;> omega
    by_cases c : y.1 4 k = key
    · refine .inr ⟨(nI n, s), ?_, n, rfl, g1, g2, fun i hi => g3 i (by omega), .inr ?_, g5, fun q w u => (g6 q w u).trans ?_⟩
      · simp (disch := omega) only [f_X12_forgets_L4, ↓nmk_e, ↓reduceIte, Option.bind_some, Option.map_some, lit, ofN, nI_add, pk_sub, pk_mul, nI_clamp, nI_leI, nI_ltI, nI_eq, pk_div, nI_an, nleT, nleF, nltT, nltF, neqT, neqF, or_false, false_or, or_self, or_true, true_or, and_self, and_true, true_and, and_false, false_and, not_true_eq_false, not_false_eq_true, f_X12_isSort, f_X12_isDay, f_X11_isSort, f_X11_isDay, inI, inP, f_X5_size, f_X5_isFull, f_X11_now, f_X2_isKind, f_X2_has, f_X3_has, f_X8_hasPage, f_X8_hasAllPages, f_X8_stands, f_X1_isPrinted, f_X1_rule, f_X9_has, f_X9_isFull, f_X12_isPage, f_X12_isVerse, sC_s, sC_n, sC_2, sN_1, sN_s, sN_n, sN_2, sS_1, sS_2, sS_s, sS_n, upd_s, upd_e, upd_n, rAt, rPut, rAdd, rSwap, rPush, rNumber, cp_0, cp_1, cp_2, cp_3, cp_4, cp_5, cp_6, cp_7, cp_8, cp_9, cp_10, cp_11, cp_12, cp_13, cp_14, cp_15, cp_16, cp_17, cp_18, cp_19, cp_20, cp_21, cp_22, cp_23, cp_24, cp_25, cp_26, cp_27, cp_28, cp_29, cp_30, cp_31, cp_32, cp_33, cp_34, cp_35, cp_36, cp_37, cp_38, cp_39, cp_40, cp_41, cp_42, cp_43, cp_44, cp_45, cp_46, cp_47, cp_48, cp_49, cp_50, cp_51, cp_52, cp_53, cp_54, cp_55, cp_56, cp_57, e13, k1, c]
      · rcases g4 with ⟨a, b⟩ | ⟨a, i, hi, b⟩
        · exact ⟨by omega, k, by omega, c⟩
        · have := h3.1 i k (by omega) hk (by rw [b, c])
          omega
      · constructor
        · rintro ⟨z1, i, z2, z3⟩; exact ⟨z1, i, by omega, z3⟩
        · rintro ⟨z1, i, z2, z3, z4⟩
          refine ⟨z1, i, ?_, z3, z4⟩
          by_cases ci : i = k
          · rw [ci, c] at z3; exact absurd z3.symm z1
          · omega
    · let s' := sC (sC (sC s 4 n (y.1 4 k)) 5 n (y.1 5 k)) 6 n (y.1 6 k)
      have u4 : s'.1 4 = upd (s.1 4) n (y.1 4 k) := by
        show (sC (sC (sC s 4 n (y.1 4 k)) 5 n (y.1 5 k)) 6 n (y.1 6 k)).1 4 = _
        simp (disch := omega) only [sC_s, sC_n, sC_2, sN_1, sN_s, sN_n, sN_2, sS_1, sS_2, sS_s, sS_n, upd_s, upd_e, upd_n]
      have u5 : s'.1 5 = upd (s.1 5) n (y.1 5 k) := by
        show (sC (sC (sC s 4 n (y.1 4 k)) 5 n (y.1 5 k)) 6 n (y.1 6 k)).1 5 = _
        simp (disch := omega) only [sC_s, sC_n, sC_2, sN_1, sN_s, sN_n, sN_2, sS_1, sS_2, sS_s, sS_n, upd_s, upd_e, upd_n]
      have u6 : s'.1 6 = upd (s.1 6) n (y.1 6 k) := by
        show (sC (sC (sC s 4 n (y.1 4 k)) 5 n (y.1 5 k)) 6 n (y.1 6 k)).1 6 = _
        simp (disch := omega) only [sC_s, sC_n, sC_2, sN_1, sN_s, sN_n, sN_2, sS_1, sS_2, sS_s, sS_n, upd_s, upd_e, upd_n]
      have hnot : ∀ j, j < n → s.1 4 j ≠ y.1 4 k := fun j hj e => by
        obtain ⟨-, i, hi, e1, -⟩ := (g6 (s.1 4 j) (s.1 5 j) (s.1 6 j)).mp ⟨j, hj, rfl, rfl, rfl⟩
        have := h3.1 i k (by omega) hk (by rw [e1, e])
        omega
      refine .inr ⟨(nI (n + 1), s'), ?_, n + 1, rfl, g1, fun a a1 a2 a3 => ?_, fun i hi => ?_, ?_, fun i j hi hj e => ?_, fun q w u => ?_⟩
      · show f_X12_forgets_L4 key _ (q + 1) (nI n) (nI k) s = f_X12_forgets_L4 key _ q (nI (n + 1)) (nI (k + 1)) (sC (sC (sC s 4 n (y.1 4 k)) 5 n (y.1 5 k)) 6 n (y.1 6 k))
        simp (disch := omega) only [f_X12_forgets_L4, ↓nmk_e, ↓reduceIte, Option.bind_some, Option.map_some, lit, ofN, nI_add, pk_sub, pk_mul, nI_clamp, nI_leI, nI_ltI, nI_eq, pk_div, nI_an, nleT, nleF, nltT, nltF, neqT, neqF, or_false, false_or, or_self, or_true, true_or, and_self, and_true, true_and, and_false, false_and, not_true_eq_false, not_false_eq_true, f_X12_isSort, f_X12_isDay, f_X11_isSort, f_X11_isDay, inI, inP, f_X5_size, f_X5_isFull, f_X11_now, f_X2_isKind, f_X2_has, f_X3_has, f_X8_hasPage, f_X8_hasAllPages, f_X8_stands, f_X1_isPrinted, f_X1_rule, f_X9_has, f_X9_isFull, f_X12_isPage, f_X12_isVerse, sC_s, sC_n, sC_2, sN_1, sN_s, sN_n, sN_2, sS_1, sS_2, sS_s, sS_n, upd_s, upd_e, upd_n, rAt, rPut, rAdd, rSwap, rPush, rNumber, cp_0, cp_1, cp_2, cp_3, cp_4, cp_5, cp_6, cp_7, cp_8, cp_9, cp_10, cp_11, cp_12, cp_13, cp_14, cp_15, cp_16, cp_17, cp_18, cp_19, cp_20, cp_21, cp_22, cp_23, cp_24, cp_25, cp_26, cp_27, cp_28, cp_29, cp_30, cp_31, cp_32, cp_33, cp_34, cp_35, cp_36, cp_37, cp_38, cp_39, cp_40, cp_41, cp_42, cp_43, cp_44, cp_45, cp_46, cp_47, cp_48, cp_49, cp_50, cp_51, cp_52, cp_53, cp_54, cp_55, cp_56, cp_57, e13, k1, c, k2, k3]
      · show (sC (sC (sC s 4 n (y.1 4 k)) 5 n (y.1 5 k)) 6 n (y.1 6 k)).1 a = _
        simp (disch := omega) only [sC_s, sC_n, sC_2, sN_1, sN_s, sN_n, sN_2, sS_1, sS_2, sS_s, sS_n, upd_s, upd_e, upd_n]
        exact g2 a a1 a2 a3
      · obtain ⟨i1, i2, i3⟩ := g3 i (by omega)
        show s'.1 4 i = _ ∧ s'.1 5 i = _ ∧ s'.1 6 i = _
        rw [u4, u5, u6, upd_n _ _ (by omega), upd_n _ _ (by omega), upd_n _ _ (by omega)]
        exact ⟨i1, i2, i3⟩
      · rcases g4 with ⟨a, b⟩ | ⟨a, i, hi, b⟩
        · refine .inl ⟨by omega, fun i hi => ?_⟩
          by_cases ci : i = k
          · rw [ci]; exact c
          · exact b i (by omega)
        · exact .inr ⟨by omega, i, by omega, b⟩
      · have e : s'.1 4 i = s'.1 4 j := e
        rw [u4] at e
        by_cases ci : i = n
        · by_cases cj : j = n
          · omega
          · rw [ci, upd_s, upd_n _ _ cj] at e
            exact absurd e.symm (hnot j (by omega))
        · by_cases cj : j = n
          · rw [cj, upd_s, upd_n _ _ ci] at e
            exact absurd e (hnot i (by omega))
          · rw [upd_n _ _ ci, upd_n _ _ cj] at e
            exact g5 i j (by omega) (by omega) e
      · show (∃ i, i < n + 1 ∧ s'.1 4 i = q ∧ s'.1 5 i = w ∧ s'.1 6 i = u) ↔ _
        rw [u4, u5, u6]
        constructor
        · rintro ⟨i, hi, e1, e2, e3⟩
          by_cases ci : i = n
          · rw [ci, upd_s] at e1 e2 e3
            exact ⟨fun z => c (by rw [e1, z]), k, by omega, e1, e2, e3⟩
          · rw [upd_n _ _ ci] at e1 e2 e3
            obtain ⟨z1, j, z2, z3⟩ := (g6 q w u).mp ⟨i, by omega, e1, e2, e3⟩
            exact ⟨z1, j, by omega, z3⟩
        · rintro ⟨z1, i, hi, e1, e2, e3⟩
          by_cases ci : i = k
          · subst ci
            exact ⟨n, by omega, by rw [upd_s]; exact e1, by rw [upd_s]; exact e2, by rw [upd_s]; exact e3⟩
          · obtain ⟨j, hj, f1, f2, f3⟩ := (g6 q w u).mpr ⟨z1, i, by omega, e1, e2, e3⟩
            exact ⟨j, by omega, by rw [upd_n _ _ (by omega)]; exact f1, by rw [upd_n _ _ (by omega)]; exact f2, by rw [upd_n _ _ (by omega)]; exact f3⟩
