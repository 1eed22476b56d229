/-! isSet of the class against sets of the reference -/
theorem l_copy {u : CW} {x z : Nat} (hx : x < 10) (hz : z ≤ 60) (h10 : u.1 10 x = nI z) : ∃ u', f_X9_copyTo u (nI x) 40 = some u' ∧ (∀ a, a ≠ 40 → u'.1 a = u.1 a) ∧ (∀ a, a ≠ 40 → u'.2.1 a = u.2.1 a) ∧ u'.2.2 = u.2.2 ∧ u'.2.1 40 = nI z ∧ ∀ i, i < z → u'.1 40 i = u.1 11 (x * 60 + i) := by
  unfold f_X9_copyTo
  rw [nmk_e]
  refine run1 (fun q i s => f_X9_copyTo_L6 (nI x) 40 q i s) (fun i s => (∀ a, a ≠ 40 → s.1 a = u.1 a) ∧ (∀ a, a ≠ 40 → s.2.1 a = u.2.1 a) ∧ s.2.2 = u.2.2 ∧ s.2.1 40 = nI i ∧ ∀ t, t < i → s.1 40 t = u.1 11 (x * 60 + t)) z (fun r => ∃ u', r = some u' ∧ (∀ a, a ≠ 40 → u'.1 a = u.1 a) ∧ (∀ a, a ≠ 40 → u'.2.1 a = u.2.1 a) ∧ u'.2.2 = u.2.2 ∧ u'.2.1 40 = nI z ∧ ∀ i, i < z → u'.1 40 i = u.1 11 (x * 60 + i)) ?_ ?_ FU 0 (f_X5_clear u 40) (Nat.zero_le _) (by unfold FU; omega) ⟨fun _ _ => rfl, fun a ha => ?_, rfl, ?_, fun t ht => absurd ht (Nat.not_lt_zero t)⟩
  · rintro q s ⟨h1, h2, h3, h4, h5⟩
    have e10 : s.1 10 x = nI z := by rw [h1 10 (by decide)]; exact h10
    refine ⟨s, ?_, h1, h2, h3, h4, h5⟩
    simp (disch := omega) only [f_X9_copyTo_L6, ↓nmk_e, ↓reduceIte, Option.bind_some, Option.map_some, lit, ofN, nI_add, pk_sub, pk_mul, nI_clamp, nI_leI, nI_ltI, nI_eq, pk_div, nI_an, nleT, nleF, nltT, nltF, neqT, neqF, or_false, false_or, or_self, or_true, true_or, and_self, and_true, true_and, and_false, false_and, not_true_eq_false, not_false_eq_true, f_X12_isSort, f_X12_isDay, f_X11_isSort, f_X11_isDay, inI, inP, f_X5_size, f_X5_isFull, f_X11_now, f_X2_isKind, f_X2_has, f_X3_has, f_X8_hasPage, f_X8_hasAllPages, f_X8_stands, f_X1_isPrinted, f_X1_rule, f_X9_has, f_X9_isFull, f_X12_isPage, f_X12_isVerse, sC_s, sC_n, sC_2, sN_1, sN_s, sN_n, sN_2, sS_1, sS_2, sS_s, sS_n, upd_s, upd_e, upd_n, rAt, rPut, rAdd, rSwap, rPush, rNumber, cp_0, cp_1, cp_2, cp_3, cp_4, cp_5, cp_6, cp_7, cp_8, cp_9, cp_10, cp_11, cp_12, cp_13, cp_14, cp_15, cp_16, cp_17, cp_18, cp_19, cp_20, cp_21, cp_22, cp_23, cp_24, cp_25, cp_26, cp_27, cp_28, cp_29, cp_30, cp_31, cp_32, cp_33, cp_34, cp_35, cp_36, cp_37, cp_38, cp_39, cp_40, cp_41, cp_42, cp_43, cp_44, cp_45, cp_46, cp_47, cp_48, cp_49, cp_50, cp_51, cp_52, cp_53, cp_54, cp_55, cp_56, cp_57, e10]
  · rintro q i s hi ⟨h1, h2, h3, h4, h5⟩
    have e10 : s.1 10 x = nI z := by rw [h1 10 (by decide)]; exact h10
    have e11 : s.1 11 (x * 60 + i) = u.1 11 (x * 60 + i) := by rw [h1 11 (by decide)]
    refine .inr ⟨sN (sC s 40 i (u.1 11 (x * 60 + i))) 40 (nI (i + 1)), ?_, fun a ha => ?_, fun a ha => ?_, h3, ?_, fun t ht => ?_⟩
    · simp (disch := omega) only [f_X9_copyTo_L6, ↓nmk_e, ↓reduceIte, Option.bind_some, Option.map_some, lit, ofN, nI_add, pk_sub, pk_mul, nI_clamp, nI_leI, nI_ltI, nI_eq, pk_div, nI_an, nleT, nleF, nltT, nltF, neqT, neqF, or_false, false_or, or_self, or_true, true_or, and_self, and_true, true_and, and_false, false_and, not_true_eq_false, not_false_eq_true, f_X12_isSort, f_X12_isDay, f_X11_isSort, f_X11_isDay, inI, inP, f_X5_size, f_X5_isFull, f_X11_now, f_X2_isKind, f_X2_has, f_X3_has, f_X8_hasPage, f_X8_hasAllPages, f_X8_stands, f_X1_isPrinted, f_X1_rule, f_X9_has, f_X9_isFull, f_X12_isPage, f_X12_isVerse, sC_s, sC_n, sC_2, sN_1, sN_s, sN_n, sN_2, sS_1, sS_2, sS_s, sS_n, upd_s, upd_e, upd_n, rAt, rPut, rAdd, rSwap, rPush, rNumber, cp_0, cp_1, cp_2, cp_3, cp_4, cp_5, cp_6, cp_7, cp_8, cp_9, cp_10, cp_11, cp_12, cp_13, cp_14, cp_15, cp_16, cp_17, cp_18, cp_19, cp_20, cp_21, cp_22, cp_23, cp_24, cp_25, cp_26, cp_27, cp_28, cp_29, cp_30, cp_31, cp_32, cp_33, cp_34, cp_35, cp_36, cp_37, cp_38, cp_39, cp_40, cp_41, cp_42, cp_43, cp_44, cp_45, cp_46, cp_47, cp_48, cp_49, cp_50, cp_51, cp_52, cp_53, cp_54, cp_55, cp_56, cp_57, e10, e11, h4]
    · simp (disch := omega) only [sC_s, sC_n, sC_2, sN_1, sN_s, sN_n, sN_2, sS_1, sS_2, sS_s, sS_n, upd_s, upd_e, upd_n]; exact h1 a ha
    · simp (disch := omega) only [sC_s, sC_n, sC_2, sN_1, sN_s, sN_n, sN_2, sS_1, sS_2, sS_s, sS_n, upd_s, upd_e, upd_n]; exact h2 a ha
    · simp (disch := omega) only [sC_s, sC_n, sC_2, sN_1, sN_s, sN_n, sN_2, sS_1, sS_2, sS_s, sS_n, upd_s, upd_e, upd_n]
    · by_cases c : t = i
      · subst c; simp (disch := omega) only [sC_s, sC_n, sC_2, sN_1, sN_s, sN_n, sN_2, sS_1, sS_2, sS_s, sS_n, upd_s, upd_e, upd_n]
      · simp (disch := omega) only [sC_s, sC_n, sC_2, sN_1, sN_s, sN_n, sN_2, sS_1, sS_2, sS_s, sS_n, upd_s, upd_e, upd_n]; exact h5 t (by omega)
  · show (sN u 40 (nI 0)).2.1 a = _
    simp (disch := omega) only [sC_s, sC_n, sC_2, sN_1, sN_s, sN_n, sN_2, sS_1, sS_2, sS_s, sS_n, upd_s, upd_e, upd_n]
  · show (sN u 40 (nI 0)).2.1 40 = _
    simp (disch := omega) only [sC_s, sC_n, sC_2, sN_1, sN_s, sN_n, sN_2, sS_1, sS_2, sS_s, sS_n, upd_s, upd_e, upd_n]
theorem l_isSet2 {w v : CW} (h : Sim w v) {x m D : Nat} (n2 : v.1 0 2 = nI m) (hm : m ≤ 10) (hx : x < m) (hD : D ≤ 999) : ∃ b w' v', f_X11_isSet w (nI x) (nI D) (nI 0) = some (nI b, w') ∧ f_X12_sets v (nI x) (nI D) = some (nI b, v') ∧ Sim w' v' ∧ v'.1 0 = v.1 0 ∧ (b = 0 ∨ (b = 1 ∧ w'.2.2 7 = v'.2.2 21 ∧ ∃ z ch WD A L, z ≤ 60 ∧ StC w' z ch WD A ∧ EnvR v' x z ch WD A ∧ Outs w' v' z L)) := by
  obtain ⟨mw, hC, hR, hF⟩ := WC_of h
  obtain ⟨y0, e1, e2, e3, e4, e5⟩ := l_looks hR hD
  obtain ⟨w1, q1, q2, q3⟩ := l_gather hC (fun a ha => (hR.2.2 a ha).2.2.2) hD
  generalize foA (v.1 0) (dyF (v.1 0)) D (ordR (dyF (v.1 0)) mw) = A at *
  obtain ⟨m', hm', m1, m2, g3⟩ := h.g3
  have g4 := h.g4
  have hmm : m = m' := by
    have := congrArg tN (n2.symm.trans m2)
    rw [show tN (nI m) = m from nI_clamp (by omega), show tN (nI m') = m' from nI_clamp (by omega)] at this
    exact this
  obtain ⟨z, z1, z2, z3, z4, z5⟩ := g3 x (by omega)
  obtain ⟨u, c1, c2, c3, c4, c5, c6⟩ := l_copy (u := w1) (x := x) (by omega) z2 (by rw [q2.1 10 (by decide) (by decide) (by decide)]; exact z3)
  have hch : ∀ i, i < z → v.1 0 (1670 + 60 * x + i) = nI (tN (v.1 0 (1670 + 60 * x + i))) ∧ (tN (v.1 0 (1670 + 60 * x + i)) = 32 ∨ (97 ≤ tN (v.1 0 (1670 + 60 * x + i)) ∧ tN (v.1 0 (1670 + 60 * x + i)) ≤ 122)) ∧ w.1 11 (x * 60 + i) = (if 97 ≤ tN (v.1 0 (1670 + 60 * x + i)) then nI (tN (v.1 0 (1670 + 60 * x + i)) - 97) else -nI 1) := fun i hi => by
    rcases z5 i hi with ⟨a1, a2⟩ | ⟨c, hc, a1, a2⟩
    · have e : tN (v.1 0 (1670 + 60 * x + i)) = 32 := by rw [a2]; exact nI_clamp (by omega)
      rw [e]
      exact ⟨a2, .inl rfl, a1⟩
    · have e : tN (v.1 0 (1670 + 60 * x + i)) = 97 + c := by rw [a2]; exact nI_clamp (by omega)
      rw [e]
      refine ⟨a2, .inr ⟨by omega, by omega⟩, ?_⟩
      rw [if_pos (by omega), a1, Nat.add_sub_cancel_left]
  have hW : ∀ c, c < 27 → v.1 0 (20 + c) = nI (tN (v.1 0 (20 + c))) ∧ 1 ≤ tN (v.1 0 (20 + c)) ∧ tN (v.1 0 (20 + c)) ≤ 9 := fun c hc => brt (by decide) (g4 c hc).2.1
  have hER : EnvR y0 x z (fun i => tN (v.1 0 (1670 + 60 * x + i))) (fun c => tN (v.1 0 (20 + c))) A := by
    refine ⟨?_, e3, e5, ?_⟩
    · rw [e2.1 0 (by decide)]
      exact ⟨by omega, z1, z2, z4, fun i hi => ⟨(hch i hi).1, (hch i hi).2.1⟩⟩
    · rw [e2.1 0 (by decide)]; exact hW
  have hEC : EnvC u z (fun i => tN (v.1 0 (1670 + 60 * x + i))) (fun c => tN (v.1 0 (20 + c))) A := by
    obtain ⟨k1, k2, k3, k4, k5, k6, k7, k8⟩ := q3
    refine ⟨z1, z2, c5, fun i hi => ⟨?_, (hch i hi).2.1⟩, ⟨?_, ?_, ?_, ?_, ?_, ?_, k7, ?_⟩, e5, fun c hc => ⟨?_, (hW c hc).2⟩⟩
    · rw [c6 i hi, q2.1 11 (by decide) (by decide) (by decide)]; exact (hch i hi).2.2
    · rw [c4]; exact k1
    · rw [c4]; exact k2
    · rw [c4]; exact k3
    · rw [c4]; exact k4
    · rw [c4]; exact k5
    · rw [c3 37 (by decide)]; exact k6
    · rw [c2 37 (by decide), c2 38 (by decide), c2 39 (by decide)]; exact k8
    · rw [c2 12 (by decide), q2.1 12 (by decide) (by decide) (by decide), (g4 c hc).1]; exact (hW c hc).1
  obtain ⟨b, u', y', f1, f2, f3, f4, f5, f6⟩ := l_both hEC e1 hER
  refine ⟨b, u', y', ?_, f2, ?_, by rw [f4 0 (by decide), e2.1 0 (by decide)], ?_⟩
  · unfold f_X11_isSet
    rw [q1, Option.bind_some, c1, Option.bind_some, f1]; rfl
  · refine Sim_scr h (fun k hk => ⟨?_, ?_⟩) ?_ ?_ ?_ ?_
    · rw [f3.1 k (by omega), c2 k (by omega), q2.1 k (by omega) (by omega) (by omega)]
    · rw [f3.2.1 k (by omega), c3 k (by omega), q2.2.1 k (by omega)]
    · rw [f3.2.2 10 (by decide), c4, q2.2.2 10 (by decide)]
    · rw [f4 0 (by decide), e2.1 0 (by decide)]
    · rw [f4 1 (by decide), e2.1 1 (by decide)]
    · rw [f5 3 (by decide), e2.2.2 3 (by decide)]
  · rcases f6 with f6 | ⟨f6, f7, f9, f10, L, f8⟩
    · exact .inl f6
    · exact .inr ⟨f6, f7, z, _, _, A, L, z2, f9, f10, f8⟩
theorem l_isSet {w v : CW} (h : Sim w v) {x m D : Nat} (n2 : v.1 0 2 = nI m) (hm : m ≤ 10) (hx : x < m) (hD : D ≤ 999) : ∃ b w' v', f_X11_isSet w (nI x) (nI D) (nI 0) = some (nI b, w') ∧ f_X12_sets v (nI x) (nI D) = some (nI b, v') ∧ Sim w' v' ∧ (b = 0 ∨ (b = 1 ∧ w'.2.2 7 = v'.2.2 21 ∧ ∃ z ch WD A L, z ≤ 60 ∧ StC w' z ch WD A ∧ EnvR v' x z ch WD A ∧ Outs w' v' z L)) := by
  obtain ⟨b, w', v', e1, e2, e3, -, e4⟩ := l_isSet2 h n2 hm hx hD
  exact ⟨b, w', v', e1, e2, e3, e4⟩
