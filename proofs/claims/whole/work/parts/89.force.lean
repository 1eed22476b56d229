/-! looks, feasts, force -/
theorem l_clrF {y : CW} : ∃ y', (∀ j, f_X12_looks_L44 j FU (nI 0) y = j y') ∧ FeR y' (fun _ => False) ∧ (∀ k, k ≠ 7 → y'.1 k = y.1 k) ∧ y'.2 = y.2 := by
  refine run1 (fun q i x => fun j => f_X12_looks_L44 j q i x) (fun i x => (∀ k, k ≠ 7 → x.1 k = y.1 k) ∧ x.2 = y.2 ∧ ∀ d, d < i → x.1 7 d = nI 0) 30 (fun z => ∃ y', (∀ j, z j = j y') ∧ FeR y' (fun _ => False) ∧ (∀ k, k ≠ 7 → y'.1 k = y.1 k) ∧ y'.2 = y.2) ?_ ?_ FU 0 y (Nat.zero_le _) (by unfold FU; omega) ⟨fun _ _ => rfl, rfl, fun d hd => absurd hd (Nat.not_lt_zero d)⟩
  · rintro q x ⟨h1, h2, h3⟩
    refine ⟨x, fun j => ?_, fun d hd => .inr ⟨id, h3 d hd⟩, h1, h2⟩
    simp (disch := omega) only [f_X12_looks_L44, ↓nmk_e, ↓reduceIte, Option.bind_some, Option.map_some, lit, ofN, nI_add, pk_sub, pk_mul, nI_clamp, nI_leI, nI_ltI, nI_eq, pk_div, nI_an, nleT, nleF, nltT, nltF, neqT, neqF, or_false, false_or, or_self, or_true, true_or, and_self, and_true, true_and, and_false, false_and, not_true_eq_false, not_false_eq_true, f_X12_isSort, f_X12_isDay, f_X11_isSort, f_X11_isDay, inI, inP, f_X5_size, f_X5_isFull, f_X11_now, f_X2_isKind, f_X2_has, f_X3_has, f_X8_hasPage, f_X8_hasAllPages, f_X8_stands, f_X1_isPrinted, f_X1_rule, f_X9_has, f_X9_isFull, f_X12_isPage, f_X12_isVerse, sC_s, sC_n, sC_2, sN_1, sN_s, sN_n, sN_2, sS_1, sS_2, sS_s, sS_n, upd_s, upd_e, upd_n, rAt, rPut, rAdd, rSwap, rPush, rNumber, cp_0, cp_1, cp_2, cp_3, cp_4, cp_5, cp_6, cp_7, cp_8, cp_9, cp_10, cp_11, cp_12, cp_13, cp_14, cp_15, cp_16, cp_17, cp_18, cp_19, cp_20, cp_21, cp_22, cp_23, cp_24, cp_25, cp_26, cp_27, cp_28, cp_29, cp_30, cp_31, cp_32, cp_33, cp_34, cp_35, cp_36, cp_37, cp_38, cp_39, cp_40, cp_41, cp_42, cp_43, cp_44, cp_45, cp_46, cp_47, cp_48, cp_49, cp_50, cp_51, cp_52, cp_53, cp_54, cp_55, cp_56, cp_57]
  · rintro q i x hi ⟨h1, h2, h3⟩
    refine .inr ⟨sC x 7 i (nI 0), funext fun j => ?_, fun k hk => ?_, h2, fun d hd => ?_⟩
    · simp (disch := omega) only [f_X12_looks_L44, ↓nmk_e, ↓reduceIte, Option.bind_some, Option.map_some, lit, ofN, nI_add, pk_sub, pk_mul, nI_clamp, nI_leI, nI_ltI, nI_eq, pk_div, nI_an, nleT, nleF, nltT, nltF, neqT, neqF, or_false, false_or, or_self, or_true, true_or, and_self, and_true, true_and, and_false, false_and, not_true_eq_false, not_false_eq_true, f_X12_isSort, f_X12_isDay, f_X11_isSort, f_X11_isDay, inI, inP, f_X5_size, f_X5_isFull, f_X11_now, f_X2_isKind, f_X2_has, f_X3_has, f_X8_hasPage, f_X8_hasAllPages, f_X8_stands, f_X1_isPrinted, f_X1_rule, f_X9_has, f_X9_isFull, f_X12_isPage, f_X12_isVerse, sC_s, sC_n, sC_2, sN_1, sN_s, sN_n, sN_2, sS_1, sS_2, sS_s, sS_n, upd_s, upd_e, upd_n, rAt, rPut, rAdd, rSwap, rPush, rNumber, cp_0, cp_1, cp_2, cp_3, cp_4, cp_5, cp_6, cp_7, cp_8, cp_9, cp_10, cp_11, cp_12, cp_13, cp_14, cp_15, cp_16, cp_17, cp_18, cp_19, cp_20, cp_21, cp_22, cp_23, cp_24, cp_25, cp_26, cp_27, cp_28, cp_29, cp_30, cp_31, cp_32, cp_33, cp_34, cp_35, cp_36, cp_37, cp_38, cp_39, cp_40, cp_41, cp_42, cp_43, cp_44, cp_45, cp_46, cp_47, cp_48, cp_49, cp_50, cp_51, cp_52, cp_53, cp_54, cp_55, cp_56, cp_57, nar0]
    · simp (disch := omega) only [sC_s, sC_n, sC_2, sN_1, sN_s, sN_n, sN_2, sS_1, sS_2, sS_s, sS_n, upd_s, upd_e, upd_n]; exact h1 k hk
    · by_cases c : d = i
      · subst c; simp (disch := omega) only [sC_s, sC_n, sC_2, sN_1, sN_s, sN_n, sN_2, sS_1, sS_2, sS_s, sS_n, upd_s, upd_e, upd_n]
      · simp (disch := omega) only [sC_s, sC_n, sC_2, sN_1, sN_s, sN_n, sN_2, sS_1, sS_2, sS_s, sS_n, upd_s, upd_e, upd_n]; exact h3 d (by omega)
theorem l_lookI {y : CW} {d : Nat → Nat} {m D : Nat} (h : WR (y.1 0) d m) (hc : (∀ a, a < m → wayN (y.1 0) a ≤ 8) ∧ m ≤ 9) (hD : D ≤ 999) (hRep : Rep (y.1 2) (ordR d m)) (hQ : RQ2 y iniA) (hF : FeR y (fun _ => False)) :
    ∃ y', (∀ j, f_X12_looks_L157 (nI D) (nI m) j FU (nI 0) y = j y') ∧ RFr y y' ∧ RQ2 y' (foA (y.1 0) d D (ordR d m)) ∧ FeR y' (fun dd => ∃ a, a < m ∧ d a ≤ D ∧ FeW (y.1 0) a dd) := by
  have hlen := ordR_len d m
  have key := run1 (fun q i z => fun j => f_X12_looks_L157 (nI D) (nI m) j q i z) (fun i z => RFr y z ∧ z.1 2 = y.1 2 ∧ RQ2 z (foA (y.1 0) d D ((ordR d m).drop (m - i))) ∧ FeR z (fun dd => ∃ a, a ∈ (ordR d m).drop (m - i) ∧ d a ≤ D ∧ FeW (y.1 0) a dd)) m (fun r => ∃ y', (∀ j, r j = j y') ∧ RFr y y' ∧ RQ2 y' (foA (y.1 0) d D (ordR d m)) ∧ FeR y' (fun dd => ∃ a, a < m ∧ d a ≤ D ∧ FeW (y.1 0) a dd)) ?_ ?_ FU 0 y (Nat.zero_le _) (by unfold FU; omega) ⟨RFr.refl y, rfl, by rw [Nat.sub_zero, List.drop_eq_nil_of_le (by omega)]; exact hQ, by
      rw [Nat.sub_zero, List.drop_eq_nil_of_le (by omega)]
      exact hF.congr fun dd _ => ⟨False.elim, fun ⟨a, ha, _⟩ => absurd ha List.not_mem_nil⟩⟩
  · exact key
  · rintro q z ⟨h1, h2, h3, h4⟩
    rw [Nat.sub_self, List.drop_zero] at h3 h4
    refine ⟨z, fun j => ?_, h1, h3, h4.congr fun dd _ => exists_congr fun a => by rw [ordR_mem]⟩
    simp (disch := omega) only [f_X12_looks_L157, ↓nmk_e, ↓reduceIte, Option.bind_some, Option.map_some, lit, ofN, nI_add, pk_sub, pk_mul, nI_clamp, nI_leI, nI_ltI, nI_eq, pk_div, nI_an, nleT, nleF, nltT, nltF, neqT, neqF, or_false, false_or, or_self, or_true, true_or, and_self, and_true, true_and, and_false, false_and, not_true_eq_false, not_false_eq_true, f_X12_isSort, f_X12_isDay, f_X11_isSort, f_X11_isDay, inI, inP, f_X5_size, f_X5_isFull, f_X11_now, f_X2_isKind, f_X2_has, f_X3_has, f_X8_hasPage, f_X8_hasAllPages, f_X8_stands, f_X1_isPrinted, f_X1_rule, f_X9_has, f_X9_isFull, f_X12_isPage, f_X12_isVerse, sC_s, sC_n, sC_2, sN_1, sN_s, sN_n, sN_2, sS_1, sS_2, sS_s, sS_n, upd_s, upd_e, upd_n, rAt, rPut, rAdd, rSwap, rPush, rNumber, cp_0, cp_1, cp_2, cp_3, cp_4, cp_5, cp_6, cp_7, cp_8, cp_9, cp_10, cp_11, cp_12, cp_13, cp_14, cp_15, cp_16, cp_17, cp_18, cp_19, cp_20, cp_21, cp_22, cp_23, cp_24, cp_25, cp_26, cp_27, cp_28, cp_29, cp_30, cp_31, cp_32, cp_33, cp_34, cp_35, cp_36, cp_37, cp_38, cp_39, cp_40, cp_41, cp_42, cp_43, cp_44, cp_45, cp_46, cp_47, cp_48, cp_49, cp_50, cp_51, cp_52, cp_53, cp_54, cp_55, cp_56, cp_57]
  · rintro q i z hi ⟨h1, h2, h3, h4⟩
    have e0 : z.1 0 = y.1 0 := h1.1 0 (by decide)
    have hlt : m - 1 - i < (ordR d m).length := by omega
    obtain ⟨a, hadef⟩ : ∃ a, a = (ordR d m)[m - 1 - i] := ⟨_, rfl⟩
    have ham : a < m := ordR_mem.mp (by rw [hadef]; exact List.getElem_mem hlt)
    have e2 : z.1 2 i = nI a := by
      rw [h2, hRep i (by omega), hlen, List.getD_eq_getElem?_getD, List.getElem?_eq_getElem hlt, hadef]; rfl
    have hdrop : (ordR d m).drop (m - (i + 1)) = a :: (ordR d m).drop (m - i) := by
      rw [show m - (i + 1) = m - 1 - i by omega, List.drop_eq_getElem_cons hlt, hadef, show m - 1 - i + 1 = m - i by omega]
    obtain ⟨k1, k2, k3, k4⟩ := h.2.2 a ham
    have hcnt := foA_f (s := y.1 0) (d := d) (D := D) (l := (ordR d m).drop (m - i)) (fun b hb => hc.1 b (ordR_mem.mp (List.mem_of_mem_drop hb)))
    rw [List.length_drop, hlen] at hcnt
    have hwn := hc.1 a ham
    obtain ⟨y', q1, q2, q3, q4, q5⟩ := l_wayR (a := a) (D := D) (i := i) h3 h4 (by omega) (by omega) (by rw [e0]; omega) (by rw [e0]; exact k4) (by rw [e0, k2]; exact k1) (by rw [e0, k2]; exact k3) hD e2
    rw [e0, k2] at q4 q5
    rw [hdrop, foA_cons]
    refine .inr ⟨y', funext fun j => ?_, h1.trans q2, q3.trans h2, q4, q5.congr fun dd _ => ?_⟩
    · simp (disch := omega) only [f_X12_looks_L157, ↓nmk_e, ↓reduceIte, Option.bind_some, Option.map_some, lit, ofN, nI_add, pk_sub, pk_mul, nI_clamp, nI_leI, nI_ltI, nI_eq, pk_div, nI_an, nleT, nleF, nltT, nltF, neqT, neqF, or_false, false_or, or_self, or_true, true_or, and_self, and_true, true_and, and_false, false_and, not_true_eq_false, not_false_eq_true, f_X12_isSort, f_X12_isDay, f_X11_isSort, f_X11_isDay, inI, inP, f_X5_size, f_X5_isFull, f_X11_now, f_X2_isKind, f_X2_has, f_X3_has, f_X8_hasPage, f_X8_hasAllPages, f_X8_stands, f_X1_isPrinted, f_X1_rule, f_X9_has, f_X9_isFull, f_X12_isPage, f_X12_isVerse, sC_s, sC_n, sC_2, sN_1, sN_s, sN_n, sN_2, sS_1, sS_2, sS_s, sS_n, upd_s, upd_e, upd_n, rAt, rPut, rAdd, rSwap, rPush, rNumber, cp_0, cp_1, cp_2, cp_3, cp_4, cp_5, cp_6, cp_7, cp_8, cp_9, cp_10, cp_11, cp_12, cp_13, cp_14, cp_15, cp_16, cp_17, cp_18, cp_19, cp_20, cp_21, cp_22, cp_23, cp_24, cp_25, cp_26, cp_27, cp_28, cp_29, cp_30, cp_31, cp_32, cp_33, cp_34, cp_35, cp_36, cp_37, cp_38, cp_39, cp_40, cp_41, cp_42, cp_43, cp_44, cp_45, cp_46, cp_47, cp_48, cp_49, cp_50, cp_51, cp_52, cp_53, cp_54, cp_55, cp_56, cp_57, q1]
    · constructor
      · rintro (⟨b, z1, z2⟩ | z)
        · exact ⟨b, List.mem_cons_of_mem _ z1, z2⟩
        · exact ⟨a, List.mem_cons_self, z⟩
      · rintro ⟨b, z1, z2⟩
        rcases List.mem_cons.mp z1 with rfl | z1
        · exact .inr z2
        · exact .inl ⟨b, z1, z2⟩
/-- looks -/
theorem l_looks {y : CW} {d : Nat → Nat} {m D : Nat} (h : WR (y.1 0) d m) (hD : D ≤ 999) : ∃ y', f_X12_looks y (nI D) = some y' ∧ RFr y y' ∧ RQ3 y' (foA (y.1 0) d D (ordR d m)) ∧ FeR y' (fun dd => ∃ a, a < m ∧ d a ≤ D ∧ FeW (y.1 0) a dd) ∧ okA (foA (y.1 0) d D (ordR d m)) := by
  let y0 := sS (sC (sC (sC (sC (sC y 3 2 (nI 12)) 3 3 (nI 1)) 3 4 (nI 3)) 3 5 (nI 5)) 3 6 (nI 1)) 13 (nI 0)
  have hy0 : y0 = sS (sC (sC (sC (sC (sC y 3 2 (nI 12)) 3 3 (nI 1)) 3 4 (nI 3)) 3 5 (nI 5)) 3 6 (nI 1)) 13 (nI 0) := rfl
  obtain ⟨y1, e1, F1, a1, b1⟩ := l_clrF (y := y0)
  have a0 : y1.1 0 = y.1 0 := by rw [a1 0 (by decide), hy0]; simp (disch := omega) only [sC_s, sC_n, sC_2, sN_1, sN_s, sN_n, sN_2, sS_1, sS_2, sS_s, sS_n, upd_s, upd_e, upd_n]
  obtain ⟨y2, e2, a2, b2, R2⟩ := l_line0 (y := y1) h.1 (by rw [a0]; exact h.2.1) (fun a ha => by
    obtain ⟨k1, k2, k3, -⟩ := h.2.2 a ha
    rw [a0, k2]; exact ⟨k1, k3⟩)
  have hord : ordR (dyF (y1.1 0)) m = ordR d m := ordR_congr fun a ha => by rw [a0]; exact (h.2.2 a ha).2.1
  rw [hord] at R2
  have a20 : y2.1 0 = y.1 0 := by rw [a2 0 (by decide), a0]
  have F2 : FeR y2 (fun _ => False) := fun dd hd => by rw [a2 7 (by decide)]; exact F1 dd hd
  have Q2 : RQ2 y2 iniA := by
    refine ⟨fun j j1 j2 => ?_, ?_, by show (0 : Nat) ≤ 72; omega, fun i j hi => absurd hi (Nat.not_lt_zero i), fun k w u => ⟨(fun z => by cases z), fun ⟨i, hi, _⟩ => absurd hi (Nat.not_lt_zero i)⟩⟩
    · rw [a2 3 (by decide), a1 3 (by decide), hy0]
      have : j = 2 ∨ j = 3 ∨ j = 4 ∨ j = 5 ∨ j = 6 := by omega
      rcases this with rfl | rfl | rfl | rfl | rfl <;> simp (disch := omega) only [sC_s, sC_n, sC_2, sN_1, sN_s, sN_n, sN_2, sS_1, sS_2, sS_s, sS_n, upd_s, upd_e, upd_n] <;> rfl
    · rw [b2, b1, hy0]; simp (disch := omega) only [sC_s, sC_n, sC_2, sN_1, sN_s, sN_n, sN_2, sS_1, sS_2, sS_s, sS_n, upd_s, upd_e, upd_n]; rfl
  obtain ⟨y3, e3, f3, q3, F3⟩ := l_lookI (y := y2) (d := d) (m := m) (D := D) (by rw [a20]; exact h) ⟨fun a ha => by rw [a20]; exact (h.2.2 a ha).2.2.2.2.1, h.1⟩ hD R2 Q2 F2
  rw [a20] at q3 F3
  have hA : okA (foA (y.1 0) d D (ordR d m)) := foA_ok fun a ha => (h.2.2 a (ordR_mem.mp ha)).2.2.2
  generalize foA (y.1 0) d D (ordR d m) = A at *
  obtain ⟨v2, w2⟩ := hA.v (j := 2) (by decide) (by decide)
  obtain ⟨v3, w3⟩ := hA.v (j := 3) (by decide) (by decide)
  obtain ⟨v4, w4⟩ := hA.v (j := 4) (by decide) (by decide)
  have u1 := (q3.1 2 (by decide) (by decide)).trans v2
  have u2 := (q3.1 3 (by decide) (by decide)).trans v3
  have u3 := (q3.1 4 (by decide) (by decide)).trans v4
  have b1' : max 10 (min (tN (A.1 2)) 40) = colN A := rfl
  have b2' : max 1 (min (tN (A.1 3)) 9) = leaN A := rfl
  have b3 := leaN_b A
  have b5 : max (leaN A) (min (tN (A.1 4)) 9) = mosN A := rfl
  refine ⟨sC (sC (sC y3 3 2 (nI (colN A))) 3 3 (nI (leaN A))) 3 4 (nI (mosN A)), ?_, ⟨fun k hk => ?_, ?_, fun k hk => ?_⟩, ⟨?_, ?_, ?_, ?_, ?_, ?_⟩, fun dd hd => ?_, hA⟩
  · have e1 : ∀ j, f_X12_looks_L44 j FU (nI 0) (sS (sC (sC (sC (sC (sC y 3 2 (nI 12)) 3 3 (nI 1)) 3 4 (nI 3)) 3 5 (nI 5)) 3 6 (nI 1)) 13 (nI 0)) = j y1 := e1
    unfold f_X12_looks
    simp (disch := omega) only [↓nmk_e, ↓reduceIte, Option.bind_some, Option.map_some, lit, ofN, nI_add, pk_sub, pk_mul, nI_clamp, nI_leI, nI_ltI, nI_eq, pk_div, nI_an, nleT, nleF, nltT, nltF, neqT, neqF, or_false, false_or, or_self, or_true, true_or, and_self, and_true, true_and, and_false, false_and, not_true_eq_false, not_false_eq_true, f_X12_isSort, f_X12_isDay, f_X11_isSort, f_X11_isDay, inI, inP, f_X5_size, f_X5_isFull, f_X11_now, f_X2_isKind, f_X2_has, f_X3_has, f_X8_hasPage, f_X8_hasAllPages, f_X8_stands, f_X1_isPrinted, f_X1_rule, f_X9_has, f_X9_isFull, f_X12_isPage, f_X12_isVerse, sC_s, sC_n, sC_2, sN_1, sN_s, sN_n, sN_2, sS_1, sS_2, sS_s, sS_n, upd_s, upd_e, upd_n, rAt, rPut, rAdd, rSwap, rPush, rNumber, cp_0, cp_1, cp_2, cp_3, cp_4, cp_5, cp_6, cp_7, cp_8, cp_9, cp_10, cp_11, cp_12, cp_13, cp_14, cp_15, cp_16, cp_17, cp_18, cp_19, cp_20, cp_21, cp_22, cp_23, cp_24, cp_25, cp_26, cp_27, cp_28, cp_29, cp_30, cp_31, cp_32, cp_33, cp_34, cp_35, cp_36, cp_37, cp_38, cp_39, cp_40, cp_41, cp_42, cp_43, cp_44, cp_45, cp_46, cp_47, cp_48, cp_49, cp_50, cp_51, cp_52, cp_53, cp_54, cp_55, cp_56, cp_57, e1, e2, e3, u1, u2, u3, limited_e, b1', b2', b5]
  · simp (disch := omega) only [sC_s, sC_n, sC_2, sN_1, sN_s, sN_n, sN_2, sS_1, sS_2, sS_s, sS_n, upd_s, upd_e, upd_n]
    rw [f3.1 k hk, a2 k (by omega), a1 k (by omega), hy0]
    simp (disch := omega) only [sC_s, sC_n, sC_2, sN_1, sN_s, sN_n, sN_2, sS_1, sS_2, sS_s, sS_n, upd_s, upd_e, upd_n]
  · show y3.2.1 = y.2.1
    rw [f3.2.1, b2, b1]; rfl
  · show y3.2.2 k = y.2.2 k
    rw [f3.2.2 k hk, b2, b1, hy0]
    simp (disch := omega) only [sC_s, sC_n, sC_2, sN_1, sN_s, sN_n, sN_2, sS_1, sS_2, sS_s, sS_n, upd_s, upd_e, upd_n]
  · simp (disch := omega) only [sC_s, sC_n, sC_2, sN_1, sN_s, sN_n, sN_2, sS_1, sS_2, sS_s, sS_n, upd_s, upd_e, upd_n]
  · simp (disch := omega) only [sC_s, sC_n, sC_2, sN_1, sN_s, sN_n, sN_2, sS_1, sS_2, sS_s, sS_n, upd_s, upd_e, upd_n]
  · simp (disch := omega) only [sC_s, sC_n, sC_2, sN_1, sN_s, sN_n, sN_2, sS_1, sS_2, sS_s, sS_n, upd_s, upd_e, upd_n]
  · simp (disch := omega) only [sC_s, sC_n, sC_2, sN_1, sN_s, sN_n, sN_2, sS_1, sS_2, sS_s, sS_n, upd_s, upd_e, upd_n]; exact q3.1 5 (by decide) (by decide)
  · simp (disch := omega) only [sC_s, sC_n, sC_2, sN_1, sN_s, sN_n, sN_2, sS_1, sS_2, sS_s, sS_n, upd_s, upd_e, upd_n]; exact q3.1 6 (by decide) (by decide)
  · obtain ⟨z1, z2, z3⟩ := q3.2
    exact ⟨z1, z2, by simp (disch := omega) only [sC_s, sC_n, sC_2, sN_1, sN_s, sN_n, sN_2, sS_1, sS_2, sS_s, sS_n, upd_s, upd_e, upd_n]; exact z3⟩
  · simp (disch := omega) only [sC_s, sC_n, sC_2, sN_1, sN_s, sN_n, sN_2, sS_1, sS_2, sS_s, sS_n, upd_s, upd_e, upd_n]; exact F3 dd hd
/-- the class's feasts -/
theorem l_feastC {x : CW} {s : Nat → Int32} {d : Nat → Nat} {m D : Nat} (h : WC x s d m) (hf : ∀ a, a < m → cFeast x.1 s a (wayN s a)) (hD : D ≤ 999) : (f_X10_isFeast x (nI D) = some (nI 1) ∧ ∃ a, a < m ∧ d a ≤ D ∧ FeW s a (D % 30)) ∨ (f_X10_isFeast x (nI D) = some (nI 0) ∧ ¬ ∃ a, a < m ∧ d a ≤ D ∧ FeW s a (D % 30)) := by
  obtain ⟨h1, h2, -, h4, -⟩ := h
  unfold f_X10_isFeast
  refine run1 (fun q i (_ : Unit) => f_X10_isFeast_L2 x (nI D) q i) (fun i _ => ∀ a, a < i → ¬ (d a ≤ D ∧ FeW s a (D % 30))) m (fun r => (r = some (nI 1) ∧ ∃ a, a < m ∧ d a ≤ D ∧ FeW s a (D % 30)) ∨ (r = some (nI 0) ∧ ¬ ∃ a, a < m ∧ d a ≤ D ∧ FeW s a (D % 30))) ?_ ?_ FU 0 () (Nat.zero_le _) (by unfold FU; omega) (fun a ha => absurd ha (Nat.not_lt_zero a))
  · rintro q _ hI
    refine .inr ⟨?_, fun ⟨a, z1, z2⟩ => hI a z1 z2⟩
    simp (disch := omega) only [f_X10_isFeast_L2, ↓nmk_e, ↓reduceIte, Option.bind_some, Option.map_some, lit, ofN, nI_add, pk_sub, pk_mul, nI_clamp, nI_leI, nI_ltI, nI_eq, pk_div, nI_an, nleT, nleF, nltT, nltF, neqT, neqF, or_false, false_or, or_self, or_true, true_or, and_self, and_true, true_and, and_false, false_and, not_true_eq_false, not_false_eq_true, f_X12_isSort, f_X12_isDay, f_X11_isSort, f_X11_isDay, inI, inP, f_X5_size, f_X5_isFull, f_X11_now, f_X2_isKind, f_X2_has, f_X3_has, f_X8_hasPage, f_X8_hasAllPages, f_X8_stands, f_X1_isPrinted, f_X1_rule, f_X9_has, f_X9_isFull, f_X12_isPage, f_X12_isVerse, sC_s, sC_n, sC_2, sN_1, sN_s, sN_n, sN_2, sS_1, sS_2, sS_s, sS_n, upd_s, upd_e, upd_n, rAt, rPut, rAdd, rSwap, rPush, rNumber, cp_0, cp_1, cp_2, cp_3, cp_4, cp_5, cp_6, cp_7, cp_8, cp_9, cp_10, cp_11, cp_12, cp_13, cp_14, cp_15, cp_16, cp_17, cp_18, cp_19, cp_20, cp_21, cp_22, cp_23, cp_24, cp_25, cp_26, cp_27, cp_28, cp_29, cp_30, cp_31, cp_32, cp_33, cp_34, cp_35, cp_36, cp_37, cp_38, cp_39, cp_40, cp_41, cp_42, cp_43, cp_44, cp_45, cp_46, cp_47, cp_48, cp_49, cp_50, cp_51, cp_52, cp_53, cp_54, cp_55, cp_56, cp_57, h2]
  · rintro q i _ hi hI
    obtain ⟨e2, e2l⟩ := h4 i hi
    obtain ⟨b, hb, e4, hbit⟩ := hf i hi
    have fm : f_J9_floorMod_7cf53 (nI D) (nI 30) = some (nI (D % 30)) := fmod (by omega) (by decide) (by decide)
    have sb := tb01 b (D % 30)
    have hbD := hbit (D % 30) (Nat.mod_lt _ (by decide))
    have next : ¬ (d i ≤ D ∧ FeW s i (D % 30)) → ∀ a, a < i + 1 → ¬ (d a ≤ D ∧ FeW s a (D % 30)) := fun z a ha => by
      by_cases c : a = i
      · rw [c]; exact z
      · exact hI a (by omega)
    by_cases c1 : d i ≤ D
    · by_cases c2 : b.testBit (D % 30) = true
      · rw [if_pos c2] at sb
        refine .inl (.inl ⟨?_, i, hi, c1, hbD.mp c2⟩)
        simp (disch := omega) only [f_X10_isFeast_L2, ↓nmk_e, ↓reduceIte, Option.bind_some, Option.map_some, lit, ofN, nI_add, pk_sub, pk_mul, nI_clamp, nI_leI, nI_ltI, nI_eq, pk_div, nI_an, nleT, nleF, nltT, nltF, neqT, neqF, or_false, false_or, or_self, or_true, true_or, and_self, and_true, true_and, and_false, false_and, not_true_eq_false, not_false_eq_true, f_X12_isSort, f_X12_isDay, f_X11_isSort, f_X11_isDay, inI, inP, f_X5_size, f_X5_isFull, f_X11_now, f_X2_isKind, f_X2_has, f_X3_has, f_X8_hasPage, f_X8_hasAllPages, f_X8_stands, f_X1_isPrinted, f_X1_rule, f_X9_has, f_X9_isFull, f_X12_isPage, f_X12_isVerse, sC_s, sC_n, sC_2, sN_1, sN_s, sN_n, sN_2, sS_1, sS_2, sS_s, sS_n, upd_s, upd_e, upd_n, rAt, rPut, rAdd, rSwap, rPush, rNumber, cp_0, cp_1, cp_2, cp_3, cp_4, cp_5, cp_6, cp_7, cp_8, cp_9, cp_10, cp_11, cp_12, cp_13, cp_14, cp_15, cp_16, cp_17, cp_18, cp_19, cp_20, cp_21, cp_22, cp_23, cp_24, cp_25, cp_26, cp_27, cp_28, cp_29, cp_30, cp_31, cp_32, cp_33, cp_34, cp_35, cp_36, cp_37, cp_38, cp_39, cp_40, cp_41, cp_42, cp_43, cp_44, cp_45, cp_46, cp_47, cp_48, cp_49, cp_50, cp_51, cp_52, cp_53, cp_54, cp_55, cp_56, cp_57, h2, e2, fm, e4, sbit, sb]
      · rw [if_neg c2] at sb
        refine .inr ⟨(), ?_, next fun z => c2 (hbD.mpr z.2)⟩
        simp (disch := omega) only [f_X10_isFeast_L2, ↓nmk_e, ↓reduceIte, Option.bind_some, Option.map_some, lit, ofN, nI_add, pk_sub, pk_mul, nI_clamp, nI_leI, nI_ltI, nI_eq, pk_div, nI_an, nleT, nleF, nltT, nltF, neqT, neqF, or_false, false_or, or_self, or_true, true_or, and_self, and_true, true_and, and_false, false_and, not_true_eq_false, not_false_eq_true, f_X12_isSort, f_X12_isDay, f_X11_isSort, f_X11_isDay, inI, inP, f_X5_size, f_X5_isFull, f_X11_now, f_X2_isKind, f_X2_has, f_X3_has, f_X8_hasPage, f_X8_hasAllPages, f_X8_stands, f_X1_isPrinted, f_X1_rule, f_X9_has, f_X9_isFull, f_X12_isPage, f_X12_isVerse, sC_s, sC_n, sC_2, sN_1, sN_s, sN_n, sN_2, sS_1, sS_2, sS_s, sS_n, upd_s, upd_e, upd_n, rAt, rPut, rAdd, rSwap, rPush, rNumber, cp_0, cp_1, cp_2, cp_3, cp_4, cp_5, cp_6, cp_7, cp_8, cp_9, cp_10, cp_11, cp_12, cp_13, cp_14, cp_15, cp_16, cp_17, cp_18, cp_19, cp_20, cp_21, cp_22, cp_23, cp_24, cp_25, cp_26, cp_27, cp_28, cp_29, cp_30, cp_31, cp_32, cp_33, cp_34, cp_35, cp_36, cp_37, cp_38, cp_39, cp_40, cp_41, cp_42, cp_43, cp_44, cp_45, cp_46, cp_47, cp_48, cp_49, cp_50, cp_51, cp_52, cp_53, cp_54, cp_55, cp_56, cp_57, h2, e2, fm, e4, sbit, sb]
    · refine .inr ⟨(), ?_, next fun z => c1 z.1⟩
      simp (disch := omega) only [f_X10_isFeast_L2, ↓nmk_e, ↓reduceIte, Option.bind_some, Option.map_some, lit, ofN, nI_add, pk_sub, pk_mul, nI_clamp, nI_leI, nI_ltI, nI_eq, pk_div, nI_an, nleT, nleF, nltT, nltF, neqT, neqF, or_false, false_or, or_self, or_true, true_or, and_self, and_true, true_and, and_false, false_and, not_true_eq_false, not_false_eq_true, f_X12_isSort, f_X12_isDay, f_X11_isSort, f_X11_isDay, inI, inP, f_X5_size, f_X5_isFull, f_X11_now, f_X2_isKind, f_X2_has, f_X3_has, f_X8_hasPage, f_X8_hasAllPages, f_X8_stands, f_X1_isPrinted, f_X1_rule, f_X9_has, f_X9_isFull, f_X12_isPage, f_X12_isVerse, sC_s, sC_n, sC_2, sN_1, sN_s, sN_n, sN_2, sS_1, sS_2, sS_s, sS_n, upd_s, upd_e, upd_n, rAt, rPut, rAdd, rSwap, rPush, rNumber, cp_0, cp_1, cp_2, cp_3, cp_4, cp_5, cp_6, cp_7, cp_8, cp_9, cp_10, cp_11, cp_12, cp_13, cp_14, cp_15, cp_16, cp_17, cp_18, cp_19, cp_20, cp_21, cp_22, cp_23, cp_24, cp_25, cp_26, cp_27, cp_28, cp_29, cp_30, cp_31, cp_32, cp_33, cp_34, cp_35, cp_36, cp_37, cp_38, cp_39, cp_40, cp_41, cp_42, cp_43, cp_44, cp_45, cp_46, cp_47, cp_48, cp_49, cp_50, cp_51, cp_52, cp_53, cp_54, cp_55, cp_56, cp_57, h2, e2]
/-- looks and gather only write scratch -/
theorem Sim_CR {w v w' v' : CW} (h : Sim w v) (hC : CFr w w') (hR : RFr v v') : Sim w' v' := by
  obtain ⟨c1, c2, c3⟩ := hC
  obtain ⟨r1, r2, r3⟩ := hR
  exact Sim_scr h (fun k hk => ⟨c1 k (by omega) (by omega) (by omega), c2 k (by omega)⟩) (c3 10 (by decide)) (r1 0 (by decide)) (r1 1 (by decide)) (r3 3 (by decide))
theorem s_force {w v : CW} (h : Sim w v) (a b : Int32) : Same w v (f_X11_force w a b) (f_X12_force v a b) := by
  obtain ⟨m, hC, hR, hF⟩ := WC_of h
  unfold f_X11_force f_X12_force
  rcases rng3 a 0 6 with c | ⟨i, hi, rfl, c⟩ | ⟨i, hi0, hi, hi2, rfl⟩
  · simp (disch := omega) only [↓nmk_e, ↓reduceIte, Option.bind_some, Option.map_some, lit, ofN, nI_add, pk_sub, pk_mul, nI_clamp, nI_leI, nI_ltI, nI_eq, pk_div, nI_an, nleT, nleF, nltT, nltF, neqT, neqF, or_false, false_or, or_self, or_true, true_or, and_self, and_true, true_and, and_false, false_and, not_true_eq_false, not_false_eq_true, f_X12_isSort, f_X12_isDay, f_X11_isSort, f_X11_isDay, inI, inP, f_X5_size, f_X5_isFull, f_X11_now, f_X2_isKind, f_X2_has, f_X3_has, f_X8_hasPage, f_X8_hasAllPages, f_X8_stands, f_X1_isPrinted, f_X1_rule, f_X9_has, f_X9_isFull, f_X12_isPage, f_X12_isVerse, sC_s, sC_n, sC_2, sN_1, sN_s, sN_n, sN_2, sS_1, sS_2, sS_s, sS_n, upd_s, upd_e, upd_n, rAt, rPut, rAdd, rSwap, rPush, rNumber, cp_0, cp_1, cp_2, cp_3, cp_4, cp_5, cp_6, cp_7, cp_8, cp_9, cp_10, cp_11, cp_12, cp_13, cp_14, cp_15, cp_16, cp_17, cp_18, cp_19, cp_20, cp_21, cp_22, cp_23, cp_24, cp_25, cp_26, cp_27, cp_28, cp_29, cp_30, cp_31, cp_32, cp_33, cp_34, cp_35, cp_36, cp_37, cp_38, cp_39, cp_40, cp_41, cp_42, cp_43, cp_44, cp_45, cp_46, cp_47, cp_48, cp_49, cp_50, cp_51, cp_52, cp_53, cp_54, cp_55, cp_56, cp_57, ng1 c, ng2 c, ng3 c, ng4 c, ng5 c, inN c]
    exact ⟨_, _, _, rfl, rfl, h⟩
  · simp (disch := omega) only [↓nmk_e, ↓reduceIte, Option.bind_some, Option.map_some, lit, ofN, nI_add, pk_sub, pk_mul, nI_clamp, nI_leI, nI_ltI, nI_eq, pk_div, nI_an, nleT, nleF, nltT, nltF, neqT, neqF, or_false, false_or, or_self, or_true, true_or, and_self, and_true, true_and, and_false, false_and, not_true_eq_false, not_false_eq_true, f_X12_isSort, f_X12_isDay, f_X11_isSort, f_X11_isDay, inI, inP, f_X5_size, f_X5_isFull, f_X11_now, f_X2_isKind, f_X2_has, f_X3_has, f_X8_hasPage, f_X8_hasAllPages, f_X8_stands, f_X1_isPrinted, f_X1_rule, f_X9_has, f_X9_isFull, f_X12_isPage, f_X12_isVerse, sC_s, sC_n, sC_2, sN_1, sN_s, sN_n, sN_2, sS_1, sS_2, sS_s, sS_n, upd_s, upd_e, upd_n, rAt, rPut, rAdd, rSwap, rPush, rNumber, cp_0, cp_1, cp_2, cp_3, cp_4, cp_5, cp_6, cp_7, cp_8, cp_9, cp_10, cp_11, cp_12, cp_13, cp_14, cp_15, cp_16, cp_17, cp_18, cp_19, cp_20, cp_21, cp_22, cp_23, cp_24, cp_25, cp_26, cp_27, cp_28, cp_29, cp_30, cp_31, cp_32, cp_33, cp_34, cp_35, cp_36, cp_37, cp_38, cp_39, cp_40, cp_41, cp_42, cp_43, cp_44, cp_45, cp_46, cp_47, cp_48, cp_49, cp_50, cp_51, cp_52, cp_53, cp_54, cp_55, cp_56, cp_57]
    exact ⟨_, _, _, rfl, rfl, h⟩
  rcases rng3 b 0 999 with c | ⟨D, hD, rfl, c⟩ | ⟨D, hD0, hD, hD2, rfl⟩
  · simp (disch := omega) only [↓nmk_e, ↓reduceIte, Option.bind_some, Option.map_some, lit, ofN, nI_add, pk_sub, pk_mul, nI_clamp, nI_leI, nI_ltI, nI_eq, pk_div, nI_an, nleT, nleF, nltT, nltF, neqT, neqF, or_false, false_or, or_self, or_true, true_or, and_self, and_true, true_and, and_false, false_and, not_true_eq_false, not_false_eq_true, f_X12_isSort, f_X12_isDay, f_X11_isSort, f_X11_isDay, inI, inP, f_X5_size, f_X5_isFull, f_X11_now, f_X2_isKind, f_X2_has, f_X3_has, f_X8_hasPage, f_X8_hasAllPages, f_X8_stands, f_X1_isPrinted, f_X1_rule, f_X9_has, f_X9_isFull, f_X12_isPage, f_X12_isVerse, sC_s, sC_n, sC_2, sN_1, sN_s, sN_n, sN_2, sS_1, sS_2, sS_s, sS_n, upd_s, upd_e, upd_n, rAt, rPut, rAdd, rSwap, rPush, rNumber, cp_0, cp_1, cp_2, cp_3, cp_4, cp_5, cp_6, cp_7, cp_8, cp_9, cp_10, cp_11, cp_12, cp_13, cp_14, cp_15, cp_16, cp_17, cp_18, cp_19, cp_20, cp_21, cp_22, cp_23, cp_24, cp_25, cp_26, cp_27, cp_28, cp_29, cp_30, cp_31, cp_32, cp_33, cp_34, cp_35, cp_36, cp_37, cp_38, cp_39, cp_40, cp_41, cp_42, cp_43, cp_44, cp_45, cp_46, cp_47, cp_48, cp_49, cp_50, cp_51, cp_52, cp_53, cp_54, cp_55, cp_56, cp_57, ng1 c, ng2 c, ng3 c, ng4 c, ng5 c, inN c]
    exact ⟨_, _, _, rfl, rfl, h⟩
  · simp (disch := omega) only [↓nmk_e, ↓reduceIte, Option.bind_some, Option.map_some, lit, ofN, nI_add, pk_sub, pk_mul, nI_clamp, nI_leI, nI_ltI, nI_eq, pk_div, nI_an, nleT, nleF, nltT, nltF, neqT, neqF, or_false, false_or, or_self, or_true, true_or, and_self, and_true, true_and, and_false, false_and, not_true_eq_false, not_false_eq_true, f_X12_isSort, f_X12_isDay, f_X11_isSort, f_X11_isDay, inI, inP, f_X5_size, f_X5_isFull, f_X11_now, f_X2_isKind, f_X2_has, f_X3_has, f_X8_hasPage, f_X8_hasAllPages, f_X8_stands, f_X1_isPrinted, f_X1_rule, f_X9_has, f_X9_isFull, f_X12_isPage, f_X12_isVerse, sC_s, sC_n, sC_2, sN_1, sN_s, sN_n, sN_2, sS_1, sS_2, sS_s, sS_n, upd_s, upd_e, upd_n, rAt, rPut, rAdd, rSwap, rPush, rNumber, cp_0, cp_1, cp_2, cp_3, cp_4, cp_5, cp_6, cp_7, cp_8, cp_9, cp_10, cp_11, cp_12, cp_13, cp_14, cp_15, cp_16, cp_17, cp_18, cp_19, cp_20, cp_21, cp_22, cp_23, cp_24, cp_25, cp_26, cp_27, cp_28, cp_29, cp_30, cp_31, cp_32, cp_33, cp_34, cp_35, cp_36, cp_37, cp_38, cp_39, cp_40, cp_41, cp_42, cp_43, cp_44, cp_45, cp_46, cp_47, cp_48, cp_49, cp_50, cp_51, cp_52, cp_53, cp_54, cp_55, cp_56, cp_57]
    exact ⟨_, _, _, rfl, rfl, h⟩
  obtain ⟨v', e1, e2, ⟨r1, r2, r3, r4, r5, r6, -⟩, e4, -⟩ := l_looks hR hD
  by_cases c5 : i = 5
  · subst c5
    have hmod : D - D / 30 * 30 = D % 30 := by omega
    have hS := Sim_CR h (CFr.refl w) e2
    rcases l_feastC hC hF hD with ⟨f1, f2⟩ | ⟨f1, f2⟩
    · have e5 : v'.1 7 (D % 30) = nI 1 := by
        rcases e4 (D % 30) (Nat.mod_lt _ (by decide)) with ⟨-, z⟩ | ⟨z, -⟩
        · exact z
        · exact absurd f2 z
      simp (disch := omega) only [↓nmk_e, ↓reduceIte, Option.bind_some, Option.map_some, lit, ofN, nI_add, pk_sub, pk_mul, nI_clamp, nI_leI, nI_ltI, nI_eq, pk_div, nI_an, nleT, nleF, nltT, nltF, neqT, neqF, or_false, false_or, or_self, or_true, true_or, and_self, and_true, true_and, and_false, false_and, not_true_eq_false, not_false_eq_true, f_X12_isSort, f_X12_isDay, f_X11_isSort, f_X11_isDay, inI, inP, f_X5_size, f_X5_isFull, f_X11_now, f_X2_isKind, f_X2_has, f_X3_has, f_X8_hasPage, f_X8_hasAllPages, f_X8_stands, f_X1_isPrinted, f_X1_rule, f_X9_has, f_X9_isFull, f_X12_isPage, f_X12_isVerse, sC_s, sC_n, sC_2, sN_1, sN_s, sN_n, sN_2, sS_1, sS_2, sS_s, sS_n, upd_s, upd_e, upd_n, rAt, rPut, rAdd, rSwap, rPush, rNumber, cp_0, cp_1, cp_2, cp_3, cp_4, cp_5, cp_6, cp_7, cp_8, cp_9, cp_10, cp_11, cp_12, cp_13, cp_14, cp_15, cp_16, cp_17, cp_18, cp_19, cp_20, cp_21, cp_22, cp_23, cp_24, cp_25, cp_26, cp_27, cp_28, cp_29, cp_30, cp_31, cp_32, cp_33, cp_34, cp_35, cp_36, cp_37, cp_38, cp_39, cp_40, cp_41, cp_42, cp_43, cp_44, cp_45, cp_46, cp_47, cp_48, cp_49, cp_50, cp_51, cp_52, cp_53, cp_54, cp_55, cp_56, cp_57, f1, e1, hmod, e5]
      exact ⟨_, _, _, rfl, rfl, hS⟩
    · have e5 : v'.1 7 (D % 30) = nI 0 := by
        rcases e4 (D % 30) (Nat.mod_lt _ (by decide)) with ⟨z, -⟩ | ⟨-, z⟩
        · exact absurd z f2
        · exact z
      simp (disch := omega) only [↓nmk_e, ↓reduceIte, Option.bind_some, Option.map_some, lit, ofN, nI_add, pk_sub, pk_mul, nI_clamp, nI_leI, nI_ltI, nI_eq, pk_div, nI_an, nleT, nleF, nltT, nltF, neqT, neqF, or_false, false_or, or_self, or_true, true_or, and_self, and_true, true_and, and_false, false_and, not_true_eq_false, not_false_eq_true, f_X12_isSort, f_X12_isDay, f_X11_isSort, f_X11_isDay, inI, inP, f_X5_size, f_X5_isFull, f_X11_now, f_X2_isKind, f_X2_has, f_X3_has, f_X8_hasPage, f_X8_hasAllPages, f_X8_stands, f_X1_isPrinted, f_X1_rule, f_X9_has, f_X9_isFull, f_X12_isPage, f_X12_isVerse, sC_s, sC_n, sC_2, sN_1, sN_s, sN_n, sN_2, sS_1, sS_2, sS_s, sS_n, upd_s, upd_e, upd_n, rAt, rPut, rAdd, rSwap, rPush, rNumber, cp_0, cp_1, cp_2, cp_3, cp_4, cp_5, cp_6, cp_7, cp_8, cp_9, cp_10, cp_11, cp_12, cp_13, cp_14, cp_15, cp_16, cp_17, cp_18, cp_19, cp_20, cp_21, cp_22, cp_23, cp_24, cp_25, cp_26, cp_27, cp_28, cp_29, cp_30, cp_31, cp_32, cp_33, cp_34, cp_35, cp_36, cp_37, cp_38, cp_39, cp_40, cp_41, cp_42, cp_43, cp_44, cp_45, cp_46, cp_47, cp_48, cp_49, cp_50, cp_51, cp_52, cp_53, cp_54, cp_55, cp_56, cp_57, f1, e1, hmod, e5]
      exact ⟨_, _, _, rfl, rfl, hS⟩
  · obtain ⟨w', q1, q2, k1, k2, k3, k4, k5, k6, -⟩ := l_gather hC (fun a ha => (hR.2.2 a ha).2.2.2) hD
    have hS := Sim_CR h q2 e2
    have hcs : i = 0 ∨ i = 1 ∨ i = 2 ∨ i = 3 ∨ i = 4 ∨ i = 6 := by omega
    rcases hcs with rfl | rfl | rfl | rfl | rfl | rfl <;> simp (disch := omega) only [↓nmk_e, ↓reduceIte, Option.bind_some, Option.map_some, lit, ofN, nI_add, pk_sub, pk_mul, nI_clamp, nI_leI, nI_ltI, nI_eq, pk_div, nI_an, nleT, nleF, nltT, nltF, neqT, neqF, or_false, false_or, or_self, or_true, true_or, and_self, and_true, true_and, and_false, false_and, not_true_eq_false, not_false_eq_true, f_X12_isSort, f_X12_isDay, f_X11_isSort, f_X11_isDay, inI, inP, f_X5_size, f_X5_isFull, f_X11_now, f_X2_isKind, f_X2_has, f_X3_has, f_X8_hasPage, f_X8_hasAllPages, f_X8_stands, f_X1_isPrinted, f_X1_rule, f_X9_has, f_X9_isFull, f_X12_isPage, f_X12_isVerse, sC_s, sC_n, sC_2, sN_1, sN_s, sN_n, sN_2, sS_1, sS_2, sS_s, sS_n, upd_s, upd_e, upd_n, rAt, rPut, rAdd, rSwap, rPush, rNumber, cp_0, cp_1, cp_2, cp_3, cp_4, cp_5, cp_6, cp_7, cp_8, cp_9, cp_10, cp_11, cp_12, cp_13, cp_14, cp_15, cp_16, cp_17, cp_18, cp_19, cp_20, cp_21, cp_22, cp_23, cp_24, cp_25, cp_26, cp_27, cp_28, cp_29, cp_30, cp_31, cp_32, cp_33, cp_34, cp_35, cp_36, cp_37, cp_38, cp_39, cp_40, cp_41, cp_42, cp_43, cp_44, cp_45, cp_46, cp_47, cp_48, cp_49, cp_50, cp_51, cp_52, cp_53, cp_54, cp_55, cp_56, cp_57, q1, e1, f_X0_told, k1, k2, k3, k4, k5, k6, r1, r2, r3, r4, r5, r6] <;> exact ⟨_, _, _, rfl, rfl, hS⟩
