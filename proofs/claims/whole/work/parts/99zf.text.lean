/-! text -/
theorem cWay.cg {C C' : Nat → Nat → Int32} {s s' : Nat → Int32} {a : Nat} (h : cWay C s a) (h4 : C' 4 a = C 4 a) (h5 : C' 5 a = C 5 a) (hC : ∀ q k, 6 ≤ q → q ≤ 9 → k < 8 → C' q (8 * a + k) = C q (8 * a + k)) (h30 : s' (1330 + a) = s (1330 + a)) (h1 : ∀ k, k < 8 → s' (1340 + (8 * a + k)) = s (1340 + (8 * a + k))) (h2 : ∀ k, k < 8 → s' (1420 + (8 * a + k)) = s (1420 + (8 * a + k))) (h3 : ∀ k, k < 8 → s' (1500 + (8 * a + k)) = s (1500 + (8 * a + k))) (h6 : ∀ k, k < 8 → s' (1580 + (8 * a + k)) = s (1580 + (8 * a + k))) : cWay C' s' a := by
  obtain ⟨c, c1, c2, c3, c4, c5, q, q1, q2, q3⟩ := h
  refine ⟨c, c1, c2, h5.trans c3, h30.trans c4, fun k hk => (c5 k hk).cg (fun j j1 j2 => hC j k j1 j2 (by omega)) (h1 k (by omega)) (h2 k (by omega)) (h3 k (by omega)) (h6 k (by omega)), q, q1, h4.trans q2, fun d hd => ?_⟩
  rw [q3 d hd]
  refine exists_congr fun k => ⟨fun ⟨z1, z2, z3⟩ => ⟨z1, ?_, ?_⟩, fun ⟨z1, z2, z3⟩ => ⟨z1, ?_, ?_⟩⟩
  · rw [h1 k (by omega)]; exact z2
  · rw [h3 k (by omega)]; exact z3
  · rw [← h1 k (by omega)]; exact z2
  · rw [← h3 k (by omega)]; exact z3
/-- the ways stand as they stood -/
theorem rd_ways {w v xF yF : CW} {m D : Nat} {d : Nat → Nat} (hm : m ≤ 8) (gx : FRx m w xF) (gy : GY m D v yF) (h : ∀ a, a < m → w.1 2 a = nI (d a) ∧ v.1 0 (230 + a) = nI (d a) ∧ d a ≤ 999) (hw : ∀ a, a < m → cWay w.1 (v.1 0) a) : (∀ a, a < m → xF.1 2 a = nI (d a) ∧ yF.1 0 (230 + a) = nI (d a) ∧ d a ≤ 999) ∧ ∀ a, a < m → cWay xF.1 (yF.1 0) a := by
  obtain ⟨x1, x2, x3, x4, x5⟩ := gx
  obtain ⟨y1, y2, y3, y4, y5, y6⟩ := gy
  refine ⟨fun a ha => ?_, fun a ha => ?_⟩
  · rw [x1 2 (by omega), y4 (230 + a) (by omega) (by omega) (by omega) (by omega) (by omega) (by omega) (by omega) (by omega) (by omega)]
    exact h a ha
  · exact (hw a ha).cg (x2 4 a (.inl rfl) (by omega)) (x2 5 a (.inr rfl) (by omega)) (fun q k q1 q2 hk => x3 q _ q1 q2 (by omega)) (y4 _ (by omega) (by omega) (by omega) (by omega) (by omega) (by omega) (by omega) (by omega) (by omega)) (fun k hk => y4 _ (by omega) (by omega) (by omega) (by omega) (by omega) (by omega) (by omega) (by omega) (by omega)) (fun k hk => y4 _ (by omega) (by omega) (by omega) (by omega) (by omega) (by omega) (by omega) (by omega) (by omega)) (fun k hk => y4 _ (by omega) (by omega) (by omega) (by omega) (by omega) (by omega) (by omega) (by omega) (by omega)) (fun k hk => y4 _ (by omega) (by omega) (by omega) (by omega) (by omega) (by omega) (by omega) (by omega) (by omega))
/-- reading alone changes nothing that counts but the tape -/
theorem sim_rd {w v xF yF : CW} {m D : Nat} (h : Sim w v) (hm : m ≤ 8) (n2 : w.2.1 2 = nI m) (gx : FRx m w xF) (gy : GY m D v yF) : Sim (sN xF 1 (nI 0)) yF := by
  obtain ⟨m', hm', a1, a2, a3, d, a4, a5, a6⟩ := h.g2
  have : m' = m := (nI_eq (by omega) (by omega)).mp (a1.symm.trans n2)
  subst this
  obtain ⟨g1, g2⟩ := rd_ways hm gx gy a4 a6
  obtain ⟨x1, x2, x3, x4, x5⟩ := gx
  obtain ⟨y1, y2, y3, y4, y5, y6⟩ := gy
  refine Sim_u1_2 h (fun k hk h1 h2 => ⟨x1 k (by omega), ?_⟩) (x5 10 (by decide)) (fun j hj h1 h2 h3 h4 => y4 j (by omega) (by omega) (by omega) (by omega) (by omega) (by omega) (by omega) (by omega) (by omega)) (y1 1 (by decide)) (y6 3 (by decide) (by decide) (by decide)) (Sim.i1 ⟨0, by decide, ?_, y2, fun i hi => absurd hi (Nat.not_lt_zero i)⟩) (Sim.i2 ⟨m', hm', ?_, ?_, ?_, d, g1, ?_, g2⟩)
  · rw [sN_n _ _ (by omega), x4]
  · rw [sN_s]
  · rw [sN_n _ _ (by decide), x4]; exact a1
  · rw [sN_n _ _ (by decide), x4]; exact a2
  · rw [y4 1 (by omega) (by omega) (by omega) (by omega) (by omega) (by omega) (by omega) (by omega) (by omega)]; exact a3
  · show Rep (xF.1 3) _
    rw [x1 3 (by decide)]; exact a5
/-- a new way finds its place -/
theorem l_acc {a : Nat} {d : Nat → Nat} (ha : a < 9) (hda : d a ≤ 999) (u : CW) : ∀ (l : List Nat) (q : Nat) (w : CW), l.length ≤ 7 → l.length < q → Rep (w.1 3) l → w.1 3 l.length = nI a → (∀ x, x ∈ l → x < 8 ∧ w.1 2 x = nI (d x) ∧ d x ≤ 999) → ∃ w', f_X10_accept_L19 (nI (d a)) (nI a, u) q (nI l.length) w = some (nI a, w') ∧ (∀ t, t ≠ 3 → w'.1 t = w.1 t) ∧ w'.2 = w.2 ∧ (∀ t, l.length < t → w'.1 3 t = w.1 3 t) ∧ Rep (w'.1 3) (insR d a l) := by
  intro l
  induction l with
  | nil =>
    intro q w _ hq _ h3 _
    obtain ⟨q, rfl⟩ : ∃ n, q = n + 1 := ⟨q - 1, by have : (0 : Nat) < q := hq; omega⟩
    refine ⟨w, ?_, fun _ _ => rfl, rfl, fun _ _ => rfl, ?_⟩
    · show f_X10_accept_L19 (nI (d a)) (nI a, u) (q + 1) (nI 0) w = _
      simp (disch := omega) only [f_X10_accept_L19, ↓nmk_e, ↓reduceIte, Option.bind_some, Option.map_some, lit, ofN, nI_add, pk_sub, pk_mul, nI_clamp, nI_leI, nI_ltI, nI_eq, pk_div, nI_an, nleT, nleF, nltT, nltF, neqT, neqF, or_false, false_or, or_self, or_true, true_or, and_self, and_true, true_and, and_false, false_and, not_true_eq_false, not_false_eq_true, f_X12_isSort, f_X12_isDay, f_X11_isSort, f_X11_isDay, inI, inP, f_X5_size, f_X5_isFull, f_X11_now, f_X2_isKind, f_X2_has, f_X3_has, f_X8_hasPage, f_X8_hasAllPages, f_X8_stands, f_X1_isPrinted, f_X1_rule, f_X9_has, f_X9_isFull, f_X12_isPage, f_X12_isVerse, sC_s, sC_n, sC_2, sN_1, sN_s, sN_n, sN_2, sS_1, sS_2, sS_s, sS_n, upd_s, upd_e, upd_n, rAt, rPut, rAdd, rSwap, rPush, rNumber, cp_0, cp_1, cp_2, cp_3, cp_4, cp_5, cp_6, cp_7, cp_8, cp_9, cp_10, cp_11, cp_12, cp_13, cp_14, cp_15, cp_16, cp_17, cp_18, cp_19, cp_20, cp_21, cp_22, cp_23, cp_24, cp_25, cp_26, cp_27, cp_28, cp_29, cp_30, cp_31, cp_32, cp_33, cp_34, cp_35, cp_36, cp_37, cp_38, cp_39, cp_40, cp_41, cp_42, cp_43, cp_44, cp_45, cp_46, cp_47, cp_48, cp_49, cp_50, cp_51, cp_52, cp_53, cp_54, cp_55, cp_56, cp_57]
    · show Rep _ [a]
      rw [Rep_cons]
      exact ⟨h3, fun i hi => absurd hi (Nat.not_lt_zero i)⟩
  | cons x l ih =>
    intro q w hl hq hR h3 hx
    rw [List.length_cons] at hl hq h3
    obtain ⟨q, rfl⟩ : ∃ n, q = n + 1 := ⟨q - 1, by omega⟩
    obtain ⟨r1, r2⟩ := Rep_cons.mp hR
    obtain ⟨x1, x2, x3⟩ := hx x List.mem_cons_self
    rw [List.length_cons]
    unfold insR
    by_cases c : d a < d x
    · rw [if_pos c]
      obtain ⟨w', e1, e2, e3, e4, e5⟩ := ih q (sC (sC w 3 l.length (nI a)) 3 (l.length + 1) (nI x)) (by omega) (by omega) (by
        rw [sC_s, sC_s]
        exact Rep_congr r2 (fun i hi => by rw [upd_n _ _ (by omega), upd_n _ _ (by omega)])) (by simp (disch := omega) only [sC_s, sC_n, sC_2, sN_1, sN_s, sN_n, sN_2, sS_1, sS_2, sS_s, sS_n, upd_s, upd_e, upd_n]) (fun z hz => by
        simp (disch := omega) only [sC_s, sC_n, sC_2, sN_1, sN_s, sN_n, sN_2, sS_1, sS_2, sS_s, sS_n, upd_s, upd_e, upd_n]
        exact hx z (List.mem_cons_of_mem _ hz))
      refine ⟨w', ?_, fun t ht => ?_, ?_, fun t ht => ?_, ?_⟩
      · rw [← e1]
        simp (disch := omega) only [f_X10_accept_L19, ↓nmk_e, ↓reduceIte, Option.bind_some, Option.map_some, lit, ofN, nI_add, pk_sub, pk_mul, nI_clamp, nI_leI, nI_ltI, nI_eq, pk_div, nI_an, nleT, nleF, nltT, nltF, neqT, neqF, or_false, false_or, or_self, or_true, true_or, and_self, and_true, true_and, and_false, false_and, not_true_eq_false, not_false_eq_true, f_X12_isSort, f_X12_isDay, f_X11_isSort, f_X11_isDay, inI, inP, f_X5_size, f_X5_isFull, f_X11_now, f_X2_isKind, f_X2_has, f_X3_has, f_X8_hasPage, f_X8_hasAllPages, f_X8_stands, f_X1_isPrinted, f_X1_rule, f_X9_has, f_X9_isFull, f_X12_isPage, f_X12_isVerse, sC_s, sC_n, sC_2, sN_1, sN_s, sN_n, sN_2, sS_1, sS_2, sS_s, sS_n, upd_s, upd_e, upd_n, rAt, rPut, rAdd, rSwap, rPush, rNumber, cp_0, cp_1, cp_2, cp_3, cp_4, cp_5, cp_6, cp_7, cp_8, cp_9, cp_10, cp_11, cp_12, cp_13, cp_14, cp_15, cp_16, cp_17, cp_18, cp_19, cp_20, cp_21, cp_22, cp_23, cp_24, cp_25, cp_26, cp_27, cp_28, cp_29, cp_30, cp_31, cp_32, cp_33, cp_34, cp_35, cp_36, cp_37, cp_38, cp_39, cp_40, cp_41, cp_42, cp_43, cp_44, cp_45, cp_46, cp_47, cp_48, cp_49, cp_50, cp_51, cp_52, cp_53, cp_54, cp_55, cp_56, cp_57, r1, x2, Nat.add_sub_cancel]
      · rw [e2 t ht]; simp (disch := omega) only [sC_s, sC_n, sC_2, sN_1, sN_s, sN_n, sN_2, sS_1, sS_2, sS_s, sS_n, upd_s, upd_e, upd_n]
      · rw [e3]; rfl
      · rw [e4 t (by omega)]; simp (disch := omega) only [sC_s, sC_n, sC_2, sN_1, sN_s, sN_n, sN_2, sS_1, sS_2, sS_s, sS_n, upd_s, upd_e, upd_n]
      · rw [Rep_cons, insR_len]
        refine ⟨?_, e5⟩
        rw [e4 _ (by omega)]
        simp (disch := omega) only [sC_s, sC_n, sC_2, sN_1, sN_s, sN_n, sN_2, sS_1, sS_2, sS_s, sS_n, upd_s, upd_e, upd_n]
    · rw [if_neg c]
      refine ⟨w, ?_, fun _ _ => rfl, rfl, fun _ _ => rfl, ?_⟩
      · simp (disch := omega) only [f_X10_accept_L19, ↓nmk_e, ↓reduceIte, Option.bind_some, Option.map_some, lit, ofN, nI_add, pk_sub, pk_mul, nI_clamp, nI_leI, nI_ltI, nI_eq, pk_div, nI_an, nleT, nleF, nltT, nltF, neqT, neqF, or_false, false_or, or_self, or_true, true_or, and_self, and_true, true_and, and_false, false_and, not_true_eq_false, not_false_eq_true, f_X12_isSort, f_X12_isDay, f_X11_isSort, f_X11_isDay, inI, inP, f_X5_size, f_X5_isFull, f_X11_now, f_X2_isKind, f_X2_has, f_X3_has, f_X8_hasPage, f_X8_hasAllPages, f_X8_stands, f_X1_isPrinted, f_X1_rule, f_X9_has, f_X9_isFull, f_X12_isPage, f_X12_isVerse, sC_s, sC_n, sC_2, sN_1, sN_s, sN_n, sN_2, sS_1, sS_2, sS_s, sS_n, upd_s, upd_e, upd_n, rAt, rPut, rAdd, rSwap, rPush, rNumber, cp_0, cp_1, cp_2, cp_3, cp_4, cp_5, cp_6, cp_7, cp_8, cp_9, cp_10, cp_11, cp_12, cp_13, cp_14, cp_15, cp_16, cp_17, cp_18, cp_19, cp_20, cp_21, cp_22, cp_23, cp_24, cp_25, cp_26, cp_27, cp_28, cp_29, cp_30, cp_31, cp_32, cp_33, cp_34, cp_35, cp_36, cp_37, cp_38, cp_39, cp_40, cp_41, cp_42, cp_43, cp_44, cp_45, cp_46, cp_47, cp_48, cp_49, cp_50, cp_51, cp_52, cp_53, cp_54, cp_55, cp_56, cp_57, r1, x2, Nat.add_sub_cancel]
      · rw [Rep_cons]
        exact ⟨h3, hR⟩
theorem s_text {w v : CW} (h : Sim w v) (a : Int32) : Same w v (f_X11_text w a) (f_X12_text v a) := by
  obtain ⟨m, hm, a1, a2, a3, d, a4, a5, a6⟩ := h.g2
  unfold f_X11_text f_X12_text
  have dayN : f_X11_isDay a = 0 → f_X12_isDay a = 0 → Same w v (if (f_X11_isDay a) = 0 then (some ((-2), w)) else (if (f_X10_isFull w) = 0 then (Option.bind (f_X10_read w) fun q27 => (nmk (f_X5_clear q27.2 1) fun q35 => (if q27.1 < 0 then (Option.bind (f_X10_accept q35 a) fun q54 => (some (q54.1, q54.2))) else (some (((-10) - q27.1), q35))))) else (some ((-4), w)))) (f_X12_text v a) := fun q1 q2 => by
    unfold f_X12_text
    rw [if_pos q1, if_pos q2]
    exact ⟨_, _, _, rfl, rfl, h⟩
  rcases rng3 a 0 999 with c | ⟨D, hD, rfl, c⟩ | ⟨D, hD0, hD, hD2, rfl⟩
  · exact dayN (by simp (disch := omega) only [↓nmk_e, ↓reduceIte, Option.bind_some, Option.map_some, lit, ofN, nI_add, pk_sub, pk_mul, nI_clamp, nI_leI, nI_ltI, nI_eq, pk_div, nI_an, nleT, nleF, nltT, nltF, neqT, neqF, or_false, false_or, or_self, or_true, true_or, and_self, and_true, true_and, and_false, false_and, not_true_eq_false, not_false_eq_true, f_X12_isSort, f_X12_isDay, f_X11_isSort, f_X11_isDay, inI, inP, f_X5_size, f_X5_isFull, f_X11_now, f_X2_isKind, f_X2_has, f_X3_has, f_X8_hasPage, f_X8_hasAllPages, f_X8_stands, f_X1_isPrinted, f_X1_rule, f_X9_has, f_X9_isFull, f_X12_isPage, f_X12_isVerse, sC_s, sC_n, sC_2, sN_1, sN_s, sN_n, sN_2, sS_1, sS_2, sS_s, sS_n, upd_s, upd_e, upd_n, rAt, rPut, rAdd, rSwap, rPush, rNumber, cp_0, cp_1, cp_2, cp_3, cp_4, cp_5, cp_6, cp_7, cp_8, cp_9, cp_10, cp_11, cp_12, cp_13, cp_14, cp_15, cp_16, cp_17, cp_18, cp_19, cp_20, cp_21, cp_22, cp_23, cp_24, cp_25, cp_26, cp_27, cp_28, cp_29, cp_30, cp_31, cp_32, cp_33, cp_34, cp_35, cp_36, cp_37, cp_38, cp_39, cp_40, cp_41, cp_42, cp_43, cp_44, cp_45, cp_46, cp_47, cp_48, cp_49, cp_50, cp_51, cp_52, cp_53, cp_54, cp_55, cp_56, cp_57, ng1 c, ng2 c, ng3 c, ng4 c, ng5 c, inN c]) (by simp (disch := omega) only [↓nmk_e, ↓reduceIte, Option.bind_some, Option.map_some, lit, ofN, nI_add, pk_sub, pk_mul, nI_clamp, nI_leI, nI_ltI, nI_eq, pk_div, nI_an, nleT, nleF, nltT, nltF, neqT, neqF, or_false, false_or, or_self, or_true, true_or, and_self, and_true, true_and, and_false, false_and, not_true_eq_false, not_false_eq_true, f_X12_isSort, f_X12_isDay, f_X11_isSort, f_X11_isDay, inI, inP, f_X5_size, f_X5_isFull, f_X11_now, f_X2_isKind, f_X2_has, f_X3_has, f_X8_hasPage, f_X8_hasAllPages, f_X8_stands, f_X1_isPrinted, f_X1_rule, f_X9_has, f_X9_isFull, f_X12_isPage, f_X12_isVerse, sC_s, sC_n, sC_2, sN_1, sN_s, sN_n, sN_2, sS_1, sS_2, sS_s, sS_n, upd_s, upd_e, upd_n, rAt, rPut, rAdd, rSwap, rPush, rNumber, cp_0, cp_1, cp_2, cp_3, cp_4, cp_5, cp_6, cp_7, cp_8, cp_9, cp_10, cp_11, cp_12, cp_13, cp_14, cp_15, cp_16, cp_17, cp_18, cp_19, cp_20, cp_21, cp_22, cp_23, cp_24, cp_25, cp_26, cp_27, cp_28, cp_29, cp_30, cp_31, cp_32, cp_33, cp_34, cp_35, cp_36, cp_37, cp_38, cp_39, cp_40, cp_41, cp_42, cp_43, cp_44, cp_45, cp_46, cp_47, cp_48, cp_49, cp_50, cp_51, cp_52, cp_53, cp_54, cp_55, cp_56, cp_57, ng1 c, ng2 c, ng3 c, ng4 c, ng5 c, inN c])
  · exact dayN (by simp (disch := omega) only [↓nmk_e, ↓reduceIte, Option.bind_some, Option.map_some, lit, ofN, nI_add, pk_sub, pk_mul, nI_clamp, nI_leI, nI_ltI, nI_eq, pk_div, nI_an, nleT, nleF, nltT, nltF, neqT, neqF, or_false, false_or, or_self, or_true, true_or, and_self, and_true, true_and, and_false, false_and, not_true_eq_false, not_false_eq_true, f_X12_isSort, f_X12_isDay, f_X11_isSort, f_X11_isDay, inI, inP, f_X5_size, f_X5_isFull, f_X11_now, f_X2_isKind, f_X2_has, f_X3_has, f_X8_hasPage, f_X8_hasAllPages, f_X8_stands, f_X1_isPrinted, f_X1_rule, f_X9_has, f_X9_isFull, f_X12_isPage, f_X12_isVerse, sC_s, sC_n, sC_2, sN_1, sN_s, sN_n, sN_2, sS_1, sS_2, sS_s, sS_n, upd_s, upd_e, upd_n, rAt, rPut, rAdd, rSwap, rPush, rNumber, cp_0, cp_1, cp_2, cp_3, cp_4, cp_5, cp_6, cp_7, cp_8, cp_9, cp_10, cp_11, cp_12, cp_13, cp_14, cp_15, cp_16, cp_17, cp_18, cp_19, cp_20, cp_21, cp_22, cp_23, cp_24, cp_25, cp_26, cp_27, cp_28, cp_29, cp_30, cp_31, cp_32, cp_33, cp_34, cp_35, cp_36, cp_37, cp_38, cp_39, cp_40, cp_41, cp_42, cp_43, cp_44, cp_45, cp_46, cp_47, cp_48, cp_49, cp_50, cp_51, cp_52, cp_53, cp_54, cp_55, cp_56, cp_57]) (by simp (disch := omega) only [↓nmk_e, ↓reduceIte, Option.bind_some, Option.map_some, lit, ofN, nI_add, pk_sub, pk_mul, nI_clamp, nI_leI, nI_ltI, nI_eq, pk_div, nI_an, nleT, nleF, nltT, nltF, neqT, neqF, or_false, false_or, or_self, or_true, true_or, and_self, and_true, true_and, and_false, false_and, not_true_eq_false, not_false_eq_true, f_X12_isSort, f_X12_isDay, f_X11_isSort, f_X11_isDay, inI, inP, f_X5_size, f_X5_isFull, f_X11_now, f_X2_isKind, f_X2_has, f_X3_has, f_X8_hasPage, f_X8_hasAllPages, f_X8_stands, f_X1_isPrinted, f_X1_rule, f_X9_has, f_X9_isFull, f_X12_isPage, f_X12_isVerse, sC_s, sC_n, sC_2, sN_1, sN_s, sN_n, sN_2, sS_1, sS_2, sS_s, sS_n, upd_s, upd_e, upd_n, rAt, rPut, rAdd, rSwap, rPush, rNumber, cp_0, cp_1, cp_2, cp_3, cp_4, cp_5, cp_6, cp_7, cp_8, cp_9, cp_10, cp_11, cp_12, cp_13, cp_14, cp_15, cp_16, cp_17, cp_18, cp_19, cp_20, cp_21, cp_22, cp_23, cp_24, cp_25, cp_26, cp_27, cp_28, cp_29, cp_30, cp_31, cp_32, cp_33, cp_34, cp_35, cp_36, cp_37, cp_38, cp_39, cp_40, cp_41, cp_42, cp_43, cp_44, cp_45, cp_46, cp_47, cp_48, cp_49, cp_50, cp_51, cp_52, cp_53, cp_54, cp_55, cp_56, cp_57])
  clear dayN
  rw [if_neg (show ¬ f_X11_isDay (nI D) = 0 from of_eq_true (by simp (disch := omega) only [↓nmk_e, ↓reduceIte, Option.bind_some, Option.map_some, lit, ofN, nI_add, pk_sub, pk_mul, nI_clamp, nI_leI, nI_ltI, nI_eq, pk_div, nI_an, nleT, nleF, nltT, nltF, neqT, neqF, or_false, false_or, or_self, or_true, true_or, and_self, and_true, true_and, and_false, false_and, not_true_eq_false, not_false_eq_true, f_X12_isSort, f_X12_isDay, f_X11_isSort, f_X11_isDay, inI, inP, f_X5_size, f_X5_isFull, f_X11_now, f_X2_isKind, f_X2_has, f_X3_has, f_X8_hasPage, f_X8_hasAllPages, f_X8_stands, f_X1_isPrinted, f_X1_rule, f_X9_has, f_X9_isFull, f_X12_isPage, f_X12_isVerse, sC_s, sC_n, sC_2, sN_1, sN_s, sN_n, sN_2, sS_1, sS_2, sS_s, sS_n, upd_s, upd_e, upd_n, rAt, rPut, rAdd, rSwap, rPush, rNumber, cp_0, cp_1, cp_2, cp_3, cp_4, cp_5, cp_6, cp_7, cp_8, cp_9, cp_10, cp_11, cp_12, cp_13, cp_14, cp_15, cp_16, cp_17, cp_18, cp_19, cp_20, cp_21, cp_22, cp_23, cp_24, cp_25, cp_26, cp_27, cp_28, cp_29, cp_30, cp_31, cp_32, cp_33, cp_34, cp_35, cp_36, cp_37, cp_38, cp_39, cp_40, cp_41, cp_42, cp_43, cp_44, cp_45, cp_46, cp_47, cp_48, cp_49, cp_50, cp_51, cp_52, cp_53, cp_54, cp_55, cp_56, cp_57])), if_neg (show ¬ f_X12_isDay (nI D) = 0 from of_eq_true (by simp (disch := omega) only [↓nmk_e, ↓reduceIte, Option.bind_some, Option.map_some, lit, ofN, nI_add, pk_sub, pk_mul, nI_clamp, nI_leI, nI_ltI, nI_eq, pk_div, nI_an, nleT, nleF, nltT, nltF, neqT, neqF, or_false, false_or, or_self, or_true, true_or, and_self, and_true, true_and, and_false, false_and, not_true_eq_false, not_false_eq_true, f_X12_isSort, f_X12_isDay, f_X11_isSort, f_X11_isDay, inI, inP, f_X5_size, f_X5_isFull, f_X11_now, f_X2_isKind, f_X2_has, f_X3_has, f_X8_hasPage, f_X8_hasAllPages, f_X8_stands, f_X1_isPrinted, f_X1_rule, f_X9_has, f_X9_isFull, f_X12_isPage, f_X12_isVerse, sC_s, sC_n, sC_2, sN_1, sN_s, sN_n, sN_2, sS_1, sS_2, sS_s, sS_n, upd_s, upd_e, upd_n, rAt, rPut, rAdd, rSwap, rPush, rNumber, cp_0, cp_1, cp_2, cp_3, cp_4, cp_5, cp_6, cp_7, cp_8, cp_9, cp_10, cp_11, cp_12, cp_13, cp_14, cp_15, cp_16, cp_17, cp_18, cp_19, cp_20, cp_21, cp_22, cp_23, cp_24, cp_25, cp_26, cp_27, cp_28, cp_29, cp_30, cp_31, cp_32, cp_33, cp_34, cp_35, cp_36, cp_37, cp_38, cp_39, cp_40, cp_41, cp_42, cp_43, cp_44, cp_45, cp_46, cp_47, cp_48, cp_49, cp_50, cp_51, cp_52, cp_53, cp_54, cp_55, cp_56, cp_57])), if_neg (show ¬ ((1 : Int32) < 0 ∨ 3250 ≤ (1 : Int32).toNatClampNeg) by decide), show v.1 0 (1 : Int32).toNatClampNeg = nI m from a3]
  by_cases c8 : m = 8
  · subst c8
    rw [if_neg (show ¬ f_X10_isFull w = 0 from of_eq_true (by simp (disch := omega) only [↓nmk_e, ↓reduceIte, Option.bind_some, Option.map_some, lit, ofN, nI_add, pk_sub, pk_mul, nI_clamp, nI_leI, nI_ltI, nI_eq, pk_div, nI_an, nleT, nleF, nltT, nltF, neqT, neqF, or_false, false_or, or_self, or_true, true_or, and_self, and_true, true_and, and_false, false_and, not_true_eq_false, not_false_eq_true, f_X12_isSort, f_X12_isDay, f_X11_isSort, f_X11_isDay, inI, inP, f_X5_size, f_X5_isFull, f_X11_now, f_X2_isKind, f_X2_has, f_X3_has, f_X8_hasPage, f_X8_hasAllPages, f_X8_stands, f_X1_isPrinted, f_X1_rule, f_X9_has, f_X9_isFull, f_X12_isPage, f_X12_isVerse, sC_s, sC_n, sC_2, sN_1, sN_s, sN_n, sN_2, sS_1, sS_2, sS_s, sS_n, upd_s, upd_e, upd_n, rAt, rPut, rAdd, rSwap, rPush, rNumber, cp_0, cp_1, cp_2, cp_3, cp_4, cp_5, cp_6, cp_7, cp_8, cp_9, cp_10, cp_11, cp_12, cp_13, cp_14, cp_15, cp_16, cp_17, cp_18, cp_19, cp_20, cp_21, cp_22, cp_23, cp_24, cp_25, cp_26, cp_27, cp_28, cp_29, cp_30, cp_31, cp_32, cp_33, cp_34, cp_35, cp_36, cp_37, cp_38, cp_39, cp_40, cp_41, cp_42, cp_43, cp_44, cp_45, cp_46, cp_47, cp_48, cp_49, cp_50, cp_51, cp_52, cp_53, cp_54, cp_55, cp_56, cp_57, f_X10_isFull, a1])), if_pos (show nI 8 = (8 : Int32) from rfl)]
    exact ⟨_, _, _, rfl, rfl, h⟩
  rw [if_pos (show f_X10_isFull w = 0 from by simp (disch := omega) only [↓nmk_e, ↓reduceIte, Option.bind_some, Option.map_some, lit, ofN, nI_add, pk_sub, pk_mul, nI_clamp, nI_leI, nI_ltI, nI_eq, pk_div, nI_an, nleT, nleF, nltT, nltF, neqT, neqF, or_false, false_or, or_self, or_true, true_or, and_self, and_true, true_and, and_false, false_and, not_true_eq_false, not_false_eq_true, f_X12_isSort, f_X12_isDay, f_X11_isSort, f_X11_isDay, inI, inP, f_X5_size, f_X5_isFull, f_X11_now, f_X2_isKind, f_X2_has, f_X3_has, f_X8_hasPage, f_X8_hasAllPages, f_X8_stands, f_X1_isPrinted, f_X1_rule, f_X9_has, f_X9_isFull, f_X12_isPage, f_X12_isVerse, sC_s, sC_n, sC_2, sN_1, sN_s, sN_n, sN_2, sS_1, sS_2, sS_s, sS_n, upd_s, upd_e, upd_n, rAt, rPut, rAdd, rSwap, rPush, rNumber, cp_0, cp_1, cp_2, cp_3, cp_4, cp_5, cp_6, cp_7, cp_8, cp_9, cp_10, cp_11, cp_12, cp_13, cp_14, cp_15, cp_16, cp_17, cp_18, cp_19, cp_20, cp_21, cp_22, cp_23, cp_24, cp_25, cp_26, cp_27, cp_28, cp_29, cp_30, cp_31, cp_32, cp_33, cp_34, cp_35, cp_36, cp_37, cp_38, cp_39, cp_40, cp_41, cp_42, cp_43, cp_44, cp_45, cp_46, cp_47, cp_48, cp_49, cp_50, cp_51, cp_52, cp_53, cp_54, cp_55, cp_56, cp_57, f_X10_isFull, a1]), if_neg (show ¬ nI m = (8 : Int32) from fun z => c8 ((nI_eq (by omega) (by decide)).mp z)), if_neg (show ¬ ((1 : Int32) < 0 ∨ 3250 ≤ (1 : Int32).toNatClampNeg) by decide)]
  obtain ⟨xF, yF, gx, gy, g⟩ := l_read h (D := D) hm a1
  have hS := sim_rd h hm a1 gx gy
  have eCl : f_X5_clear xF 1 = sN xF 1 (nI 0) := rfl
  rcases g with ⟨e1, e2, c, k1, k2, k3, k4⟩ | ⟨p, hp, e1, e2, e3⟩
  · obtain ⟨g1, g2⟩ := rd_ways hm gx gy a4 a6
    obtain ⟨x1, x2, x3, x4, x5⟩ := gx
    have y1v : yF.1 0 1 = nI m := by
      rw [gy.2.2.2.1 1 (by omega) (by omega) (by omega) (by omega) (by omega) (by omega) (by omega) (by omega) (by omega)]; exact a3
    rw [e1, e2, Option.bind_some, Option.bind_some, nmk_e, if_pos (show -nI 1 < 0 by decide), if_neg (show ¬ nI 1 = (0 : Int32) by decide), if_neg (show ¬ ((1 : Int32) < 0 ∨ 3250 ≤ (1 : Int32).toNatClampNeg) by decide), if_neg (show ¬ ((1 : Int32) < 0 ∨ 3250 ≤ (1 : Int32).toNatClampNeg) by decide), nmk_e, if_neg (show ¬ ((1 : Int32) < 0 ∨ 3250 ≤ (1 : Int32).toNatClampNeg) by decide), eCl]
    let d' : Nat → Nat := fun b => if b = m then D else d b
    have dm : d' m = D := if_pos rfl
    have dn : ∀ b, b < m → d' b = d b := fun b hb => if_neg (by omega)
    have ord : ordR d' m = ordR d m := ordR_congr dn
    obtain ⟨w', f1, f2, f3, f4, f5⟩ := l_acc (a := m) (d := d') (by omega) (by rw [dm]; exact hD) (sN (sC (sN xF 1 (nI 0)) 2 m (nI D)) 2 (nI (m + 1))) (ordR d m) FU (sN (sC (sN (sC (sN xF 1 (nI 0)) 2 m (nI D)) 2 (nI (m + 1))) 3 m (nI m)) 3 (nI (m + 1))) (by rw [ordR_len]; omega) (by rw [ordR_len]; unfold FU; omega) (by
      simp (disch := omega) only [sC_s, sC_n, sC_2, sN_1, sN_s, sN_n, sN_2, sS_1, sS_2, sS_s, sS_n, upd_s, upd_e, upd_n]
      rw [x1 3 (by decide)]
      exact Rep_congr a5 (fun i hi => by rw [ordR_len] at hi; exact upd_n _ _ (by omega))) (by rw [ordR_len]; simp (disch := omega) only [sC_s, sC_n, sC_2, sN_1, sN_s, sN_n, sN_2, sS_1, sS_2, sS_s, sS_n, upd_s, upd_e, upd_n]) (fun x hx => by
      have hxm := ordR_mem.mp hx
      simp (disch := omega) only [sC_s, sC_n, sC_2, sN_1, sN_s, sN_n, sN_2, sS_1, sS_2, sS_s, sS_n, upd_s, upd_e, upd_n]
      rw [dn x hxm]
      exact ⟨by omega, (g1 x hxm).1, (g1 x hxm).2.2⟩)
    rw [ordR_len, dm] at f1
    have fa : f_X10_accept (sN xF 1 (nI 0)) (nI D) = some (nI m, w') := by
      have hnum : rNumber (sN xF 1 (nI 0)) 2 (nI D) = (nI m, sN (sC (sN xF 1 (nI 0)) 2 m (nI D)) 2 (nI (m + 1))) := numT _ (by rw [sN_n _ _ (by decide), x4]; exact a1) (by rw [cp_2]; omega)
      have hpush : rPush (sN (sC (sN xF 1 (nI 0)) 2 m (nI D)) 2 (nI (m + 1))) 3 (nI m) = sN (sC (sN (sC (sN xF 1 (nI 0)) 2 m (nI D)) 2 (nI (m + 1))) 3 m (nI m)) 3 (nI (m + 1)) := pushT _ (by
        show (upd (upd xF.2.1 1 (nI 0)) 2 (nI (m + 1))) 3 = nI m
        rw [upd_n _ _ (by decide), upd_n _ _ (by decide), x4]; exact a2) (by rw [cp_3]; omega)
      unfold f_X10_accept
      rw [hnum, nmk_e, hpush, nmk_e]
      exact f1
    rw [fa, Option.bind_some]
    refine ⟨nI m, w', sC yF 0 1 (nI (m + 1)), rfl, ?_, ?_⟩
    · rw [show yF.1 0 (1 : Int32).toNatClampNeg = nI m from y1v]
      show some ((sC yF 0 1 (nI m + 1)).1 0 1 - 1, sC yF 0 1 (nI m + 1)) = _
      rw [sC_s, upd_s, nI_1, show nI (m + 1) - 1 = nI m from by simp (disch := omega) only [↓nmk_e, ↓reduceIte, Option.bind_some, Option.map_some, lit, ofN, nI_add, pk_sub, pk_mul, nI_clamp, nI_leI, nI_ltI, nI_eq, pk_div, nI_an, nleT, nleF, nltT, nltF, neqT, neqF, or_false, false_or, or_self, or_true, true_or, and_self, and_true, true_and, and_false, false_and, not_true_eq_false, not_false_eq_true, Nat.add_sub_cancel]]
    · have w2 : ∀ t, t ≠ 3 → t ≠ 2 → w'.1 t = xF.1 t := fun t t3 t2 => by
        rw [f2 t t3]; simp (disch := omega) only [sC_s, sC_n, sC_2, sN_1, sN_s, sN_n, sN_2, sS_1, sS_2, sS_s, sS_n, upd_s, upd_e, upd_n]
      have n2 : ∀ t, t ≠ 1 → t ≠ 2 → t ≠ 3 → w'.2.1 t = xF.2.1 t := fun t t1 t2 t3 => by
        rw [f3]; simp (disch := omega) only [sC_s, sC_n, sC_2, sN_1, sN_s, sN_n, sN_2, sS_1, sS_2, sS_s, sS_n, upd_s, upd_e, upd_n]
      have yn : ∀ j, j ≠ 1 → (sC yF 0 1 (nI (m + 1))).1 0 j = yF.1 0 j := fun j hj => by rw [sC_s, upd_n _ _ hj]
      refine Sim_u1_2 h (fun k hk h1 h2 => ⟨?_, ?_⟩) ?_ (fun j hj h1 h2 h3 h4 => ?_) ?_ ?_ (Sim.i1 ⟨0, by decide, ?_, ?_, fun i hi => absurd hi (Nat.not_lt_zero i)⟩) (Sim.i2 ⟨m + 1, by omega, ?_, ?_, ?_, d', fun b hb => ?_, ?_, fun b hb => ?_⟩)
      · rw [w2 k (by omega) (by omega)]; exact x1 k (by omega)
      · rw [n2 k (by omega) (by omega) (by omega), x4]
      · rw [f3]; exact x5 10 (by decide)
      · rw [yn j h3]; exact gy.2.2.2.1 j (by omega) (by omega) (by omega) (by omega) (by omega) (by omega) (by omega) (by omega) (by omega)
      · rw [sC_n _ _ _ (by decide)]; exact gy.1 1 (by decide)
      · exact gy.2.2.2.2.2 3 (by decide) (by decide) (by decide)
      · rw [f3]; simp (disch := omega) only [sC_s, sC_n, sC_2, sN_1, sN_s, sN_n, sN_2, sS_1, sS_2, sS_s, sS_n, upd_s, upd_e, upd_n]
      · rw [yn 9 (by decide)]; exact gy.2.1
      · rw [f3]; simp (disch := omega) only [sC_s, sC_n, sC_2, sN_1, sN_s, sN_n, sN_2, sS_1, sS_2, sS_s, sS_n, upd_s, upd_e, upd_n]
      · rw [f3]; simp (disch := omega) only [sC_s, sC_n, sC_2, sN_1, sN_s, sN_n, sN_2, sS_1, sS_2, sS_s, sS_n, upd_s, upd_e, upd_n]
      · rw [sC_s, upd_s]
      · by_cases e : b = m
        · subst e
          rw [dm, yn _ (by omega), f2 2 (by decide)]
          refine ⟨?_, gy.2.2.1, hD⟩
          simp (disch := omega) only [sC_s, sC_n, sC_2, sN_1, sN_s, sN_n, sN_2, sS_1, sS_2, sS_s, sS_n, upd_s, upd_e, upd_n]
        · rw [dn b (by omega), yn _ (by omega), f2 2 (by decide)]
          have := g1 b (by omega)
          refine ⟨?_, this.2⟩
          simp (disch := omega) only [sC_s, sC_n, sC_2, sN_1, sN_s, sN_n, sN_2, sS_1, sS_2, sS_s, sS_n, upd_s, upd_e, upd_n]
          exact this.1
      · show Rep (w'.1 3) (insR d' m (ordR d' m))
        rw [ord]; exact f5
      · by_cases e : b = m
        · subst e
          have k4 : WyK b c w' (sC yF 0 1 (nI (b + 1))) := by
            obtain ⟨z1, z2, z3⟩ := k4
            refine ⟨by rw [yn _ (by omega)]; exact z1, fun j hj => (z2 j hj).cg (fun q q1 q2 => by rw [w2 q (by omega) (by omega)]) (yn _ (by omega)) (yn _ (by omega)) (yn _ (by omega)) (yn _ (by omega)), ?_⟩
            unfold cFeast at z3 ⊢
            rw [w2 4 (by decide) (by decide)]
            obtain ⟨q, q1, q2, q3⟩ := z3
            refine ⟨q, q1, q2, fun dd hd => ?_⟩
            rw [q3 dd hd]
            exact exists_congr fun k => by rw [yn _ (by omega), yn _ (by omega)]
          exact ⟨c, k1, k2, by rw [w2 5 (by decide) (by decide)]; exact k3, k4.1, k4.2.1, k4.2.2⟩
        · exact (g2 b (by omega)).cg (by rw [w2 4 (by decide) (by decide)]) (by rw [w2 5 (by decide) (by decide)]) (fun q k q1 q2 hk => by rw [w2 q (by omega) (by omega)]) (yn _ (by omega)) (fun k hk => yn _ (by omega)) (fun k hk => yn _ (by omega)) (fun k hk => yn _ (by omega)) (fun k hk => yn _ (by omega))
  · rw [e1, e2, Option.bind_some, Option.bind_some, nmk_e, if_neg (show ¬ nI p < 0 from nI_pos (by omega)), if_pos (show nI 0 = (0 : Int32) from rfl), eCl]
    refine ⟨_, _, _, rfl, ?_, hS⟩
    rw [e3]
