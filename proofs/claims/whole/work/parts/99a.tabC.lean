/-! the class's table: a row, and all of it -/
theorem lsC_congr {P : PP} {lt : Nat → Bool} {pw pu : Nat → Nat → Nat} {T T' : Nat → Nat → Nat → Nat} {k p : Nat} (h : ∀ k', k < k' → T k' = T' k') (h0 : p = 2 → T k 0 0 = T' k 0 0) (w : Nat) : lsC P lt pw pu T k w p = lsC P lt pw pu T' k w p := by
  have hce : ceC P lt T k w p = ceC P lt T' k w p := by
    unfold ceC
    by_cases c : p = 2
    · rw [h0 c, h (k + 1) (by omega)]
    · have e : ∀ q : Prop, (p = 2 ∧ q) = False := fun q => eq_false fun z => c z.1
      simp only [e, if_false, h (k + 1) (by omega)]
  unfold lsC
  rw [hce]
  simp only [cuC, cbC, h (k + 3) (by omega), h (k + 2) (by omega), h (k + 1) (by omega)]
def okA.ok {A : CA} (h : okA A) (z : Nat) (ch WD : Nat → Nat) : okP (PA z A WD) (ltF z ch) (pwF WD A.2.1 z ch) (puF A.2.1 z ch) ∧ A.1 5 = nI (tN (A.1 5)) ∧ A.1 6 = nI (tN (A.1 6)) ∧ tN (A.1 5) ≤ 9 ∧ tN (A.1 6) ≤ 9 := by
  obtain ⟨o1, o2, o3, o4⟩ := h
  obtain ⟨b5, c5⟩ := bdt (by decide) o2
  obtain ⟨b6, c6⟩ := bdt (by decide) o3
  refine ⟨⟨fun k hk => (ltF_iff.mp hk).1, fun k n n1 n3 hp => ?_, fun k n => ?_, c5⟩, b5, b6, c5, c6⟩
  · unfold pwF at hp
    show k + n ≤ z
    by_cases e1 : n = 1
    · rw [if_pos e1] at hp
      by_cases e2 : ltF z ch k = true
      · have := (ltF_iff.mp e2).1; omega
      · rw [if_neg e2] at hp; omega
    · rw [if_neg e1] at hp
      by_cases e2 : fit z ch k n = true
      · unfold fit at e2
        rw [Bool.and_eq_true, Bool.and_eq_true, Bool.or_eq_true, decide_eq_true_iff] at e2
        obtain ⟨⟨f1, f2⟩, f3⟩ := e2
        have g2 := (ltF_iff.mp f2).1
        rcases f3 with f3 | f3
        · omega
        · have := (ltF_iff.mp f3).1; omega
      · rw [if_neg e2] at hp; omega
  · unfold puF
    split
    · omega
    · split
      · cases hm : A.2.1 (nI (fkN ch k n)) with
        | none => exact Nat.zero_le _
        | some p => exact (bdt (by decide) (o4 _ p.1 p.2 hm).2.2).2
      · omega
theorem okA.pw9 {A : CA} (h : okA A) (z : Nat) (ch WD : Nat → Nat) (hW : ∀ c, c < 27 → 1 ≤ WD c ∧ WD c ≤ 9) (hch : ∀ i, i < z → ch i ≤ 122) (k n : Nat) : pwF WD A.2.1 z ch k n ≤ 9 := by
  unfold pwF
  split
  · split
    · rename_i hl
      have := hch k (ltF_iff.mp hl).1
      exact (hW _ (by omega)).2
    · omega
  · split
    · cases hm : A.2.1 (nI (fkN ch k n)) with
      | none => exact Nat.zero_le _
      | some p =>
        exact (brt (by decide) (h.2.2.2 _ p.1 p.2 hm).2.1).2.2
    · omega
def cellC (x : CW) (z : Nat) (ch WD : Nat → Nat) (A : CA) (k w p : Nat) : Nat := if k = z then 0 else lsC (PA z A WD) (ltF z ch) (pwF WD A.2.1 z ch) (puF A.2.1 z ch) (TC x) k w p
theorem TC_eq {x x' : CW} {k : Nat} (h : ∀ i, 123 * (k + 1) ≤ i → x'.1 46 i = x.1 46 i) : ∀ k', k < k' → TC x' k' = TC x k' := fun k' hk' => by
  funext w p
  unfold TC
  rw [h _ (by omega)]
theorem l_ugEnd {x : CW} {z k w p : Nat} {ch WD : Nat → Nat} {A : CA} (h : EnvC x z ch WD A) (hk : k < z) (h6 : x.2.2 6 = nI (if ltF z ch k = true then 0 else 1)) (hT : TCok x A z (k + 1)) (hN : TC x (k + 1) 0 0 ≤ EE) (h0 : p = 2 → x.1 46 (123 * k) = nI (TC x k 0 0) ∧ TC x k 0 0 ≤ EE) (hw : w ≤ colN A) (hp : p < 3) : f_X6_uglyByEnd x (nI k) (nI w) (nI p) = nI (ceC (PA z A WD) (ltF z ch) (TC x) k w p) ∧ ceC (PA z A WD) (ltF z ch) (TC x) k w p ≤ EE + 9 ∧ (p < 2 ∨ ¬ ltF z ch k = true → ceC (PA z A WD) (ltF z ch) (TC x) k w p ≤ EE) := by
  have hEE : EE = 1000000 := rfl
  have hb := colN_b A
  have hz := h.2.1
  obtain ⟨-, -, -, -, ⟨q1, q2, q3, q4, q5, q6⟩, hA, hW⟩ := h
  obtain ⟨-, b5, -, c5, -⟩ := hA.ok z ch WD
  obtain ⟨w1, w2, w3⟩ := hW 26 (by decide)
  have q4 := q4.trans b5
  obtain ⟨V, hV⟩ : ∃ V, V = ceC (PA z A WD) (ltF z ch) (TC x) k w p := ⟨_, rfl⟩
  rw [← hV]
  have hV : V = if ltF z ch k = true then (if p = 2 ∧ w + WD 26 = colN A then tN (A.1 5) + TC x k 0 0 else EE) else if w = colN A then TC x (k + 1) 0 0 else EE := hV
  unfold f_X6_uglyByEnd f_X6_index
  by_cases cl : ltF z ch k = true
  · rw [if_pos cl] at h6 hV
    by_cases c2 : p = 2
    · subst c2
      obtain ⟨t1, t2⟩ := h0 rfl
      by_cases c3 : w + WD 26 = colN A
      · rw [if_pos ⟨rfl, c3⟩] at hV
        rw [hV]
        refine ⟨?_, by omega, fun q => by rcases q with q | q; (· omega); exact absurd cl q⟩
        have e : (k * 41 + 0) * 3 + 0 = 123 * k := by omega
        simp (disch := omega) only [↓nmk_e, ↓reduceIte, Option.bind_some, Option.map_some, lit, ofN, nI_add, pk_sub, pk_mul, nI_clamp, nI_leI, nI_ltI, nI_eq, pk_div, nI_an, nleT, nleF, nltT, nltF, neqT, neqF, or_false, false_or, or_self, or_true, true_or, and_self, and_true, true_and, and_false, false_and, not_true_eq_false, not_false_eq_true, f_X12_isSort, f_X12_isDay, f_X11_isSort, f_X11_isDay, inI, inP, f_X5_size, f_X5_isFull, f_X11_now, f_X2_isKind, f_X2_has, f_X3_has, f_X8_hasPage, f_X8_hasAllPages, f_X8_stands, f_X1_isPrinted, f_X1_rule, f_X9_has, f_X9_isFull, f_X12_isPage, f_X12_isVerse, sC_s, sC_n, sC_2, sN_1, sN_s, sN_n, sN_2, sS_1, sS_2, sS_s, sS_n, upd_s, upd_e, upd_n, rAt, rPut, rAdd, rSwap, rPush, rNumber, cp_0, cp_1, cp_2, cp_3, cp_4, cp_5, cp_6, cp_7, cp_8, cp_9, cp_10, cp_11, cp_12, cp_13, cp_14, cp_15, cp_16, cp_17, cp_18, cp_19, cp_20, cp_21, cp_22, cp_23, cp_24, cp_25, cp_26, cp_27, cp_28, cp_29, cp_30, cp_31, cp_32, cp_33, cp_34, cp_35, cp_36, cp_37, cp_38, cp_39, cp_40, cp_41, cp_42, cp_43, cp_44, cp_45, cp_46, cp_47, cp_48, cp_49, cp_50, cp_51, cp_52, cp_53, cp_54, cp_55, cp_56, cp_57, h6, q1, q4, w1, e, t1]
      · rw [if_neg (fun q => c3 q.2)] at hV
        rw [hV]
        refine ⟨?_, by omega, fun _ => Nat.le_refl _⟩
        simp (disch := omega) only [↓nmk_e, ↓reduceIte, Option.bind_some, Option.map_some, lit, ofN, nI_add, pk_sub, pk_mul, nI_clamp, nI_leI, nI_ltI, nI_eq, pk_div, nI_an, nleT, nleF, nltT, nltF, neqT, neqF, or_false, false_or, or_self, or_true, true_or, and_self, and_true, true_and, and_false, false_and, not_true_eq_false, not_false_eq_true, f_X12_isSort, f_X12_isDay, f_X11_isSort, f_X11_isDay, inI, inP, f_X5_size, f_X5_isFull, f_X11_now, f_X2_isKind, f_X2_has, f_X3_has, f_X8_hasPage, f_X8_hasAllPages, f_X8_stands, f_X1_isPrinted, f_X1_rule, f_X9_has, f_X9_isFull, f_X12_isPage, f_X12_isVerse, sC_s, sC_n, sC_2, sN_1, sN_s, sN_n, sN_2, sS_1, sS_2, sS_s, sS_n, upd_s, upd_e, upd_n, rAt, rPut, rAdd, rSwap, rPush, rNumber, cp_0, cp_1, cp_2, cp_3, cp_4, cp_5, cp_6, cp_7, cp_8, cp_9, cp_10, cp_11, cp_12, cp_13, cp_14, cp_15, cp_16, cp_17, cp_18, cp_19, cp_20, cp_21, cp_22, cp_23, cp_24, cp_25, cp_26, cp_27, cp_28, cp_29, cp_30, cp_31, cp_32, cp_33, cp_34, cp_35, cp_36, cp_37, cp_38, cp_39, cp_40, cp_41, cp_42, cp_43, cp_44, cp_45, cp_46, cp_47, cp_48, cp_49, cp_50, cp_51, cp_52, cp_53, cp_54, cp_55, cp_56, cp_57, h6, q1, q4, w1]
    · rw [if_neg (fun q => c2 q.1)] at hV
      rw [hV]
      refine ⟨?_, by omega, fun _ => Nat.le_refl _⟩
      simp (disch := omega) only [↓nmk_e, ↓reduceIte, Option.bind_some, Option.map_some, lit, ofN, nI_add, pk_sub, pk_mul, nI_clamp, nI_leI, nI_ltI, nI_eq, pk_div, nI_an, nleT, nleF, nltT, nltF, neqT, neqF, or_false, false_or, or_self, or_true, true_or, and_self, and_true, true_and, and_false, false_and, not_true_eq_false, not_false_eq_true, f_X12_isSort, f_X12_isDay, f_X11_isSort, f_X11_isDay, inI, inP, f_X5_size, f_X5_isFull, f_X11_now, f_X2_isKind, f_X2_has, f_X3_has, f_X8_hasPage, f_X8_hasAllPages, f_X8_stands, f_X1_isPrinted, f_X1_rule, f_X9_has, f_X9_isFull, f_X12_isPage, f_X12_isVerse, sC_s, sC_n, sC_2, sN_1, sN_s, sN_n, sN_2, sS_1, sS_2, sS_s, sS_n, upd_s, upd_e, upd_n, rAt, rPut, rAdd, rSwap, rPush, rNumber, cp_0, cp_1, cp_2, cp_3, cp_4, cp_5, cp_6, cp_7, cp_8, cp_9, cp_10, cp_11, cp_12, cp_13, cp_14, cp_15, cp_16, cp_17, cp_18, cp_19, cp_20, cp_21, cp_22, cp_23, cp_24, cp_25, cp_26, cp_27, cp_28, cp_29, cp_30, cp_31, cp_32, cp_33, cp_34, cp_35, cp_36, cp_37, cp_38, cp_39, cp_40, cp_41, cp_42, cp_43, cp_44, cp_45, cp_46, cp_47, cp_48, cp_49, cp_50, cp_51, cp_52, cp_53, cp_54, cp_55, cp_56, cp_57, h6]
  · rw [if_neg cl] at h6 hV
    by_cases c3 : w = colN A
    · rw [if_pos c3] at hV
      rw [hV]
      refine ⟨?_, by omega, fun _ => hN⟩
      have t1 := (hT (k + 1) (Nat.le_refl _) (by omega) 0 (by omega) 0 (by decide)).1
      simp (disch := omega) only [↓nmk_e, ↓reduceIte, Option.bind_some, Option.map_some, lit, ofN, nI_add, pk_sub, pk_mul, nI_clamp, nI_leI, nI_ltI, nI_eq, pk_div, nI_an, nleT, nleF, nltT, nltF, neqT, neqF, or_false, false_or, or_self, or_true, true_or, and_self, and_true, true_and, and_false, false_and, not_true_eq_false, not_false_eq_true, f_X12_isSort, f_X12_isDay, f_X11_isSort, f_X11_isDay, inI, inP, f_X5_size, f_X5_isFull, f_X11_now, f_X2_isKind, f_X2_has, f_X3_has, f_X8_hasPage, f_X8_hasAllPages, f_X8_stands, f_X1_isPrinted, f_X1_rule, f_X9_has, f_X9_isFull, f_X12_isPage, f_X12_isVerse, sC_s, sC_n, sC_2, sN_1, sN_s, sN_n, sN_2, sS_1, sS_2, sS_s, sS_n, upd_s, upd_e, upd_n, rAt, rPut, rAdd, rSwap, rPush, rNumber, cp_0, cp_1, cp_2, cp_3, cp_4, cp_5, cp_6, cp_7, cp_8, cp_9, cp_10, cp_11, cp_12, cp_13, cp_14, cp_15, cp_16, cp_17, cp_18, cp_19, cp_20, cp_21, cp_22, cp_23, cp_24, cp_25, cp_26, cp_27, cp_28, cp_29, cp_30, cp_31, cp_32, cp_33, cp_34, cp_35, cp_36, cp_37, cp_38, cp_39, cp_40, cp_41, cp_42, cp_43, cp_44, cp_45, cp_46, cp_47, cp_48, cp_49, cp_50, cp_51, cp_52, cp_53, cp_54, cp_55, cp_56, cp_57, h6, q1, t1]
    · rw [if_neg c3] at hV
      rw [hV]
      refine ⟨?_, by omega, fun _ => Nat.le_refl _⟩
      simp (disch := omega) only [↓nmk_e, ↓reduceIte, Option.bind_some, Option.map_some, lit, ofN, nI_add, pk_sub, pk_mul, nI_clamp, nI_leI, nI_ltI, nI_eq, pk_div, nI_an, nleT, nleF, nltT, nltF, neqT, neqF, or_false, false_or, or_self, or_true, true_or, and_self, and_true, true_and, and_false, false_and, not_true_eq_false, not_false_eq_true, f_X12_isSort, f_X12_isDay, f_X11_isSort, f_X11_isDay, inI, inP, f_X5_size, f_X5_isFull, f_X11_now, f_X2_isKind, f_X2_has, f_X3_has, f_X8_hasPage, f_X8_hasAllPages, f_X8_stands, f_X1_isPrinted, f_X1_rule, f_X9_has, f_X9_isFull, f_X12_isPage, f_X12_isVerse, sC_s, sC_n, sC_2, sN_1, sN_s, sN_n, sN_2, sS_1, sS_2, sS_s, sS_n, upd_s, upd_e, upd_n, rAt, rPut, rAdd, rSwap, rPush, rNumber, cp_0, cp_1, cp_2, cp_3, cp_4, cp_5, cp_6, cp_7, cp_8, cp_9, cp_10, cp_11, cp_12, cp_13, cp_14, cp_15, cp_16, cp_17, cp_18, cp_19, cp_20, cp_21, cp_22, cp_23, cp_24, cp_25, cp_26, cp_27, cp_28, cp_29, cp_30, cp_31, cp_32, cp_33, cp_34, cp_35, cp_36, cp_37, cp_38, cp_39, cp_40, cp_41, cp_42, cp_43, cp_44, cp_45, cp_46, cp_47, cp_48, cp_49, cp_50, cp_51, cp_52, cp_53, cp_54, cp_55, cp_56, cp_57, h6, q1]
