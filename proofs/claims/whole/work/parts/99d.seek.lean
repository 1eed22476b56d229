/-! seeking the piece, the blank, the choice -/
theorem sk3 {G B : Nat → Nat} {V : Nat} (hex : ∃ n, 1 ≤ n ∧ n ≤ 3 ∧ (G n = V ∨ B n = V)) : (G 3 = V ∨ B 3 = V) ∨ (¬ (G 3 = V ∨ B 3 = V) ∧ (G 2 = V ∨ B 2 = V)) ∨ (¬ (G 3 = V ∨ B 3 = V) ∧ ¬ (G 2 = V ∨ B 2 = V) ∧ (G 1 = V ∨ B 1 = V)) := by
  obtain ⟨n, h1, h2, h3⟩ := hex
  have : n = 1 ∨ n = 2 ∨ n = 3 := by omega
  rcases this with rfl | rfl | rfl <;> omega
theorem l_242 {y : CW} {x z k w h' V : Nat} {ch WD : Nat → Nat} {A : CA} (h : EnvR y x z ch WD A) (hT : TAok y A z (k + 1)) (hk : ltF z ch k = true) (hw : w ≤ colN A) (hh : h' < 2) (hV : V ≤ EE + 90) {G B : Nat → Nat} (hG : ∀ n, G n = goA (PA z A WD) (ltF z ch) (pwF WD A.2.1 z ch) (puF A.2.1 z ch) (TA y) k n w) (hB : ∀ n, B n = brA (PA z A WD) (ltF z ch) (pwF WD A.2.1 z ch) (puF A.2.1 z ch) (TA y) k n w h') (hex : ∃ n, 1 ≤ n ∧ n ≤ 3 ∧ (G n = V ∨ B n = V)) : ∃ n, (n = 1 ∨ n = 2 ∨ n = 3) ∧ (∀ j, f_X12_sets_L242 (nI x) (nI k) (nI w) (nI h') y (nI V) j FU (nI 3) = j (nI n)) ∧ (G n = V ∨ B n = V) ∧ ∀ m, n < m → m ≤ 3 → G m ≠ V ∧ B m ≠ V := by
  have hEE : EE = 1000000 := rfl
  have hF : FU = 9996 + 1 + 1 + 1 + 1 := rfl
  have go : ∀ n, n = 1 ∨ n = 2 ∨ n = 3 → f_X12_goingOn y (nI x) (nI k) (nI n) (nI w) = some (nI (G n)) ∧ G n ≤ EE + 9 := fun n hn => by rw [hG]; exact l_go h hT hk hn hw
  have br : ∀ n, n = 1 ∨ n = 2 ∨ n = 3 → f_X12_breaking y (nI x) (nI k) (nI n) (nI w) (nI h') = some (nI (B n)) ∧ B n ≤ EE + 18 := fun n hn => by rw [hB]; exact l_br h hT hk hn hw hh
  obtain ⟨a1, b1⟩ := go 1 (by decide)
  obtain ⟨a2, b2⟩ := go 2 (by decide)
  obtain ⟨a3, b3⟩ := go 3 (by decide)
  obtain ⟨d1, e1⟩ := br 1 (by decide)
  obtain ⟨d2, e2⟩ := br 2 (by decide)
  obtain ⟨d3, e3⟩ := br 3 (by decide)
  have st : ∀ n q j, (n = 1 ∨ n = 2 ∨ n = 3) → (G n = V ∨ B n = V) → f_X12_sets_L242 (nI x) (nI k) (nI w) (nI h') y (nI V) j (q + 1) (nI n) = j (nI n) := fun n q j hn c => by
    obtain ⟨g1, g2⟩ := go n hn
    obtain ⟨g3, g4⟩ := br n hn
    by_cases c1 : G n = V
    · simp (disch := omega) only [f_X12_sets_L242, ↓nmk_e, ↓reduceIte, Option.bind_some, Option.map_some, lit, ofN, nI_add, pk_sub, pk_mul, nI_clamp, nI_leI, nI_ltI, nI_eq, pk_div, nI_an, nleT, nleF, nltT, nltF, neqT, neqF, or_false, false_or, or_self, or_true, true_or, and_self, and_true, true_and, and_false, false_and, not_true_eq_false, not_false_eq_true, f_X12_isSort, f_X12_isDay, f_X11_isSort, f_X11_isDay, inI, inP, f_X5_size, f_X5_isFull, f_X11_now, f_X2_isKind, f_X2_has, f_X3_has, f_X8_hasPage, f_X8_hasAllPages, f_X8_stands, f_X1_isPrinted, f_X1_rule, f_X9_has, f_X9_isFull, f_X12_isPage, f_X12_isVerse, sC_s, sC_n, sC_2, sN_1, sN_s, sN_n, sN_2, sS_1, sS_2, sS_s, sS_n, upd_s, upd_e, upd_n, rAt, rPut, rAdd, rSwap, rPush, rNumber, cp_0, cp_1, cp_2, cp_3, cp_4, cp_5, cp_6, cp_7, cp_8, cp_9, cp_10, cp_11, cp_12, cp_13, cp_14, cp_15, cp_16, cp_17, cp_18, cp_19, cp_20, cp_21, cp_22, cp_23, cp_24, cp_25, cp_26, cp_27, cp_28, cp_29, cp_30, cp_31, cp_32, cp_33, cp_34, cp_35, cp_36, cp_37, cp_38, cp_39, cp_40, cp_41, cp_42, cp_43, cp_44, cp_45, cp_46, cp_47, cp_48, cp_49, cp_50, cp_51, cp_52, cp_53, cp_54, cp_55, cp_56, cp_57, g1, c1]
    · have c2 : B n = V := by omega
      simp (disch := omega) only [f_X12_sets_L242, ↓nmk_e, ↓reduceIte, Option.bind_some, Option.map_some, lit, ofN, nI_add, pk_sub, pk_mul, nI_clamp, nI_leI, nI_ltI, nI_eq, pk_div, nI_an, nleT, nleF, nltT, nltF, neqT, neqF, or_false, false_or, or_self, or_true, true_or, and_self, and_true, true_and, and_false, false_and, not_true_eq_false, not_false_eq_true, f_X12_isSort, f_X12_isDay, f_X11_isSort, f_X11_isDay, inI, inP, f_X5_size, f_X5_isFull, f_X11_now, f_X2_isKind, f_X2_has, f_X3_has, f_X8_hasPage, f_X8_hasAllPages, f_X8_stands, f_X1_isPrinted, f_X1_rule, f_X9_has, f_X9_isFull, f_X12_isPage, f_X12_isVerse, sC_s, sC_n, sC_2, sN_1, sN_s, sN_n, sN_2, sS_1, sS_2, sS_s, sS_n, upd_s, upd_e, upd_n, rAt, rPut, rAdd, rSwap, rPush, rNumber, cp_0, cp_1, cp_2, cp_3, cp_4, cp_5, cp_6, cp_7, cp_8, cp_9, cp_10, cp_11, cp_12, cp_13, cp_14, cp_15, cp_16, cp_17, cp_18, cp_19, cp_20, cp_21, cp_22, cp_23, cp_24, cp_25, cp_26, cp_27, cp_28, cp_29, cp_30, cp_31, cp_32, cp_33, cp_34, cp_35, cp_36, cp_37, cp_38, cp_39, cp_40, cp_41, cp_42, cp_43, cp_44, cp_45, cp_46, cp_47, cp_48, cp_49, cp_50, cp_51, cp_52, cp_53, cp_54, cp_55, cp_56, cp_57, g1, c1, g3, c2]
  have sk : ∀ n q j, (n + 1 = 2 ∨ n + 1 = 3) → ¬ (G (n + 1) = V ∨ B (n + 1) = V) → f_X12_sets_L242 (nI x) (nI k) (nI w) (nI h') y (nI V) j (q + 1) (nI (n + 1)) = f_X12_sets_L242 (nI x) (nI k) (nI w) (nI h') y (nI V) j q (nI n) := fun n q j hn c => by
    obtain ⟨g1, g2⟩ := go (n + 1) (by omega)
    obtain ⟨g3, g4⟩ := br (n + 1) (by omega)
    have c1 : ¬ G (n + 1) = V := by omega
    have c2 : ¬ B (n + 1) = V := by omega
    have dn1 : nI (n + 1) + -nI 1 = nI n := dn_s (n + 1)
    simp (disch := omega) only [f_X12_sets_L242, ↓nmk_e, ↓reduceIte, Option.bind_some, Option.map_some, lit, ofN, nI_add, pk_sub, pk_mul, nI_clamp, nI_leI, nI_ltI, nI_eq, pk_div, nI_an, nleT, nleF, nltT, nltF, neqT, neqF, or_false, false_or, or_self, or_true, true_or, and_self, and_true, true_and, and_false, false_and, not_true_eq_false, not_false_eq_true, f_X12_isSort, f_X12_isDay, f_X11_isSort, f_X11_isDay, inI, inP, f_X5_size, f_X5_isFull, f_X11_now, f_X2_isKind, f_X2_has, f_X3_has, f_X8_hasPage, f_X8_hasAllPages, f_X8_stands, f_X1_isPrinted, f_X1_rule, f_X9_has, f_X9_isFull, f_X12_isPage, f_X12_isVerse, sC_s, sC_n, sC_2, sN_1, sN_s, sN_n, sN_2, sS_1, sS_2, sS_s, sS_n, upd_s, upd_e, upd_n, rAt, rPut, rAdd, rSwap, rPush, rNumber, cp_0, cp_1, cp_2, cp_3, cp_4, cp_5, cp_6, cp_7, cp_8, cp_9, cp_10, cp_11, cp_12, cp_13, cp_14, cp_15, cp_16, cp_17, cp_18, cp_19, cp_20, cp_21, cp_22, cp_23, cp_24, cp_25, cp_26, cp_27, cp_28, cp_29, cp_30, cp_31, cp_32, cp_33, cp_34, cp_35, cp_36, cp_37, cp_38, cp_39, cp_40, cp_41, cp_42, cp_43, cp_44, cp_45, cp_46, cp_47, cp_48, cp_49, cp_50, cp_51, cp_52, cp_53, cp_54, cp_55, cp_56, cp_57, g1, c1, g3, c2, dn1]
  rw [hF]
  rcases sk3 hex with c | ⟨c3, c⟩ | ⟨c3, c2, c⟩
  · exact ⟨3, by decide, fun j => st 3 _ j (by decide) c, c, fun m h1 h2 => by omega⟩
  · refine ⟨2, by decide, fun j => ?_, c, fun m h1 h2 => ?_⟩
    · rw [sk 2 _ j (by decide) c3]; exact st 2 _ j (by decide) c
    · have : m = 3 := by omega
      subst this; omega
  · refine ⟨1, by decide, fun j => ?_, c, fun m h1 h2 => ?_⟩
    · rw [sk 2 _ j (by decide) c3, sk 1 _ j (by decide) c2]; exact st 1 _ j (by decide) c
    · have : m = 2 ∨ m = 3 := by omega
      rcases this with rfl | rfl <;> omega
theorem l_465 {y : CW} {x z k w V : Nat} {ch WD : Nat → Nat} {A : CA} (h : EnvR y x z ch WD A) (hT : TAok y A z (k + 1)) (hk : k < z) (hw : w ≤ colN A) (hV : V ≤ EE + 90) : ∃ n, leaN A ≤ n ∧ n ≤ mosN A + 1 ∧ (∀ j, f_X12_sets_L465 (nI k) (nI w) y (nI V) j FU (nI (leaN A)) = j (nI n)) ∧ (n ≤ mosN A → blA (PA z A WD) (TA y) k w n = V) ∧ ∀ m, leaN A ≤ m → m < n → blA (PA z A WD) (TA y) k w m ≠ V := by
  have hEE : EE = 1000000 := rfl
  have hlb := leaN_b A
  have hmb := mosN_b A
  have hm4 := h.2.1.2.2.1
  refine run1 (fun q i (_ : Unit) => fun j => f_X12_sets_L465 (nI k) (nI w) y (nI V) j q i) (fun i _ => leaN A ≤ i ∧ ∀ m, leaN A ≤ m → m < i → blA (PA z A WD) (TA y) k w m ≠ V) (mosN A + 1) (fun r => ∃ n, leaN A ≤ n ∧ n ≤ mosN A + 1 ∧ (∀ j, r j = j (nI n)) ∧ (n ≤ mosN A → blA (PA z A WD) (TA y) k w n = V) ∧ ∀ m, leaN A ≤ m → m < n → blA (PA z A WD) (TA y) k w m ≠ V) ?_ ?_ FU (leaN A) () (by omega) (by unfold FU; omega) ⟨Nat.le_refl _, fun m h1 h2 => by omega⟩
  · rintro q - ⟨h1, h2⟩
    refine ⟨mosN A + 1, h1, Nat.le_refl _, fun j => ?_, fun c => by omega, h2⟩
    simp (disch := omega) only [f_X12_sets_L465, ↓nmk_e, ↓reduceIte, Option.bind_some, Option.map_some, lit, ofN, nI_add, pk_sub, pk_mul, nI_clamp, nI_leI, nI_ltI, nI_eq, pk_div, nI_an, nleT, nleF, nltT, nltF, neqT, neqF, or_false, false_or, or_self, or_true, true_or, and_self, and_true, true_and, and_false, false_and, not_true_eq_false, not_false_eq_true, f_X12_isSort, f_X12_isDay, f_X11_isSort, f_X11_isDay, inI, inP, f_X5_size, f_X5_isFull, f_X11_now, f_X2_isKind, f_X2_has, f_X3_has, f_X8_hasPage, f_X8_hasAllPages, f_X8_stands, f_X1_isPrinted, f_X1_rule, f_X9_has, f_X9_isFull, f_X12_isPage, f_X12_isVerse, sC_s, sC_n, sC_2, sN_1, sN_s, sN_n, sN_2, sS_1, sS_2, sS_s, sS_n, upd_s, upd_e, upd_n, rAt, rPut, rAdd, rSwap, rPush, rNumber, cp_0, cp_1, cp_2, cp_3, cp_4, cp_5, cp_6, cp_7, cp_8, cp_9, cp_10, cp_11, cp_12, cp_13, cp_14, cp_15, cp_16, cp_17, cp_18, cp_19, cp_20, cp_21, cp_22, cp_23, cp_24, cp_25, cp_26, cp_27, cp_28, cp_29, cp_30, cp_31, cp_32, cp_33, cp_34, cp_35, cp_36, cp_37, cp_38, cp_39, cp_40, cp_41, cp_42, cp_43, cp_44, cp_45, cp_46, cp_47, cp_48, cp_49, cp_50, cp_51, cp_52, cp_53, cp_54, cp_55, cp_56, cp_57, hm4]
  · rintro q i - hi ⟨h1, h2⟩
    obtain ⟨b1, b2⟩ := l_bl h hT hk hw h1 (show i ≤ mosN A by omega)
    by_cases c : blA (PA z A WD) (TA y) k w i = V
    · refine .inl ⟨i, h1, by omega, fun j => ?_, fun _ => c, h2⟩
      rw [c] at b1
      simp (disch := omega) only [f_X12_sets_L465, ↓nmk_e, ↓reduceIte, Option.bind_some, Option.map_some, lit, ofN, nI_add, pk_sub, pk_mul, nI_clamp, nI_leI, nI_ltI, nI_eq, pk_div, nI_an, nleT, nleF, nltT, nltF, neqT, neqF, or_false, false_or, or_self, or_true, true_or, and_self, and_true, true_and, and_false, false_and, not_true_eq_false, not_false_eq_true, f_X12_isSort, f_X12_isDay, f_X11_isSort, f_X11_isDay, inI, inP, f_X5_size, f_X5_isFull, f_X11_now, f_X2_isKind, f_X2_has, f_X3_has, f_X8_hasPage, f_X8_hasAllPages, f_X8_stands, f_X1_isPrinted, f_X1_rule, f_X9_has, f_X9_isFull, f_X12_isPage, f_X12_isVerse, sC_s, sC_n, sC_2, sN_1, sN_s, sN_n, sN_2, sS_1, sS_2, sS_s, sS_n, upd_s, upd_e, upd_n, rAt, rPut, rAdd, rSwap, rPush, rNumber, cp_0, cp_1, cp_2, cp_3, cp_4, cp_5, cp_6, cp_7, cp_8, cp_9, cp_10, cp_11, cp_12, cp_13, cp_14, cp_15, cp_16, cp_17, cp_18, cp_19, cp_20, cp_21, cp_22, cp_23, cp_24, cp_25, cp_26, cp_27, cp_28, cp_29, cp_30, cp_31, cp_32, cp_33, cp_34, cp_35, cp_36, cp_37, cp_38, cp_39, cp_40, cp_41, cp_42, cp_43, cp_44, cp_45, cp_46, cp_47, cp_48, cp_49, cp_50, cp_51, cp_52, cp_53, cp_54, cp_55, cp_56, cp_57, hm4, b1]
    · refine .inr ⟨(), funext fun j => ?_, by omega, fun m h3 h4 => ?_⟩
      · simp (disch := omega) only [f_X12_sets_L465, ↓nmk_e, ↓reduceIte, Option.bind_some, Option.map_some, lit, ofN, nI_add, pk_sub, pk_mul, nI_clamp, nI_leI, nI_ltI, nI_eq, pk_div, nI_an, nleT, nleF, nltT, nltF, neqT, neqF, or_false, false_or, or_self, or_true, true_or, and_self, and_true, true_and, and_false, false_and, not_true_eq_false, not_false_eq_true, f_X12_isSort, f_X12_isDay, f_X11_isSort, f_X11_isDay, inI, inP, f_X5_size, f_X5_isFull, f_X11_now, f_X2_isKind, f_X2_has, f_X3_has, f_X8_hasPage, f_X8_hasAllPages, f_X8_stands, f_X1_isPrinted, f_X1_rule, f_X9_has, f_X9_isFull, f_X12_isPage, f_X12_isVerse, sC_s, sC_n, sC_2, sN_1, sN_s, sN_n, sN_2, sS_1, sS_2, sS_s, sS_n, upd_s, upd_e, upd_n, rAt, rPut, rAdd, rSwap, rPush, rNumber, cp_0, cp_1, cp_2, cp_3, cp_4, cp_5, cp_6, cp_7, cp_8, cp_9, cp_10, cp_11, cp_12, cp_13, cp_14, cp_15, cp_16, cp_17, cp_18, cp_19, cp_20, cp_21, cp_22, cp_23, cp_24, cp_25, cp_26, cp_27, cp_28, cp_29, cp_30, cp_31, cp_32, cp_33, cp_34, cp_35, cp_36, cp_37, cp_38, cp_39, cp_40, cp_41, cp_42, cp_43, cp_44, cp_45, cp_46, cp_47, cp_48, cp_49, cp_50, cp_51, cp_52, cp_53, cp_54, cp_55, cp_56, cp_57, hm4, b1, c]
      · by_cases e : m = i
        · rw [e]; exact c
        · exact h2 m h3 (by omega)
theorem l_best {x : CW} {A : CA} {z k w p V : Nat} {lt : Bool} {cs : List CT} (hcol : x.2.2 1 = nI (colN A)) (hz : z ≤ 60) (hC : CHs x cs) (h6 : x.2.2 6 = nI (if lt = true then 0 else 1)) (hok : okCs z k cs) (hT : TCok x A z (k + 1)) (hw : w ≤ colN A) (hp : p < 3) (hk : k < z) (hV : x.1 46 ((k * 41 + w) * 3 + p) = nI V) (hV2 : V ≤ EE + 90) : (f_X6_bestChoice x (nI k) (nI w) (nI p) = some (-nI 1) ∧ ∀ i, i < cs.length → cvl (colN A) (TC x) k w (if lt = true then min (p + 1) 2 else 0) (cs.getD i c0T) ≠ V) ∨ ∃ n, n < cs.length ∧ f_X6_bestChoice x (nI k) (nI w) (nI p) = some (nI n) ∧ cvl (colN A) (TC x) k w (if lt = true then min (p + 1) 2 else 0) (cs.getD n c0T) = V ∧ ∀ i, i < n → cvl (colN A) (TC x) k w (if lt = true then min (p + 1) 2 else 0) (cs.getD i c0T) ≠ V := by
  have hEE : EE = 1000000 := rfl
  have hb := colN_b A
  have h4 := hC.2.2.2.1
  have e0 : rAt x 46 (f_X6_index (nI k) (nI w) (nI p)) = nI V := by
    unfold f_X6_index
    simp (disch := omega) only [↓nmk_e, ↓reduceIte, Option.bind_some, Option.map_some, lit, ofN, nI_add, pk_sub, pk_mul, nI_clamp, nI_leI, nI_ltI, nI_eq, pk_div, nI_an, nleT, nleF, nltT, nltF, neqT, neqF, or_false, false_or, or_self, or_true, true_or, and_self, and_true, true_and, and_false, false_and, not_true_eq_false, not_false_eq_true, f_X12_isSort, f_X12_isDay, f_X11_isSort, f_X11_isDay, inI, inP, f_X5_size, f_X5_isFull, f_X11_now, f_X2_isKind, f_X2_has, f_X3_has, f_X8_hasPage, f_X8_hasAllPages, f_X8_stands, f_X1_isPrinted, f_X1_rule, f_X9_has, f_X9_isFull, f_X12_isPage, f_X12_isVerse, sC_s, sC_n, sC_2, sN_1, sN_s, sN_n, sN_2, sS_1, sS_2, sS_s, sS_n, upd_s, upd_e, upd_n, rAt, rPut, rAdd, rSwap, rPush, rNumber, cp_0, cp_1, cp_2, cp_3, cp_4, cp_5, cp_6, cp_7, cp_8, cp_9, cp_10, cp_11, cp_12, cp_13, cp_14, cp_15, cp_16, cp_17, cp_18, cp_19, cp_20, cp_21, cp_22, cp_23, cp_24, cp_25, cp_26, cp_27, cp_28, cp_29, cp_30, cp_31, cp_32, cp_33, cp_34, cp_35, cp_36, cp_37, cp_38, cp_39, cp_40, cp_41, cp_42, cp_43, cp_44, cp_45, cp_46, cp_47, cp_48, cp_49, cp_50, cp_51, cp_52, cp_53, cp_54, cp_55, cp_56, cp_57, hV]
  unfold f_X6_bestChoice
  rw [e0, nmk_e]
  refine run1 (fun q i (_ : Unit) => f_X6_bestChoice_L18 x (nI k) (nI w) (nI p) (nI V) q i) (fun i _ => ∀ m, m < i → cvl (colN A) (TC x) k w (if lt = true then min (p + 1) 2 else 0) (cs.getD m c0T) ≠ V) cs.length (fun r => (r = some (-nI 1) ∧ ∀ i, i < cs.length → cvl (colN A) (TC x) k w (if lt = true then min (p + 1) 2 else 0) (cs.getD i c0T) ≠ V) ∨ ∃ n, n < cs.length ∧ r = some (nI n) ∧ cvl (colN A) (TC x) k w (if lt = true then min (p + 1) 2 else 0) (cs.getD n c0T) = V ∧ ∀ i, i < n → cvl (colN A) (TC x) k w (if lt = true then min (p + 1) 2 else 0) (cs.getD i c0T) ≠ V) ?_ ?_ FU 0 () (Nat.zero_le _) (by unfold FU; omega) (fun m hm => absurd hm (Nat.not_lt_zero m))
  · rintro q - hI
    refine .inl ⟨?_, hI⟩
    simp (disch := omega) only [f_X6_bestChoice_L18, ↓nmk_e, ↓reduceIte, Option.bind_some, Option.map_some, lit, ofN, nI_add, pk_sub, pk_mul, nI_clamp, nI_leI, nI_ltI, nI_eq, pk_div, nI_an, nleT, nleF, nltT, nltF, neqT, neqF, or_false, false_or, or_self, or_true, true_or, and_self, and_true, true_and, and_false, false_and, not_true_eq_false, not_false_eq_true, f_X12_isSort, f_X12_isDay, f_X11_isSort, f_X11_isDay, inI, inP, f_X5_size, f_X5_isFull, f_X11_now, f_X2_isKind, f_X2_has, f_X3_has, f_X8_hasPage, f_X8_hasAllPages, f_X8_stands, f_X1_isPrinted, f_X1_rule, f_X9_has, f_X9_isFull, f_X12_isPage, f_X12_isVerse, sC_s, sC_n, sC_2, sN_1, sN_s, sN_n, sN_2, sS_1, sS_2, sS_s, sS_n, upd_s, upd_e, upd_n, rAt, rPut, rAdd, rSwap, rPush, rNumber, cp_0, cp_1, cp_2, cp_3, cp_4, cp_5, cp_6, cp_7, cp_8, cp_9, cp_10, cp_11, cp_12, cp_13, cp_14, cp_15, cp_16, cp_17, cp_18, cp_19, cp_20, cp_21, cp_22, cp_23, cp_24, cp_25, cp_26, cp_27, cp_28, cp_29, cp_30, cp_31, cp_32, cp_33, cp_34, cp_35, cp_36, cp_37, cp_38, cp_39, cp_40, cp_41, cp_42, cp_43, cp_44, cp_45, cp_46, cp_47, cp_48, cp_49, cp_50, cp_51, cp_52, cp_53, cp_54, cp_55, cp_56, cp_57, hC.1]
  · rintro q i - hi hI
    obtain ⟨u1, u2⟩ := l_ugBy hcol hz hC h6 hok hT hi hw hp hk
    have s1 : ¬ f_X5_size x 43 ≤ nI i := by
      unfold f_X5_size; rw [hC.1]; exact nI_ge hi (by omega)
    obtain ⟨U, hU⟩ : ∃ U, U = cvl (colN A) (TC x) k w (if lt = true then min (p + 1) 2 else 0) (cs.getD i c0T) := ⟨_, rfl⟩
    rw [← hU] at u1 u2
    by_cases c : U = V
    · refine .inl (.inr ⟨i, hi, ?_, by rw [← hU]; exact c, hI⟩)
      show f_X6_bestChoice_L18 x (nI k) (nI w) (nI p) (nI V) (q + 1) (nI i) = _
      rw [f_X6_bestChoice_L18, if_neg s1, u1, c, if_pos rfl]
    · refine .inr ⟨(), ?_, fun m hm => ?_⟩
      · show f_X6_bestChoice_L18 x (nI k) (nI w) (nI p) (nI V) (q + 1) (nI i) = f_X6_bestChoice_L18 x (nI k) (nI w) (nI p) (nI V) q (nI (i + 1))
        have s2 : ¬ nI U = nI V := fun e => c (by
          have := congrArg tN e
          rw [show tN (nI U) = U from nI_clamp (by omega), show tN (nI V) = V from nI_clamp (by omega)] at this
          exact this)
        rw [f_X6_bestChoice_L18, if_neg s1, u1, if_neg s2, nmk_e, nI_1]
      · by_cases e : m = i
        · rw [e, ← hU]; exact c
        · exact hI m (by omega)
