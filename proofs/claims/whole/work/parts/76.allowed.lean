/-! orders of states -/
theorem nlt1 {j : Nat} (hj : j < 2 ^ 31) : (nI j < -nI 1) = False := by
  refine eq_false ?_
  rw [i_lt, nI_toInt hj, show (-nI 1).toInt = -1 from rfl]
  omega
theorem neg1a {x : Int32} (h : x < 0) (h2 : x ≠ -nI 1) : (x < -nI 1) = True := by
  refine eq_true ?_
  have h := i_lt.mp h
  have k0 : (0 : Int32).toInt = 0 := rfl
  have h3 : x.toInt ≠ -1 := fun z => h2 (Int32.toInt_inj.mp (by rw [z]; rfl))
  rw [i_lt, show (-nI 1).toInt = -1 from rfl]
  omega
theorem inM3 {x y : Int32} (h : x < -nI 1) : f_X12_in x (-nI 1) y = nI 0 := by
  unfold f_X12_in
  rw [if_pos h]; rfl
theorem inM2 {j m : Nat} (hj : j < 2 ^ 31) (hm : m ≤ 2 ^ 20) : f_X12_in (nI j) (-nI 1) (nI m - nI 1) = if j < m then nI 1 else nI 0 := by
  have e : (nI m - nI 1 < nI j) ↔ m ≤ j := by
    rw [i_lt, Int32.toInt_sub, nI_toInt (by omega), nI_toInt (by omega), nI_toInt (by omega), Int.bmod_eq_of_le (by omega) (by omega)]
    omega
  unfold f_X12_in
  rw [if_neg (of_eq_false (nlt1 hj))]
  by_cases c2 : m ≤ j
  · rw [if_pos (e.mpr c2), if_neg (by omega)]; rfl
  · rw [if_neg (fun q => c2 (e.mp q)), if_pos (by omega)]; rfl
theorem inM1 {m : Nat} (hm : m ≤ 2 ^ 20) : f_X12_in (-nI 1) (-nI 1) (nI m - nI 1) = nI 1 := by
  unfold f_X12_in
  have h1 : ¬ -nI 1 < -nI 1 := by decide
  have h2 : ¬ nI m - nI 1 < -nI 1 := by
    rw [i_lt, Int32.toInt_sub, nI_toInt (by omega), nI_toInt (by omega), show (-nI 1).toInt = -1 from rfl, Int.bmod_eq_of_le (by omega) (by omega)]
    omega
  rw [if_neg h1, if_neg h2]; rfl
/-- what both worlds hold on the way through the orders -/
def FoS (w v : CW) (m : Nat) (st : Nat → Nat) : Prop := m ≤ 7 ∧ w.2.1 27 = nI m ∧ v.1 0 6 = nI m ∧ ∀ j, j < m → w.1 27 j = nI (st j) ∧ v.1 0 (3080 + j) = nI (st j) ∧ st j < 2 ^ 16
def FoF (w v w' v' : CW) : Prop := (∀ k, k ≠ 51 → k ≠ 52 → w'.1 k = w.1 k) ∧ (∀ k, k ≠ 52 → w'.2.1 k = w.2.1 k) ∧ w'.2.2 = w.2.2 ∧ (∀ k, k ≠ 12 → k ≠ 13 → v'.1 k = v.1 k) ∧ v'.2.1 = v.2.1 ∧ ∀ k, k ≠ 24 → v'.2.2 k = v.2.2 k
def FoR (m : Nat) (w v : CW) (d c : Nat) (pa : Nat → Nat) : Prop := (∀ j, j < d → w.1 51 j = nI (pa j) ∧ v.1 12 j = nI (pa j) ∧ pa j < m) ∧ v.2.2 24 = nI c ∧ (c = 0 → w.2.1 52 = nI 0) ∧ (c ≠ 0 → w.2.1 52 = nI m ∧ ∀ i, i < m → w.1 52 i = v.1 13 i)
theorem FoF.trans {w v w1 v1 w2 v2 : CW} (h : FoF w v w1 v1) (h' : FoF w1 v1 w2 v2) : FoF w v w2 v2 := by
  obtain ⟨a1, a2, a3, a4, a5, a6⟩ := h
  obtain ⟨b1, b2, b3, b4, b5, b6⟩ := h'
  exact ⟨fun k x y => (b1 k x y).trans (a1 k x y), fun k x => (b2 k x).trans (a2 k x), b3.trans a3, fun k x y => (b4 k x y).trans (a4 k x y), b5.trans a5, fun k x => (b6 k x).trans (a6 k x)⟩
theorem FoF.refl (w v : CW) : FoF w v w v := ⟨fun _ _ _ => rfl, fun _ _ => rfl, rfl, fun _ _ _ => rfl, rfl, fun _ _ => rfl⟩
theorem FoS.of {w v w' v' : CW} {m : Nat} {st : Nat → Nat} (h : FoS w v m st) (hF : FoF w v w' v') : FoS w' v' m st := by
  obtain ⟨a1, a2, a3, a4⟩ := h
  obtain ⟨b1, b2, b3, b4, b5, b6⟩ := hF
  refine ⟨a1, by rw [b2 27 (by decide)]; exact a2, by rw [b4 0 (by decide) (by decide)]; exact a3, fun j hj => ?_⟩
  rw [b1 27 (by decide) (by decide), b4 0 (by decide) (by decide)]
  exact a4 j hj
theorem l_keepC {w : CW} {m : Nat} {pa : Nat → Nat} (hm : m ≤ 7) (h0 : w.2.1 52 = nI 0) (hp : ∀ j, j < m → w.1 51 j = nI (pa j)) : ∃ w', f_X1_keepFirst_L13 (nI m) FU (nI 0) w = some w' ∧ (∀ k, k ≠ 52 → w'.1 k = w.1 k ∧ w'.2.1 k = w.2.1 k) ∧ w'.2.2 = w.2.2 ∧ w'.2.1 52 = nI m ∧ ∀ j, j < m → w'.1 52 j = nI (pa j) := by
  refine run1 (fun q i x => f_X1_keepFirst_L13 (nI m) q i x) (fun i x => (∀ k, k ≠ 52 → x.1 k = w.1 k ∧ x.2.1 k = w.2.1 k) ∧ x.2.2 = w.2.2 ∧ x.2.1 52 = nI i ∧ ∀ j, j < i → x.1 52 j = nI (pa j)) m (fun y => ∃ w', y = some w' ∧ (∀ k, k ≠ 52 → w'.1 k = w.1 k ∧ w'.2.1 k = w.2.1 k) ∧ w'.2.2 = w.2.2 ∧ w'.2.1 52 = nI m ∧ ∀ j, j < m → w'.1 52 j = nI (pa j)) ?_ ?_ FU 0 w (Nat.zero_le _) (by unfold FU; omega) ⟨fun _ _ => ⟨rfl, rfl⟩, rfl, h0, fun j hj => absurd hj (Nat.not_lt_zero j)⟩
  · rintro q x ⟨h1, h2, h3, h4⟩
    refine ⟨x, ?_, h1, h2, h3, h4⟩
    simp (disch := omega) only [f_X1_keepFirst_L13, ↓nmk_e, ↓reduceIte, Option.bind_some, Option.map_some, lit, ofN, nI_add, pk_sub, pk_mul, nI_clamp, nI_leI, nI_ltI, nI_eq, pk_div, nI_an, nleT, nleF, nltT, nltF, neqT, neqF, or_false, false_or, or_self, or_true, true_or, and_self, and_true, true_and, and_false, false_and, not_true_eq_false, not_false_eq_true, f_X12_isSort, f_X12_isDay, f_X11_isSort, f_X11_isDay, inI, inP, f_X5_size, f_X5_isFull, f_X11_now, f_X2_isKind, f_X2_has, f_X3_has, f_X8_hasPage, f_X8_hasAllPages, f_X8_stands, f_X1_isPrinted, f_X1_rule, f_X9_has, f_X9_isFull, f_X12_isPage, f_X12_isVerse, sC_s, sC_n, sC_2, sN_1, sN_s, sN_n, sN_2, sS_1, sS_2, sS_s, sS_n, upd_s, upd_e, upd_n, rAt, rPut, rAdd, rSwap, rPush, rNumber, cp_0, cp_1, cp_2, cp_3, cp_4, cp_5, cp_6, cp_7, cp_8, cp_9, cp_10, cp_11, cp_12, cp_13, cp_14, cp_15, cp_16, cp_17, cp_18, cp_19, cp_20, cp_21, cp_22, cp_23, cp_24, cp_25, cp_26, cp_27, cp_28, cp_29, cp_30, cp_31, cp_32, cp_33, cp_34, cp_35, cp_36, cp_37, cp_38, cp_39, cp_40, cp_41, cp_42, cp_43, cp_44, cp_45, cp_46, cp_47, cp_48, cp_49, cp_50, cp_51, cp_52, cp_53, cp_54, cp_55, cp_56, cp_57]
  · rintro q i x hi ⟨h1, h2, h3, h4⟩
    have e := hp i hi
    rw [← (h1 51 (by decide)).1] at e
    refine .inr ⟨sN (sC x 52 i (nI (pa i))) 52 (nI (i + 1)), ?_, fun k hk => ?_, h2, ?_, fun j hj => ?_⟩
    · simp (disch := omega) only [f_X1_keepFirst_L13, ↓nmk_e, ↓reduceIte, Option.bind_some, Option.map_some, lit, ofN, nI_add, pk_sub, pk_mul, nI_clamp, nI_leI, nI_ltI, nI_eq, pk_div, nI_an, nleT, nleF, nltT, nltF, neqT, neqF, or_false, false_or, or_self, or_true, true_or, and_self, and_true, true_and, and_false, false_and, not_true_eq_false, not_false_eq_true, f_X12_isSort, f_X12_isDay, f_X11_isSort, f_X11_isDay, inI, inP, f_X5_size, f_X5_isFull, f_X11_now, f_X2_isKind, f_X2_has, f_X3_has, f_X8_hasPage, f_X8_hasAllPages, f_X8_stands, f_X1_isPrinted, f_X1_rule, f_X9_has, f_X9_isFull, f_X12_isPage, f_X12_isVerse, sC_s, sC_n, sC_2, sN_1, sN_s, sN_n, sN_2, sS_1, sS_2, sS_s, sS_n, upd_s, upd_e, upd_n, rAt, rPut, rAdd, rSwap, rPush, rNumber, cp_0, cp_1, cp_2, cp_3, cp_4, cp_5, cp_6, cp_7, cp_8, cp_9, cp_10, cp_11, cp_12, cp_13, cp_14, cp_15, cp_16, cp_17, cp_18, cp_19, cp_20, cp_21, cp_22, cp_23, cp_24, cp_25, cp_26, cp_27, cp_28, cp_29, cp_30, cp_31, cp_32, cp_33, cp_34, cp_35, cp_36, cp_37, cp_38, cp_39, cp_40, cp_41, cp_42, cp_43, cp_44, cp_45, cp_46, cp_47, cp_48, cp_49, cp_50, cp_51, cp_52, cp_53, cp_54, cp_55, cp_56, cp_57, e, h3]
    · simp (disch := omega) only [sC_s, sC_n, sC_2, sN_1, sN_s, sN_n, sN_2, sS_1, sS_2, sS_s, sS_n, upd_s, upd_e, upd_n]; exact h1 k hk
    · simp (disch := omega) only [sC_s, sC_n, sC_2, sN_1, sN_s, sN_n, sN_2, sS_1, sS_2, sS_s, sS_n, upd_s, upd_e, upd_n]
    · by_cases c : j = i
      · subst c; simp (disch := omega) only [sC_s, sC_n, sC_2, sN_1, sN_s, sN_n, sN_2, sS_1, sS_2, sS_s, sS_n, upd_s, upd_e, upd_n]
      · simp (disch := omega) only [sC_s, sC_n, sC_2, sN_1, sN_s, sN_n, sN_2, sS_1, sS_2, sS_s, sS_n, upd_s, upd_e, upd_n]; exact h4 j (by omega)
theorem l_keepR {v : CW} {m : Nat} {pa : Nat → Nat} (hm : m ≤ 7) (h0 : v.2.2 24 = nI 0) (hp : ∀ j, j < m → v.1 12 j = nI (pa j)) : ∃ v', (∀ j, f_X12_follows_L14 (nI m) j FU (nI 0) v = j v') ∧ (∀ k, k ≠ 13 → v'.1 k = v.1 k) ∧ v'.2 = v.2 ∧ ∀ j, j < m → v'.1 13 j = nI (pa j) := by
  refine run1 (fun q i x => fun j => f_X12_follows_L14 (nI m) j q i x) (fun i x => (∀ k, k ≠ 13 → x.1 k = v.1 k) ∧ x.2 = v.2 ∧ ∀ j, j < i → x.1 13 j = nI (pa j)) m (fun y => ∃ v', (∀ j, y j = j v') ∧ (∀ k, k ≠ 13 → v'.1 k = v.1 k) ∧ v'.2 = v.2 ∧ ∀ j, j < m → v'.1 13 j = nI (pa j)) ?_ ?_ FU 0 v (Nat.zero_le _) (by unfold FU; omega) ⟨fun _ _ => rfl, rfl, fun j hj => absurd hj (Nat.not_lt_zero j)⟩
  · rintro q x ⟨h1, h2, h3⟩
    refine ⟨x, fun j => ?_, h1, h2, h3⟩
    simp (disch := omega) only [f_X12_follows_L14, ↓nmk_e, ↓reduceIte, Option.bind_some, Option.map_some, lit, ofN, nI_add, pk_sub, pk_mul, nI_clamp, nI_leI, nI_ltI, nI_eq, pk_div, nI_an, nleT, nleF, nltT, nltF, neqT, neqF, or_false, false_or, or_self, or_true, true_or, and_self, and_true, true_and, and_false, false_and, not_true_eq_false, not_false_eq_true, f_X12_isSort, f_X12_isDay, f_X11_isSort, f_X11_isDay, inI, inP, f_X5_size, f_X5_isFull, f_X11_now, f_X2_isKind, f_X2_has, f_X3_has, f_X8_hasPage, f_X8_hasAllPages, f_X8_stands, f_X1_isPrinted, f_X1_rule, f_X9_has, f_X9_isFull, f_X12_isPage, f_X12_isVerse, sC_s, sC_n, sC_2, sN_1, sN_s, sN_n, sN_2, sS_1, sS_2, sS_s, sS_n, upd_s, upd_e, upd_n, rAt, rPut, rAdd, rSwap, rPush, rNumber, cp_0, cp_1, cp_2, cp_3, cp_4, cp_5, cp_6, cp_7, cp_8, cp_9, cp_10, cp_11, cp_12, cp_13, cp_14, cp_15, cp_16, cp_17, cp_18, cp_19, cp_20, cp_21, cp_22, cp_23, cp_24, cp_25, cp_26, cp_27, cp_28, cp_29, cp_30, cp_31, cp_32, cp_33, cp_34, cp_35, cp_36, cp_37, cp_38, cp_39, cp_40, cp_41, cp_42, cp_43, cp_44, cp_45, cp_46, cp_47, cp_48, cp_49, cp_50, cp_51, cp_52, cp_53, cp_54, cp_55, cp_56, cp_57]
  · rintro q i x hi ⟨h1, h2, h3⟩
    have e := hp i hi
    rw [← h1 12 (by decide)] at e
    have e0 : x.2.2 24 = nI 0 := by rw [h2]; exact h0
    refine .inr ⟨sC x 13 i (nI (pa i)), funext fun j => ?_, fun k hk => ?_, h2, fun j hj => ?_⟩
    · simp (disch := omega) only [f_X12_follows_L14, ↓nmk_e, ↓reduceIte, Option.bind_some, Option.map_some, lit, ofN, nI_add, pk_sub, pk_mul, nI_clamp, nI_leI, nI_ltI, nI_eq, pk_div, nI_an, nleT, nleF, nltT, nltF, neqT, neqF, or_false, false_or, or_self, or_true, true_or, and_self, and_true, true_and, and_false, false_and, not_true_eq_false, not_false_eq_true, f_X12_isSort, f_X12_isDay, f_X11_isSort, f_X11_isDay, inI, inP, f_X5_size, f_X5_isFull, f_X11_now, f_X2_isKind, f_X2_has, f_X3_has, f_X8_hasPage, f_X8_hasAllPages, f_X8_stands, f_X1_isPrinted, f_X1_rule, f_X9_has, f_X9_isFull, f_X12_isPage, f_X12_isVerse, sC_s, sC_n, sC_2, sN_1, sN_s, sN_n, sN_2, sS_1, sS_2, sS_s, sS_n, upd_s, upd_e, upd_n, rAt, rPut, rAdd, rSwap, rPush, rNumber, cp_0, cp_1, cp_2, cp_3, cp_4, cp_5, cp_6, cp_7, cp_8, cp_9, cp_10, cp_11, cp_12, cp_13, cp_14, cp_15, cp_16, cp_17, cp_18, cp_19, cp_20, cp_21, cp_22, cp_23, cp_24, cp_25, cp_26, cp_27, cp_28, cp_29, cp_30, cp_31, cp_32, cp_33, cp_34, cp_35, cp_36, cp_37, cp_38, cp_39, cp_40, cp_41, cp_42, cp_43, cp_44, cp_45, cp_46, cp_47, cp_48, cp_49, cp_50, cp_51, cp_52, cp_53, cp_54, cp_55, cp_56, cp_57, e, e0]
    · simp (disch := omega) only [sC_s, sC_n, sC_2, sN_1, sN_s, sN_n, sN_2, sS_1, sS_2, sS_s, sS_n, upd_s, upd_e, upd_n]; exact h1 k hk
    · by_cases c : j = i
      · subst c; simp (disch := omega) only [sC_s, sC_n, sC_2, sN_1, sN_s, sN_n, sN_2, sS_1, sS_2, sS_s, sS_n, upd_s, upd_e, upd_n]
      · simp (disch := omega) only [sC_s, sC_n, sC_2, sN_1, sN_s, sN_n, sN_2, sS_1, sS_2, sS_s, sS_n, upd_s, upd_e, upd_n]; exact h3 j (by omega)
theorem l_leaf {w v : CW} {m c D E a b : Nat} {st pa : Nat → Nat} (hS : FoS w v m st) (hR : FoR m w v m c pa) (hc : c ≤ 2 ^ 29) : ∃ w' v', f_X1_follow (D + 1) w (nI m) (nI a) (nI b) = some (nI 1, w') ∧ f_X12_follows (E + 1) v (nI m) (nI a) (nI b) = some v' ∧ FoF w v w' v' ∧ FoR m w' v' m (c + 1) pa := by
  obtain ⟨hm, n1, n2, -⟩ := hS
  obtain ⟨h1, h2, h3, h4⟩ := hR
  show ∃ w' v', h_X1_follow (f_X1_follow D) w (nI m) (nI a) (nI b) = some (nI 1, w') ∧ h_X12_follows (f_X12_follows E) v (nI m) (nI a) (nI b) = some v' ∧ _
  unfold h_X1_follow h_X12_follows
  by_cases c0 : c = 0
  · have h3 := h3 c0
    obtain ⟨w', e1, a1, a2, a3, a4⟩ := l_keepC (w := w) (m := m) (pa := pa) hm h3 (fun j hj => (h1 j hj).1)
    obtain ⟨v', e2, b1, b2, b3⟩ := l_keepR (v := v) (m := m) (pa := pa) hm (by rw [h2, c0]) (fun j hj => (h1 j hj).2.1)
    refine ⟨w', sS v' 24 (nI (c + 1)), ?_, ?_, ⟨fun k x y => (a1 k y).1, fun k x => (a1 k x).2, a2, fun k x y => ?_, ?_, fun k x => ?_⟩, fun j hj => ?_, ?_, fun z => by omega, fun _ => ⟨a3, fun i hi => ?_⟩⟩
    · simp (disch := omega) only [↓nmk_e, ↓reduceIte, Option.bind_some, Option.map_some, lit, ofN, nI_add, pk_sub, pk_mul, nI_clamp, nI_leI, nI_ltI, nI_eq, pk_div, nI_an, nleT, nleF, nltT, nltF, neqT, neqF, or_false, false_or, or_self, or_true, true_or, and_self, and_true, true_and, and_false, false_and, not_true_eq_false, not_false_eq_true, f_X12_isSort, f_X12_isDay, f_X11_isSort, f_X11_isDay, inI, inP, f_X5_size, f_X5_isFull, f_X11_now, f_X2_isKind, f_X2_has, f_X3_has, f_X8_hasPage, f_X8_hasAllPages, f_X8_stands, f_X1_isPrinted, f_X1_rule, f_X9_has, f_X9_isFull, f_X12_isPage, f_X12_isVerse, sC_s, sC_n, sC_2, sN_1, sN_s, sN_n, sN_2, sS_1, sS_2, sS_s, sS_n, upd_s, upd_e, upd_n, rAt, rPut, rAdd, rSwap, rPush, rNumber, cp_0, cp_1, cp_2, cp_3, cp_4, cp_5, cp_6, cp_7, cp_8, cp_9, cp_10, cp_11, cp_12, cp_13, cp_14, cp_15, cp_16, cp_17, cp_18, cp_19, cp_20, cp_21, cp_22, cp_23, cp_24, cp_25, cp_26, cp_27, cp_28, cp_29, cp_30, cp_31, cp_32, cp_33, cp_34, cp_35, cp_36, cp_37, cp_38, cp_39, cp_40, cp_41, cp_42, cp_43, cp_44, cp_45, cp_46, cp_47, cp_48, cp_49, cp_50, cp_51, cp_52, cp_53, cp_54, cp_55, cp_56, cp_57, n1, f_X1_keepFirst, h3, e1]
    · simp (disch := omega) only [↓nmk_e, ↓reduceIte, Option.bind_some, Option.map_some, lit, ofN, nI_add, pk_sub, pk_mul, nI_clamp, nI_leI, nI_ltI, nI_eq, pk_div, nI_an, nleT, nleF, nltT, nltF, neqT, neqF, or_false, false_or, or_self, or_true, true_or, and_self, and_true, true_and, and_false, false_and, not_true_eq_false, not_false_eq_true, f_X12_isSort, f_X12_isDay, f_X11_isSort, f_X11_isDay, inI, inP, f_X5_size, f_X5_isFull, f_X11_now, f_X2_isKind, f_X2_has, f_X3_has, f_X8_hasPage, f_X8_hasAllPages, f_X8_stands, f_X1_isPrinted, f_X1_rule, f_X9_has, f_X9_isFull, f_X12_isPage, f_X12_isVerse, sC_s, sC_n, sC_2, sN_1, sN_s, sN_n, sN_2, sS_1, sS_2, sS_s, sS_n, upd_s, upd_e, upd_n, rAt, rPut, rAdd, rSwap, rPush, rNumber, cp_0, cp_1, cp_2, cp_3, cp_4, cp_5, cp_6, cp_7, cp_8, cp_9, cp_10, cp_11, cp_12, cp_13, cp_14, cp_15, cp_16, cp_17, cp_18, cp_19, cp_20, cp_21, cp_22, cp_23, cp_24, cp_25, cp_26, cp_27, cp_28, cp_29, cp_30, cp_31, cp_32, cp_33, cp_34, cp_35, cp_36, cp_37, cp_38, cp_39, cp_40, cp_41, cp_42, cp_43, cp_44, cp_45, cp_46, cp_47, cp_48, cp_49, cp_50, cp_51, cp_52, cp_53, cp_54, cp_55, cp_56, cp_57, n2, e2, b2, h2]
    · simp (disch := omega) only [sC_s, sC_n, sC_2, sN_1, sN_s, sN_n, sN_2, sS_1, sS_2, sS_s, sS_n, upd_s, upd_e, upd_n]; exact b1 k y
    · simp (disch := omega) only [sC_s, sC_n, sC_2, sN_1, sN_s, sN_n, sN_2, sS_1, sS_2, sS_s, sS_n, upd_s, upd_e, upd_n, b2]
    · simp (disch := omega) only [sC_s, sC_n, sC_2, sN_1, sN_s, sN_n, sN_2, sS_1, sS_2, sS_s, sS_n, upd_s, upd_e, upd_n, b2]
    · simp (disch := omega) only [sC_s, sC_n, sC_2, sN_1, sN_s, sN_n, sN_2, sS_1, sS_2, sS_s, sS_n, upd_s, upd_e, upd_n]
      rw [(a1 51 (by decide)).1, b1 12 (by decide)]
      exact h1 j hj
    · simp (disch := omega) only [sC_s, sC_n, sC_2, sN_1, sN_s, sN_n, sN_2, sS_1, sS_2, sS_s, sS_n, upd_s, upd_e, upd_n]
    · simp (disch := omega) only [sC_s, sC_n, sC_2, sN_1, sN_s, sN_n, sN_2, sS_1, sS_2, sS_s, sS_n, upd_s, upd_e, upd_n]
      rw [a4 i hi, b3 i hi]
  · obtain ⟨h4, h5⟩ := h4 c0
    have hF : FU = 9999 + 1 := rfl
    have e2 : ∀ j, f_X12_follows_L14 (nI m) j FU (nI 0) v = j v := fun j => by
      rw [hF]
      by_cases z : m = 0 <;> simp (disch := omega) only [f_X12_follows_L14, ↓nmk_e, ↓reduceIte, Option.bind_some, Option.map_some, lit, ofN, nI_add, pk_sub, pk_mul, nI_clamp, nI_leI, nI_ltI, nI_eq, pk_div, nI_an, nleT, nleF, nltT, nltF, neqT, neqF, or_false, false_or, or_self, or_true, true_or, and_self, and_true, true_and, and_false, false_and, not_true_eq_false, not_false_eq_true, f_X12_isSort, f_X12_isDay, f_X11_isSort, f_X11_isDay, inI, inP, f_X5_size, f_X5_isFull, f_X11_now, f_X2_isKind, f_X2_has, f_X3_has, f_X8_hasPage, f_X8_hasAllPages, f_X8_stands, f_X1_isPrinted, f_X1_rule, f_X9_has, f_X9_isFull, f_X12_isPage, f_X12_isVerse, sC_s, sC_n, sC_2, sN_1, sN_s, sN_n, sN_2, sS_1, sS_2, sS_s, sS_n, upd_s, upd_e, upd_n, rAt, rPut, rAdd, rSwap, rPush, rNumber, cp_0, cp_1, cp_2, cp_3, cp_4, cp_5, cp_6, cp_7, cp_8, cp_9, cp_10, cp_11, cp_12, cp_13, cp_14, cp_15, cp_16, cp_17, cp_18, cp_19, cp_20, cp_21, cp_22, cp_23, cp_24, cp_25, cp_26, cp_27, cp_28, cp_29, cp_30, cp_31, cp_32, cp_33, cp_34, cp_35, cp_36, cp_37, cp_38, cp_39, cp_40, cp_41, cp_42, cp_43, cp_44, cp_45, cp_46, cp_47, cp_48, cp_49, cp_50, cp_51, cp_52, cp_53, cp_54, cp_55, cp_56, cp_57, h2]
    have e1 : f_X1_keepFirst w (nI m) = some w := by
      unfold f_X1_keepFirst
      rw [hF]
      by_cases z : m = 0 <;> simp (disch := omega) only [f_X1_keepFirst_L13, ↓nmk_e, ↓reduceIte, Option.bind_some, Option.map_some, lit, ofN, nI_add, pk_sub, pk_mul, nI_clamp, nI_leI, nI_ltI, nI_eq, pk_div, nI_an, nleT, nleF, nltT, nltF, neqT, neqF, or_false, false_or, or_self, or_true, true_or, and_self, and_true, true_and, and_false, false_and, not_true_eq_false, not_false_eq_true, f_X12_isSort, f_X12_isDay, f_X11_isSort, f_X11_isDay, inI, inP, f_X5_size, f_X5_isFull, f_X11_now, f_X2_isKind, f_X2_has, f_X3_has, f_X8_hasPage, f_X8_hasAllPages, f_X8_stands, f_X1_isPrinted, f_X1_rule, f_X9_has, f_X9_isFull, f_X12_isPage, f_X12_isVerse, sC_s, sC_n, sC_2, sN_1, sN_s, sN_n, sN_2, sS_1, sS_2, sS_s, sS_n, upd_s, upd_e, upd_n, rAt, rPut, rAdd, rSwap, rPush, rNumber, cp_0, cp_1, cp_2, cp_3, cp_4, cp_5, cp_6, cp_7, cp_8, cp_9, cp_10, cp_11, cp_12, cp_13, cp_14, cp_15, cp_16, cp_17, cp_18, cp_19, cp_20, cp_21, cp_22, cp_23, cp_24, cp_25, cp_26, cp_27, cp_28, cp_29, cp_30, cp_31, cp_32, cp_33, cp_34, cp_35, cp_36, cp_37, cp_38, cp_39, cp_40, cp_41, cp_42, cp_43, cp_44, cp_45, cp_46, cp_47, cp_48, cp_49, cp_50, cp_51, cp_52, cp_53, cp_54, cp_55, cp_56, cp_57, h4]
    refine ⟨w, sS v 24 (nI (c + 1)), ?_, ?_, ⟨fun k x y => rfl, fun k x => rfl, rfl, fun k x y => rfl, rfl, fun k x => ?_⟩, fun j hj => h1 j hj, ?_, fun z => by omega, fun _ => ⟨h4, fun i hi => h5 i hi⟩⟩
    · simp (disch := omega) only [↓nmk_e, ↓reduceIte, Option.bind_some, Option.map_some, lit, ofN, nI_add, pk_sub, pk_mul, nI_clamp, nI_leI, nI_ltI, nI_eq, pk_div, nI_an, nleT, nleF, nltT, nltF, neqT, neqF, or_false, false_or, or_self, or_true, true_or, and_self, and_true, true_and, and_false, false_and, not_true_eq_false, not_false_eq_true, f_X12_isSort, f_X12_isDay, f_X11_isSort, f_X11_isDay, inI, inP, f_X5_size, f_X5_isFull, f_X11_now, f_X2_isKind, f_X2_has, f_X3_has, f_X8_hasPage, f_X8_hasAllPages, f_X8_stands, f_X1_isPrinted, f_X1_rule, f_X9_has, f_X9_isFull, f_X12_isPage, f_X12_isVerse, sC_s, sC_n, sC_2, sN_1, sN_s, sN_n, sN_2, sS_1, sS_2, sS_s, sS_n, upd_s, upd_e, upd_n, rAt, rPut, rAdd, rSwap, rPush, rNumber, cp_0, cp_1, cp_2, cp_3, cp_4, cp_5, cp_6, cp_7, cp_8, cp_9, cp_10, cp_11, cp_12, cp_13, cp_14, cp_15, cp_16, cp_17, cp_18, cp_19, cp_20, cp_21, cp_22, cp_23, cp_24, cp_25, cp_26, cp_27, cp_28, cp_29, cp_30, cp_31, cp_32, cp_33, cp_34, cp_35, cp_36, cp_37, cp_38, cp_39, cp_40, cp_41, cp_42, cp_43, cp_44, cp_45, cp_46, cp_47, cp_48, cp_49, cp_50, cp_51, cp_52, cp_53, cp_54, cp_55, cp_56, cp_57, n1, e1]
    · simp (disch := omega) only [↓nmk_e, ↓reduceIte, Option.bind_some, Option.map_some, lit, ofN, nI_add, pk_sub, pk_mul, nI_clamp, nI_leI, nI_ltI, nI_eq, pk_div, nI_an, nleT, nleF, nltT, nltF, neqT, neqF, or_false, false_or, or_self, or_true, true_or, and_self, and_true, true_and, and_false, false_and, not_true_eq_false, not_false_eq_true, f_X12_isSort, f_X12_isDay, f_X11_isSort, f_X11_isDay, inI, inP, f_X5_size, f_X5_isFull, f_X11_now, f_X2_isKind, f_X2_has, f_X3_has, f_X8_hasPage, f_X8_hasAllPages, f_X8_stands, f_X1_isPrinted, f_X1_rule, f_X9_has, f_X9_isFull, f_X12_isPage, f_X12_isVerse, sC_s, sC_n, sC_2, sN_1, sN_s, sN_n, sN_2, sS_1, sS_2, sS_s, sS_n, upd_s, upd_e, upd_n, rAt, rPut, rAdd, rSwap, rPush, rNumber, cp_0, cp_1, cp_2, cp_3, cp_4, cp_5, cp_6, cp_7, cp_8, cp_9, cp_10, cp_11, cp_12, cp_13, cp_14, cp_15, cp_16, cp_17, cp_18, cp_19, cp_20, cp_21, cp_22, cp_23, cp_24, cp_25, cp_26, cp_27, cp_28, cp_29, cp_30, cp_31, cp_32, cp_33, cp_34, cp_35, cp_36, cp_37, cp_38, cp_39, cp_40, cp_41, cp_42, cp_43, cp_44, cp_45, cp_46, cp_47, cp_48, cp_49, cp_50, cp_51, cp_52, cp_53, cp_54, cp_55, cp_56, cp_57, n2, e2, h2]
    · simp (disch := omega) only [sC_s, sC_n, sC_2, sN_1, sN_s, sN_n, sN_2, sS_1, sS_2, sS_s, sS_n, upd_s, upd_e, upd_n]
    · simp (disch := omega) only [sC_s, sC_n, sC_2, sN_1, sN_s, sN_n, sN_2, sS_1, sS_2, sS_s, sS_n, upd_s, upd_e, upd_n]
/-- the bits that change -/
def chz (st pa : Nat → Nat) (d i : Nat) : Nat := if d = 0 then 0 else st i ^^^ st (pa (d - 1))
theorem chz_lt {w v : CW} {m d c i : Nat} {st pa : Nat → Nat} (hS : FoS w v m st) (hR : FoR m w v d c pa) (hi : i < m) : chz st pa d i < 2 ^ 16 := by
  obtain ⟨-, -, -, g⟩ := hS
  unfold chz
  split
  · decide
  · exact Nat.xor_lt_two_pow (g i hi).2.2 (g _ (hR.1 (d - 1) (by omega)).2.2).2.2
theorem l_stepC {w v : CW} {m d c i a b o q : Nat} {st pa : Nat → Nat} {rc : CW → Int32 → Int32 → Int32 → Option (Int32 × CW)} (hS : FoS w v m st) (hR : FoR m w v d c pa) (hi : i < m) (hd : d < 7) (ha : a < 2 ^ 7) (hb : b < 2 ^ 16) : f_X1_follow_L35 rc (nI d) (nI a) (nI b) (nI m) (q + 1) (nI o) (nI i) w = if a.testBit i = false ∧ chz st pa d i &&& b = 0 then Option.bind (rc (sC w 51 d (nI i)) (nI (d + 1)) (nI (a ||| 2 ^ i)) (nI (b ||| chz st pa d i))) (fun r => f_X1_follow_L35 rc (nI d) (nI a) (nI b) (nI m) q (nI o + r.1) (nI (i + 1)) r.2) else f_X1_follow_L35 rc (nI d) (nI a) (nI b) (nI m) q (nI o) (nI (i + 1)) w := by
  have hz := chz_lt hS hR hi
  have hx : (if nI d = nI 0 then nI 0 else rAt w 27 (nI i) ^^^ rAt w 27 (rAt w 51 (nI d - nI 1))) = nI (chz st pa d i) := by
    obtain ⟨hm, -, -, g⟩ := hS
    obtain ⟨g1, -, g3⟩ := g i hi
    unfold chz
    by_cases hd0 : d = 0
    · rw [if_pos hd0]
      simp (disch := omega) only [↓nmk_e, ↓reduceIte, Option.bind_some, Option.map_some, lit, ofN, nI_add, pk_sub, pk_mul, nI_clamp, nI_leI, nI_ltI, nI_eq, pk_div, nI_an, nleT, nleF, nltT, nltF, neqT, neqF, or_false, false_or, or_self, or_true, true_or, and_self, and_true, true_and, and_false, false_and, not_true_eq_false, not_false_eq_true, f_X12_isSort, f_X12_isDay, f_X11_isSort, f_X11_isDay, inI, inP, f_X5_size, f_X5_isFull, f_X11_now, f_X2_isKind, f_X2_has, f_X3_has, f_X8_hasPage, f_X8_hasAllPages, f_X8_stands, f_X1_isPrinted, f_X1_rule, f_X9_has, f_X9_isFull, f_X12_isPage, f_X12_isVerse, sC_s, sC_n, sC_2, sN_1, sN_s, sN_n, sN_2, sS_1, sS_2, sS_s, sS_n, upd_s, upd_e, upd_n, rAt, rPut, rAdd, rSwap, rPush, rNumber, cp_0, cp_1, cp_2, cp_3, cp_4, cp_5, cp_6, cp_7, cp_8, cp_9, cp_10, cp_11, cp_12, cp_13, cp_14, cp_15, cp_16, cp_17, cp_18, cp_19, cp_20, cp_21, cp_22, cp_23, cp_24, cp_25, cp_26, cp_27, cp_28, cp_29, cp_30, cp_31, cp_32, cp_33, cp_34, cp_35, cp_36, cp_37, cp_38, cp_39, cp_40, cp_41, cp_42, cp_43, cp_44, cp_45, cp_46, cp_47, cp_48, cp_49, cp_50, cp_51, cp_52, cp_53, cp_54, cp_55, cp_56, cp_57]
    · obtain ⟨p1, p2, p3⟩ := hR.1 (d - 1) (by omega)
      obtain ⟨t1, t2, t3⟩ := g (pa (d - 1)) p3
      rw [if_neg hd0]
      simp (disch := omega) only [↓nmk_e, ↓reduceIte, Option.bind_some, Option.map_some, lit, ofN, nI_add, pk_sub, pk_mul, nI_clamp, nI_leI, nI_ltI, nI_eq, pk_div, nI_an, nleT, nleF, nltT, nltF, neqT, neqF, or_false, false_or, or_self, or_true, true_or, and_self, and_true, true_and, and_false, false_and, not_true_eq_false, not_false_eq_true, f_X12_isSort, f_X12_isDay, f_X11_isSort, f_X11_isDay, inI, inP, f_X5_size, f_X5_isFull, f_X11_now, f_X2_isKind, f_X2_has, f_X3_has, f_X8_hasPage, f_X8_hasAllPages, f_X8_stands, f_X1_isPrinted, f_X1_rule, f_X9_has, f_X9_isFull, f_X12_isPage, f_X12_isVerse, sC_s, sC_n, sC_2, sN_1, sN_s, sN_n, sN_2, sS_1, sS_2, sS_s, sS_n, upd_s, upd_e, upd_n, rAt, rPut, rAdd, rSwap, rPush, rNumber, cp_0, cp_1, cp_2, cp_3, cp_4, cp_5, cp_6, cp_7, cp_8, cp_9, cp_10, cp_11, cp_12, cp_13, cp_14, cp_15, cp_16, cp_17, cp_18, cp_19, cp_20, cp_21, cp_22, cp_23, cp_24, cp_25, cp_26, cp_27, cp_28, cp_29, cp_30, cp_31, cp_32, cp_33, cp_34, cp_35, cp_36, cp_37, cp_38, cp_39, cp_40, cp_41, cp_42, cp_43, cp_44, cp_45, cp_46, cp_47, cp_48, cp_49, cp_50, cp_51, cp_52, cp_53, cp_54, cp_55, cp_56, cp_57, p1, t1, g1, nI_xor]
  have hm := hS.1
  have sb := tb01 a i
  have hand : chz st pa d i &&& b < 2 ^ 31 := Nat.lt_of_le_of_lt Nat.and_le_left (by omega)
  have ho : nI a ||| (nI 1 <<< (nI i &&& nI 31)) = nI (a ||| 2 ^ i) := or1 (by omega)
  rw [f_X1_follow_L35]
  simp only [lit] at *
  rw [hx]
  generalize chz st pa d i = z at *
  have hzb : nI z &&& nI b = nI (z &&& b) := nI_and z b
  have hbz : nI b ||| nI z = nI (b ||| z) := nI_or b z
  by_cases c1 : a.testBit i = false
  · rw [if_neg (by rw [c1]; decide)] at sb
    by_cases c2 : z &&& b = 0
    · have hc : a.testBit i = false ∧ z &&& b = 0 := ⟨c1, c2⟩
      rw [if_pos hc]
      simp (disch := omega) only [↓nmk_e, ↓reduceIte, Option.bind_some, Option.map_some, lit, ofN, nI_add, pk_sub, pk_mul, nI_clamp, nI_leI, nI_ltI, nI_eq, pk_div, nI_an, nleT, nleF, nltT, nltF, neqT, neqF, or_false, false_or, or_self, or_true, true_or, and_self, and_true, true_and, and_false, false_and, not_true_eq_false, not_false_eq_true, f_X12_isSort, f_X12_isDay, f_X11_isSort, f_X11_isDay, inI, inP, f_X5_size, f_X5_isFull, f_X11_now, f_X2_isKind, f_X2_has, f_X3_has, f_X8_hasPage, f_X8_hasAllPages, f_X8_stands, f_X1_isPrinted, f_X1_rule, f_X9_has, f_X9_isFull, f_X12_isPage, f_X12_isVerse, sC_s, sC_n, sC_2, sN_1, sN_s, sN_n, sN_2, sS_1, sS_2, sS_s, sS_n, upd_s, upd_e, upd_n, rAt, rPut, rAdd, rSwap, rPush, rNumber, cp_0, cp_1, cp_2, cp_3, cp_4, cp_5, cp_6, cp_7, cp_8, cp_9, cp_10, cp_11, cp_12, cp_13, cp_14, cp_15, cp_16, cp_17, cp_18, cp_19, cp_20, cp_21, cp_22, cp_23, cp_24, cp_25, cp_26, cp_27, cp_28, cp_29, cp_30, cp_31, cp_32, cp_33, cp_34, cp_35, cp_36, cp_37, cp_38, cp_39, cp_40, cp_41, cp_42, cp_43, cp_44, cp_45, cp_46, cp_47, cp_48, cp_49, cp_50, cp_51, cp_52, cp_53, cp_54, cp_55, cp_56, cp_57, sbit, sb, hzb, c2, ho, hbz]
    · have hc : ¬ (a.testBit i = false ∧ z &&& b = 0) := fun y => c2 y.2
      rw [if_neg hc]
      have c3 : ¬ nI (z &&& b) = nI 0 := fun y => c2 ((nI_eq hand (by decide)).mp y)
      simp (disch := omega) only [↓nmk_e, ↓reduceIte, nI_add, nI_leI, nI_eq, nleT, nleF, nltT, nltF, neqT, neqF, or_false, false_or, or_self, or_true, true_or, and_self, and_true, true_and, and_false, false_and, not_true_eq_false, not_false_eq_true, sbit, sb, hzb, c3]
  · have c1' : a.testBit i = true := by cases e : a.testBit i; exact absurd e c1; rfl
    rw [if_pos c1'] at sb
    have hc : ¬ (a.testBit i = false ∧ z &&& b = 0) := fun y => c1 y.1
    rw [if_neg hc]
    simp (disch := omega) only [↓nmk_e, ↓reduceIte, Option.bind_some, Option.map_some, lit, ofN, nI_add, pk_sub, pk_mul, nI_clamp, nI_leI, nI_ltI, nI_eq, pk_div, nI_an, nleT, nleF, nltT, nltF, neqT, neqF, or_false, false_or, or_self, or_true, true_or, and_self, and_true, true_and, and_false, false_and, not_true_eq_false, not_false_eq_true, f_X12_isSort, f_X12_isDay, f_X11_isSort, f_X11_isDay, inI, inP, f_X5_size, f_X5_isFull, f_X11_now, f_X2_isKind, f_X2_has, f_X3_has, f_X8_hasPage, f_X8_hasAllPages, f_X8_stands, f_X1_isPrinted, f_X1_rule, f_X9_has, f_X9_isFull, f_X12_isPage, f_X12_isVerse, sC_s, sC_n, sC_2, sN_1, sN_s, sN_n, sN_2, sS_1, sS_2, sS_s, sS_n, upd_s, upd_e, upd_n, rAt, rPut, rAdd, rSwap, rPush, rNumber, cp_0, cp_1, cp_2, cp_3, cp_4, cp_5, cp_6, cp_7, cp_8, cp_9, cp_10, cp_11, cp_12, cp_13, cp_14, cp_15, cp_16, cp_17, cp_18, cp_19, cp_20, cp_21, cp_22, cp_23, cp_24, cp_25, cp_26, cp_27, cp_28, cp_29, cp_30, cp_31, cp_32, cp_33, cp_34, cp_35, cp_36, cp_37, cp_38, cp_39, cp_40, cp_41, cp_42, cp_43, cp_44, cp_45, cp_46, cp_47, cp_48, cp_49, cp_50, cp_51, cp_52, cp_53, cp_54, cp_55, cp_56, cp_57, sbit, sb]
theorem l_stepR {w v : CW} {m d c i a b q : Nat} {st pa : Nat → Nat} {rc : CW → Int32 → Int32 → Int32 → Option CW} (hS : FoS w v m st) (hR : FoR m w v d c pa) (hi : i < m) (hd : d < 7) (ha : a < 2 ^ 7) (hb : b < 2 ^ 16) : f_X12_follows_L61 rc (nI d) (nI a) (nI b) (q + 1) (nI i) v = if a.testBit i = false ∧ chz st pa d i &&& b = 0 then Option.bind (rc (sC v 12 d (nI i)) (nI (d + 1)) (nI (a ||| 2 ^ i)) (nI (b ||| chz st pa d i))) (fun r => f_X12_follows_L61 rc (nI d) (nI a) (nI b) q (nI (i + 1)) r) else f_X12_follows_L61 rc (nI d) (nI a) (nI b) q (nI (i + 1)) v := by
  have hz := chz_lt hS hR hi
  obtain ⟨hm, -, n2, g⟩ := hS
  obtain ⟨-, g1, g3⟩ := g i hi
  have sb := tb01 a i
  have hand : chz st pa d i &&& b < 2 ^ 31 := Nat.lt_of_le_of_lt Nat.and_le_left (by omega)
  have ho : nI a ||| (nI 1 <<< (nI i &&& nI 31)) = nI (a ||| 2 ^ i) := or1 (by omega)
  by_cases hd0 : d = 0
  · have hzz : chz st pa d i = 0 := if_pos hd0
    rw [hzz]
    subst hd0
    have hzb : nI 0 &&& nI b = nI 0 := by rw [nI_and, Nat.zero_and]
    have hbz : nI b ||| nI 0 = nI (b ||| 0) := nI_or b 0
    by_cases c1 : a.testBit i = false
    · rw [if_neg (by rw [c1]; decide)] at sb
      have hc : a.testBit i = false ∧ 0 &&& b = 0 := ⟨c1, Nat.zero_and b⟩
      rw [if_pos hc]
      simp (disch := omega) only [f_X12_follows_L61, ↓nmk_e, ↓reduceIte, Option.bind_some, Option.map_some, lit, ofN, nI_add, pk_sub, pk_mul, nI_clamp, nI_leI, nI_ltI, nI_eq, pk_div, nI_an, nleT, nleF, nltT, nltF, neqT, neqF, or_false, false_or, or_self, or_true, true_or, and_self, and_true, true_and, and_false, false_and, not_true_eq_false, not_false_eq_true, f_X12_isSort, f_X12_isDay, f_X11_isSort, f_X11_isDay, inI, inP, f_X5_size, f_X5_isFull, f_X11_now, f_X2_isKind, f_X2_has, f_X3_has, f_X8_hasPage, f_X8_hasAllPages, f_X8_stands, f_X1_isPrinted, f_X1_rule, f_X9_has, f_X9_isFull, f_X12_isPage, f_X12_isVerse, sC_s, sC_n, sC_2, sN_1, sN_s, sN_n, sN_2, sS_1, sS_2, sS_s, sS_n, upd_s, upd_e, upd_n, rAt, rPut, rAdd, rSwap, rPush, rNumber, cp_0, cp_1, cp_2, cp_3, cp_4, cp_5, cp_6, cp_7, cp_8, cp_9, cp_10, cp_11, cp_12, cp_13, cp_14, cp_15, cp_16, cp_17, cp_18, cp_19, cp_20, cp_21, cp_22, cp_23, cp_24, cp_25, cp_26, cp_27, cp_28, cp_29, cp_30, cp_31, cp_32, cp_33, cp_34, cp_35, cp_36, cp_37, cp_38, cp_39, cp_40, cp_41, cp_42, cp_43, cp_44, cp_45, cp_46, cp_47, cp_48, cp_49, cp_50, cp_51, cp_52, cp_53, cp_54, cp_55, cp_56, cp_57, n2, sbit, sb, hzb, ho, hbz]
    · have c1' : a.testBit i = true := by cases e : a.testBit i; exact absurd e c1; rfl
      rw [if_pos c1'] at sb
      have hc : ¬ (a.testBit i = false ∧ 0 &&& b = 0) := fun y => c1 y.1
      rw [if_neg hc]
      simp (disch := omega) only [f_X12_follows_L61, ↓nmk_e, ↓reduceIte, Option.bind_some, Option.map_some, lit, ofN, nI_add, pk_sub, pk_mul, nI_clamp, nI_leI, nI_ltI, nI_eq, pk_div, nI_an, nleT, nleF, nltT, nltF, neqT, neqF, or_false, false_or, or_self, or_true, true_or, and_self, and_true, true_and, and_false, false_and, not_true_eq_false, not_false_eq_true, f_X12_isSort, f_X12_isDay, f_X11_isSort, f_X11_isDay, inI, inP, f_X5_size, f_X5_isFull, f_X11_now, f_X2_isKind, f_X2_has, f_X3_has, f_X8_hasPage, f_X8_hasAllPages, f_X8_stands, f_X1_isPrinted, f_X1_rule, f_X9_has, f_X9_isFull, f_X12_isPage, f_X12_isVerse, sC_s, sC_n, sC_2, sN_1, sN_s, sN_n, sN_2, sS_1, sS_2, sS_s, sS_n, upd_s, upd_e, upd_n, rAt, rPut, rAdd, rSwap, rPush, rNumber, cp_0, cp_1, cp_2, cp_3, cp_4, cp_5, cp_6, cp_7, cp_8, cp_9, cp_10, cp_11, cp_12, cp_13, cp_14, cp_15, cp_16, cp_17, cp_18, cp_19, cp_20, cp_21, cp_22, cp_23, cp_24, cp_25, cp_26, cp_27, cp_28, cp_29, cp_30, cp_31, cp_32, cp_33, cp_34, cp_35, cp_36, cp_37, cp_38, cp_39, cp_40, cp_41, cp_42, cp_43, cp_44, cp_45, cp_46, cp_47, cp_48, cp_49, cp_50, cp_51, cp_52, cp_53, cp_54, cp_55, cp_56, cp_57, n2, sbit, sb]
  · obtain ⟨p1, p2, p3⟩ := hR.1 (d - 1) (by omega)
    obtain ⟨t1, t2, t3⟩ := g (pa (d - 1)) p3
    have hzz : st (pa (d - 1)) ^^^ st i = chz st pa d i := by
      unfold chz; rw [if_neg hd0, Nat.xor_comm]
    generalize chz st pa d i = z at *
    have hzb : nI z &&& nI b = nI (z &&& b) := nI_and z b
    have hbz : nI b ||| nI z = nI (b ||| z) := nI_or b z
    by_cases c1 : a.testBit i = false
    · rw [if_neg (by rw [c1]; decide)] at sb
      by_cases c2 : z &&& b = 0
      · have hc : a.testBit i = false ∧ z &&& b = 0 := ⟨c1, c2⟩
        rw [if_pos hc]
        simp (disch := omega) only [f_X12_follows_L61, ↓nmk_e, ↓reduceIte, Option.bind_some, Option.map_some, lit, ofN, nI_add, pk_sub, pk_mul, nI_clamp, nI_leI, nI_ltI, nI_eq, pk_div, nI_an, nleT, nleF, nltT, nltF, neqT, neqF, or_false, false_or, or_self, or_true, true_or, and_self, and_true, true_and, and_false, false_and, not_true_eq_false, not_false_eq_true, f_X12_isSort, f_X12_isDay, f_X11_isSort, f_X11_isDay, inI, inP, f_X5_size, f_X5_isFull, f_X11_now, f_X2_isKind, f_X2_has, f_X3_has, f_X8_hasPage, f_X8_hasAllPages, f_X8_stands, f_X1_isPrinted, f_X1_rule, f_X9_has, f_X9_isFull, f_X12_isPage, f_X12_isVerse, sC_s, sC_n, sC_2, sN_1, sN_s, sN_n, sN_2, sS_1, sS_2, sS_s, sS_n, upd_s, upd_e, upd_n, rAt, rPut, rAdd, rSwap, rPush, rNumber, cp_0, cp_1, cp_2, cp_3, cp_4, cp_5, cp_6, cp_7, cp_8, cp_9, cp_10, cp_11, cp_12, cp_13, cp_14, cp_15, cp_16, cp_17, cp_18, cp_19, cp_20, cp_21, cp_22, cp_23, cp_24, cp_25, cp_26, cp_27, cp_28, cp_29, cp_30, cp_31, cp_32, cp_33, cp_34, cp_35, cp_36, cp_37, cp_38, cp_39, cp_40, cp_41, cp_42, cp_43, cp_44, cp_45, cp_46, cp_47, cp_48, cp_49, cp_50, cp_51, cp_52, cp_53, cp_54, cp_55, cp_56, cp_57, n2, p2, t2, g1, nI_xor, hzz, sbit, sb, hzb, c2, ho, hbz]
      · have hc : ¬ (a.testBit i = false ∧ z &&& b = 0) := fun y => c2 y.2
        rw [if_neg hc]
        have c3 : ¬ nI (z &&& b) = nI 0 := fun y => c2 ((nI_eq hand (by decide)).mp y)
        have hd3 : ¬ nI d = nI 0 := fun y => hd0 ((nI_eq (by omega) (by decide)).mp y)
        simp (disch := omega) only [f_X12_follows_L61, ↓nmk_e, ↓reduceIte, lit, nI_add, pk_sub, nI_clamp, nI_leI, nI_ltI, nleT, nleF, nltT, nltF, neqT, neqF, or_false, false_or, or_self, or_true, true_or, and_self, and_true, true_and, and_false, false_and, not_true_eq_false, not_false_eq_true, n2, p2, t2, g1, nI_xor, hzz, sbit, sb, hzb, c3, hd3, nI_eq]
    · have c1' : a.testBit i = true := by cases e : a.testBit i; exact absurd e c1; rfl
      rw [if_pos c1'] at sb
      have hc : ¬ (a.testBit i = false ∧ z &&& b = 0) := fun y => c1 y.1
      rw [if_neg hc]
      simp (disch := omega) only [f_X12_follows_L61, ↓nmk_e, ↓reduceIte, Option.bind_some, Option.map_some, lit, ofN, nI_add, pk_sub, pk_mul, nI_clamp, nI_leI, nI_ltI, nI_eq, pk_div, nI_an, nleT, nleF, nltT, nltF, neqT, neqF, or_false, false_or, or_self, or_true, true_or, and_self, and_true, true_and, and_false, false_and, not_true_eq_false, not_false_eq_true, f_X12_isSort, f_X12_isDay, f_X11_isSort, f_X11_isDay, inI, inP, f_X5_size, f_X5_isFull, f_X11_now, f_X2_isKind, f_X2_has, f_X3_has, f_X8_hasPage, f_X8_hasAllPages, f_X8_stands, f_X1_isPrinted, f_X1_rule, f_X9_has, f_X9_isFull, f_X12_isPage, f_X12_isVerse, sC_s, sC_n, sC_2, sN_1, sN_s, sN_n, sN_2, sS_1, sS_2, sS_s, sS_n, upd_s, upd_e, upd_n, rAt, rPut, rAdd, rSwap, rPush, rNumber, cp_0, cp_1, cp_2, cp_3, cp_4, cp_5, cp_6, cp_7, cp_8, cp_9, cp_10, cp_11, cp_12, cp_13, cp_14, cp_15, cp_16, cp_17, cp_18, cp_19, cp_20, cp_21, cp_22, cp_23, cp_24, cp_25, cp_26, cp_27, cp_28, cp_29, cp_30, cp_31, cp_32, cp_33, cp_34, cp_35, cp_36, cp_37, cp_38, cp_39, cp_40, cp_41, cp_42, cp_43, cp_44, cp_45, cp_46, cp_47, cp_48, cp_49, cp_50, cp_51, cp_52, cp_53, cp_54, cp_55, cp_56, cp_57, n2, p2, t2, g1, sbit, sb]
theorem l_follow {m : Nat} {st : Nat → Nat} : ∀ (k d D E c a b : Nat) (pa : Nat → Nat) (w v : CW), d + k = m → k < D → k < E → FoS w v m st → FoR m w v d c pa → c + 8 ^ k ≤ 2 ^ 29 → a < 2 ^ 7 → b < 2 ^ 16 → ∃ (o : Nat) (w' v' : CW), o ≤ 8 ^ k ∧ f_X1_follow D w (nI d) (nI a) (nI b) = some (nI o, w') ∧ f_X12_follows E v (nI d) (nI a) (nI b) = some v' ∧ FoF w v w' v' ∧ FoR m w' v' d (c + o) pa := by
  intro k
  induction k with
  | zero =>
    intro d D E c a b pa w v hd hD hE hS hR hc ha hb
    obtain ⟨D, rfl⟩ : ∃ q, D = q + 1 := ⟨D - 1, by omega⟩
    obtain ⟨E, rfl⟩ : ∃ q, E = q + 1 := ⟨E - 1, by omega⟩
    have hd : d = m := by omega
    subst hd
    obtain ⟨w', v', h1, h2, h3, h4⟩ := l_leaf (D := D) (E := E) (a := a) (b := b) hS hR (by have : (8 : Nat) ^ 0 = 1 := rfl; omega)
    exact ⟨1, w', v', by decide, h1, h2, h3, h4⟩
  | succ k ih =>
    intro d D E c a b pa w v hd hD hE hS hR hc ha hb
    obtain ⟨D, rfl⟩ : ∃ q, D = q + 1 := ⟨D - 1, by omega⟩
    obtain ⟨E, rfl⟩ : ∃ q, E = q + 1 := ⟨E - 1, by omega⟩
    have hm := hS.1
    have n1 := hS.2.1
    have n2 := hS.2.2.1
    have hK : (8 : Nat) ^ (k + 1) = 8 * 8 ^ k := by rw [Nat.pow_succ, Nat.mul_comm]
    generalize hKe : (8 : Nat) ^ k = K at *
    have key := run2 (fun q i (x : Int32 × CW) => f_X1_follow_L35 (f_X1_follow D) (nI d) (nI a) (nI b) (nI m) q x.1 i x.2) (fun q i (x : CW) => f_X12_follows_L61 (f_X12_follows E) (nI d) (nI a) (nI b) q i x) (fun i x y => ∃ o, o ≤ i * K ∧ x.1 = nI o ∧ FoF w v x.2 y ∧ FoR m x.2 y d (c + o) pa) m (fun x y => ∃ (o : Nat) (w' v' : CW), o ≤ 8 * K ∧ x = some (nI o, w') ∧ y = some v' ∧ FoF w v w' v' ∧ FoR m w' v' d (c + o) pa) ?_ ?_ FU FU 0 (0, w) v (Nat.zero_le _) (by unfold FU; omega) (by unfold FU; omega) ⟨0, Nat.zero_le _, rfl, FoF.refl w v, hR⟩
    · obtain ⟨o, w', v', h1, h2, h3, h4, h5⟩ := key
      refine ⟨o, w', v', by rw [hK]; exact h1, ?_, ?_, h4, h5⟩
      · show h_X1_follow (f_X1_follow D) w (nI d) (nI a) (nI b) = _
        unfold h_X1_follow
        have h2 : f_X1_follow_L35 (f_X1_follow D) (nI d) (nI a) (nI b) (nI m) FU (nI 0) (nI 0) w = some (nI o, w') := h2
        simp (disch := omega) only [↓nmk_e, ↓reduceIte, Option.bind_some, Option.map_some, lit, ofN, nI_add, pk_sub, pk_mul, nI_clamp, nI_leI, nI_ltI, nI_eq, pk_div, nI_an, nleT, nleF, nltT, nltF, neqT, neqF, or_false, false_or, or_self, or_true, true_or, and_self, and_true, true_and, and_false, false_and, not_true_eq_false, not_false_eq_true, f_X12_isSort, f_X12_isDay, f_X11_isSort, f_X11_isDay, inI, inP, f_X5_size, f_X5_isFull, f_X11_now, f_X2_isKind, f_X2_has, f_X3_has, f_X8_hasPage, f_X8_hasAllPages, f_X8_stands, f_X1_isPrinted, f_X1_rule, f_X9_has, f_X9_isFull, f_X12_isPage, f_X12_isVerse, sC_s, sC_n, sC_2, sN_1, sN_s, sN_n, sN_2, sS_1, sS_2, sS_s, sS_n, upd_s, upd_e, upd_n, rAt, rPut, rAdd, rSwap, rPush, rNumber, cp_0, cp_1, cp_2, cp_3, cp_4, cp_5, cp_6, cp_7, cp_8, cp_9, cp_10, cp_11, cp_12, cp_13, cp_14, cp_15, cp_16, cp_17, cp_18, cp_19, cp_20, cp_21, cp_22, cp_23, cp_24, cp_25, cp_26, cp_27, cp_28, cp_29, cp_30, cp_31, cp_32, cp_33, cp_34, cp_35, cp_36, cp_37, cp_38, cp_39, cp_40, cp_41, cp_42, cp_43, cp_44, cp_45, cp_46, cp_47, cp_48, cp_49, cp_50, cp_51, cp_52, cp_53, cp_54, cp_55, cp_56, cp_57, n1, h2]
      · show h_X12_follows (f_X12_follows E) v (nI d) (nI a) (nI b) = _
        unfold h_X12_follows
        have h3 : f_X12_follows_L61 (f_X12_follows E) (nI d) (nI a) (nI b) FU (nI 0) v = some v' := h3
        simp (disch := omega) only [↓nmk_e, ↓reduceIte, Option.bind_some, Option.map_some, lit, ofN, nI_add, pk_sub, pk_mul, nI_clamp, nI_leI, nI_ltI, nI_eq, pk_div, nI_an, nleT, nleF, nltT, nltF, neqT, neqF, or_false, false_or, or_self, or_true, true_or, and_self, and_true, true_and, and_false, false_and, not_true_eq_false, not_false_eq_true, f_X12_isSort, f_X12_isDay, f_X11_isSort, f_X11_isDay, inI, inP, f_X5_size, f_X5_isFull, f_X11_now, f_X2_isKind, f_X2_has, f_X3_has, f_X8_hasPage, f_X8_hasAllPages, f_X8_stands, f_X1_isPrinted, f_X1_rule, f_X9_has, f_X9_isFull, f_X12_isPage, f_X12_isVerse, sC_s, sC_n, sC_2, sN_1, sN_s, sN_n, sN_2, sS_1, sS_2, sS_s, sS_n, upd_s, upd_e, upd_n, rAt, rPut, rAdd, rSwap, rPush, rNumber, cp_0, cp_1, cp_2, cp_3, cp_4, cp_5, cp_6, cp_7, cp_8, cp_9, cp_10, cp_11, cp_12, cp_13, cp_14, cp_15, cp_16, cp_17, cp_18, cp_19, cp_20, cp_21, cp_22, cp_23, cp_24, cp_25, cp_26, cp_27, cp_28, cp_29, cp_30, cp_31, cp_32, cp_33, cp_34, cp_35, cp_36, cp_37, cp_38, cp_39, cp_40, cp_41, cp_42, cp_43, cp_44, cp_45, cp_46, cp_47, cp_48, cp_49, cp_50, cp_51, cp_52, cp_53, cp_54, cp_55, cp_56, cp_57, n2, h3]
    · rintro q q' ⟨x, w1⟩ v1 ⟨o, ho, rfl, hF, hR1⟩
      have n2' := (hS.of hF).2.2.1
      have hmK : m * K ≤ 7 * K := Nat.mul_le_mul_right _ hm
      refine ⟨o, w1, v1, by omega, ?_, ?_, hF, hR1⟩
      · simp (disch := omega) only [f_X1_follow_L35, ↓nmk_e, ↓reduceIte, Option.bind_some, Option.map_some, lit, ofN, nI_add, pk_sub, pk_mul, nI_clamp, nI_leI, nI_ltI, nI_eq, pk_div, nI_an, nleT, nleF, nltT, nltF, neqT, neqF, or_false, false_or, or_self, or_true, true_or, and_self, and_true, true_and, and_false, false_and, not_true_eq_false, not_false_eq_true, f_X12_isSort, f_X12_isDay, f_X11_isSort, f_X11_isDay, inI, inP, f_X5_size, f_X5_isFull, f_X11_now, f_X2_isKind, f_X2_has, f_X3_has, f_X8_hasPage, f_X8_hasAllPages, f_X8_stands, f_X1_isPrinted, f_X1_rule, f_X9_has, f_X9_isFull, f_X12_isPage, f_X12_isVerse, sC_s, sC_n, sC_2, sN_1, sN_s, sN_n, sN_2, sS_1, sS_2, sS_s, sS_n, upd_s, upd_e, upd_n, rAt, rPut, rAdd, rSwap, rPush, rNumber, cp_0, cp_1, cp_2, cp_3, cp_4, cp_5, cp_6, cp_7, cp_8, cp_9, cp_10, cp_11, cp_12, cp_13, cp_14, cp_15, cp_16, cp_17, cp_18, cp_19, cp_20, cp_21, cp_22, cp_23, cp_24, cp_25, cp_26, cp_27, cp_28, cp_29, cp_30, cp_31, cp_32, cp_33, cp_34, cp_35, cp_36, cp_37, cp_38, cp_39, cp_40, cp_41, cp_42, cp_43, cp_44, cp_45, cp_46, cp_47, cp_48, cp_49, cp_50, cp_51, cp_52, cp_53, cp_54, cp_55, cp_56, cp_57]
      · simp (disch := omega) only [f_X12_follows_L61, ↓nmk_e, ↓reduceIte, Option.bind_some, Option.map_some, lit, ofN, nI_add, pk_sub, pk_mul, nI_clamp, nI_leI, nI_ltI, nI_eq, pk_div, nI_an, nleT, nleF, nltT, nltF, neqT, neqF, or_false, false_or, or_self, or_true, true_or, and_self, and_true, true_and, and_false, false_and, not_true_eq_false, not_false_eq_true, f_X12_isSort, f_X12_isDay, f_X11_isSort, f_X11_isDay, inI, inP, f_X5_size, f_X5_isFull, f_X11_now, f_X2_isKind, f_X2_has, f_X3_has, f_X8_hasPage, f_X8_hasAllPages, f_X8_stands, f_X1_isPrinted, f_X1_rule, f_X9_has, f_X9_isFull, f_X12_isPage, f_X12_isVerse, sC_s, sC_n, sC_2, sN_1, sN_s, sN_n, sN_2, sS_1, sS_2, sS_s, sS_n, upd_s, upd_e, upd_n, rAt, rPut, rAdd, rSwap, rPush, rNumber, cp_0, cp_1, cp_2, cp_3, cp_4, cp_5, cp_6, cp_7, cp_8, cp_9, cp_10, cp_11, cp_12, cp_13, cp_14, cp_15, cp_16, cp_17, cp_18, cp_19, cp_20, cp_21, cp_22, cp_23, cp_24, cp_25, cp_26, cp_27, cp_28, cp_29, cp_30, cp_31, cp_32, cp_33, cp_34, cp_35, cp_36, cp_37, cp_38, cp_39, cp_40, cp_41, cp_42, cp_43, cp_44, cp_45, cp_46, cp_47, cp_48, cp_49, cp_50, cp_51, cp_52, cp_53, cp_54, cp_55, cp_56, cp_57, n2']
    · rintro q q' i ⟨x, w1⟩ v1 hi ⟨o, ho, rfl, hF, hR1⟩
      have hS1 : FoS w1 v1 m st := hS.of hF
      have hR1 : FoR m w1 v1 d (c + o) pa := hR1
      have hiK : (i + 1) * K = i * K + K := Nat.succ_mul i K
      have hiK7 : (i + 1) * K ≤ 7 * K := Nat.mul_le_mul_right _ (by omega)
      have hz := chz_lt hS1 hR1 hi
      have eC := l_stepC (o := o) (q := q) (rc := f_X1_follow D) hS1 hR1 hi (by omega) ha hb
      have eR := l_stepR (q := q') (rc := f_X12_follows E) hS1 hR1 hi (by omega) ha hb
      by_cases cz : a.testBit i = false ∧ chz st pa d i &&& b = 0
      · rw [if_pos cz] at eC eR
        have hF1 : FoF w1 v1 (sC w1 51 d (nI i)) (sC v1 12 d (nI i)) := ⟨fun k x y => by simp (disch := omega) only [sC_s, sC_n, sC_2, sN_1, sN_s, sN_n, sN_2, sS_1, sS_2, sS_s, sS_n, upd_s, upd_e, upd_n], fun k x => rfl, rfl, fun k x y => by simp (disch := omega) only [sC_s, sC_n, sC_2, sN_1, sN_s, sN_n, sN_2, sS_1, sS_2, sS_s, sS_n, upd_s, upd_e, upd_n], rfl, fun k x => rfl⟩
        have hR2 : FoR m (sC w1 51 d (nI i)) (sC v1 12 d (nI i)) (d + 1) (c + o) (fun j => if j = d then i else pa j) := by
          obtain ⟨r1, r2, r3, r4⟩ := hR1
          refine ⟨fun j hj => ?_, r2, r3, r4⟩
          by_cases cj : j = d
          · subst cj
            simp (disch := omega) only [sC_s, sC_n, sC_2, sN_1, sN_s, sN_n, sN_2, sS_1, sS_2, sS_s, sS_n, upd_s, upd_e, upd_n, ↓reduceIte]
            exact ⟨trivial, trivial, hi⟩
          · simp (disch := omega) only [sC_s, sC_n, sC_2, sN_1, sN_s, sN_n, sN_2, sS_1, sS_2, sS_s, sS_n, upd_s, upd_e, upd_n, cj, ↓reduceIte]
            exact r1 j (by omega)
        obtain ⟨o2, w2, v2, b1, b2, b3, b4, b5⟩ := ih (d + 1) D E (c + o) (a ||| 2 ^ i) (b ||| chz st pa d i) _ _ _ (by omega) (by omega) (by omega) (hS1.of hF1) hR2 (by omega) (or_lt ha (by omega)) (Nat.or_lt_two_pow hb hz)
        have hR3 : FoR m w2 v2 d (c + (o + o2)) pa := by
          obtain ⟨r1, r2, r3, r4⟩ := b5
          rw [← Nat.add_assoc]
          refine ⟨fun j hj => ?_, r2, r3, r4⟩
          have := r1 j (by omega)
          simp only [show j ≠ d by omega, ↓reduceIte] at this
          exact this
        refine .inr ⟨(nI (o + o2), w2), v2, ?_, ?_, o + o2, by omega, rfl, (hF.trans hF1).trans b4, hR3⟩
        · show f_X1_follow_L35 (f_X1_follow D) (nI d) (nI a) (nI b) (nI m) (q + 1) (nI o) (nI i) w1 = _
          rw [eC, b2]
          show f_X1_follow_L35 (f_X1_follow D) (nI d) (nI a) (nI b) (nI m) q (nI o + nI o2) (nI (i + 1)) w2 = _
          rw [nI_add]
        · rw [eR, b3]; rfl
      · rw [if_neg cz] at eC eR
        exact .inr ⟨(nI o, w1), v1, eC, eR, o, by omega, rfl, hF, hR1⟩
theorem s_allowed {w v : CW} (h : Sim w v) (a : Int32) : Same w v (f_X11_allowed w a) (f_X12_allowed v a) := by
  obtain ⟨m, hm, n1, n2, g⟩ := h.g9
  let w1 := sN w 52 (nI 0)
  let v1 := sS v 24 (nI 0)
  have hS : FoS w1 v1 m (fun j => tN (v.1 0 (3080 + j))) := by
    refine ⟨hm, ?_, n2, fun j hj => ?_⟩
    · show (sN w 52 (nI 0)).2.1 27 = _
      simp (disch := omega) only [sC_s, sC_n, sC_2, sN_1, sN_s, sN_n, sN_2, sS_1, sS_2, sS_s, sS_n, upd_s, upd_e, upd_n]; exact n1
    · obtain ⟨g1, g2⟩ := g j hj
      obtain ⟨e1, e2⟩ := bdt (by decide) g2
      exact ⟨g1.trans e1, e1, by show tN (v.1 0 (3080 + j)) < _; omega⟩
  have hR : FoR m w1 v1 0 0 (fun _ => 0) := ⟨fun j hj => absurd hj (Nat.not_lt_zero j), by show (sS v 24 (nI 0)).2.2 24 = _; simp only [sC_s, sC_n, sC_2, sN_1, sN_s, sN_n, sN_2, sS_1, sS_2, sS_s, sS_n, upd_s, upd_e, upd_n], fun _ => by show (sN w 52 (nI 0)).2.1 52 = _; simp only [sC_s, sC_n, sC_2, sN_1, sN_s, sN_n, sN_2, sS_1, sS_2, sS_s, sS_n, upd_s, upd_e, upd_n], fun z => absurd rfl z⟩
  have h8 : (8 : Nat) ^ m ≤ 8 ^ 7 := Nat.pow_le_pow_right (by decide) hm
  obtain ⟨o, w', v', ho, e1, e2, hF, r1, r2, r3, r4⟩ := l_follow m 0 9 9 0 0 0 (fun _ => 0) w1 v1 (by omega) (by omega) (by omega) hS hR (by omega) (by decide) (by decide)
  have hoo : o ≤ 2 ^ 22 := Nat.le_trans ho (Nat.le_trans h8 (by decide))
  rw [Nat.zero_add] at r2 r3 r4
  have e1 : f_X1_follow 9 (sN w 52 (nI 0)) (nI 0) (nI 0) (nI 0) = some (nI o, w') := e1
  have e2 : f_X12_follows 9 (sS v 24 (nI 0)) (nI 0) (nI 0) (nI 0) = some v' := e2
  have hE : Sim w' v' := by
    obtain ⟨a1, a2, a3, a4, a5, a6⟩ := hF
    refine Sim_scr h (fun k hk => ⟨?_, ?_⟩) ?_ ?_ ?_ ?_
    · exact a1 k (by omega) (by omega)
    · rw [a2 k (by omega)]
      show (sN w 52 (nI 0)).2.1 k = _
      simp (disch := omega) only [sC_s, sC_n, sC_2, sN_1, sN_s, sN_n, sN_2, sS_1, sS_2, sS_s, sS_n, upd_s, upd_e, upd_n]
    · rw [a3]; rfl
    · exact a4 0 (by decide) (by decide)
    · exact a4 1 (by decide) (by decide)
    · rw [a6 3 (by decide)]
      show (sS v 24 (nI 0)).2.2 3 = _
      simp (disch := omega) only [sC_s, sC_n, sC_2, sN_1, sN_s, sN_n, sN_2, sS_1, sS_2, sS_s, sS_n, upd_s, upd_e, upd_n]
  unfold f_X11_allowed f_X12_allowed f_X1_countStateOrders f_X5_clear
  rcases dich a with c | ⟨i, hi, rfl⟩
  · by_cases c1 : a = -nI 1
    · subst c1
      have hz : ¬ -nI 1 < -nI 1 := by decide
      have hz2 : ¬ nI 0 ≤ -nI 1 := by decide
      have hz3 : -nI 1 < nI m := of_eq_true (ng1 (by decide) (by omega))
      simp (disch := omega) only [↓nmk_e, ↓reduceIte, Option.bind_some, Option.map_some, lit, ofN, nI_add, pk_sub, pk_mul, nI_clamp, nI_leI, nI_ltI, nI_eq, pk_div, nI_an, nleT, nleF, nltT, nltF, neqT, neqF, or_false, false_or, or_self, or_true, true_or, and_self, and_true, true_and, and_false, false_and, not_true_eq_false, not_false_eq_true, f_X12_isSort, f_X12_isDay, f_X11_isSort, f_X11_isDay, inI, inP, f_X5_size, f_X5_isFull, f_X11_now, f_X2_isKind, f_X2_has, f_X3_has, f_X8_hasPage, f_X8_hasAllPages, f_X8_stands, f_X1_isPrinted, f_X1_rule, f_X9_has, f_X9_isFull, f_X12_isPage, f_X12_isVerse, sC_s, sC_n, sC_2, sN_1, sN_s, sN_n, sN_2, sS_1, sS_2, sS_s, sS_n, upd_s, upd_e, upd_n, rAt, rPut, rAdd, rSwap, rPush, rNumber, cp_0, cp_1, cp_2, cp_3, cp_4, cp_5, cp_6, cp_7, cp_8, cp_9, cp_10, cp_11, cp_12, cp_13, cp_14, cp_15, cp_16, cp_17, cp_18, cp_19, cp_20, cp_21, cp_22, cp_23, cp_24, cp_25, cp_26, cp_27, cp_28, cp_29, cp_30, cp_31, cp_32, cp_33, cp_34, cp_35, cp_36, cp_37, cp_38, cp_39, cp_40, cp_41, cp_42, cp_43, cp_44, cp_45, cp_46, cp_47, cp_48, cp_49, cp_50, cp_51, cp_52, cp_53, cp_54, cp_55, cp_56, cp_57, n1, n2, hz, hz2, hz3, e1, e2, inM1, r2]
      exact ⟨_, _, _, rfl, rfl, hE⟩
    · have c2 := of_eq_true (neg1a c c1)
      simp (disch := omega) only [↓nmk_e, ↓reduceIte, Option.bind_some, Option.map_some, lit, ofN, nI_add, pk_sub, pk_mul, nI_clamp, nI_leI, nI_ltI, nI_eq, pk_div, nI_an, nleT, nleF, nltT, nltF, neqT, neqF, or_false, false_or, or_self, or_true, true_or, and_self, and_true, true_and, and_false, false_and, not_true_eq_false, not_false_eq_true, f_X12_isSort, f_X12_isDay, f_X11_isSort, f_X11_isDay, inI, inP, f_X5_size, f_X5_isFull, f_X11_now, f_X2_isKind, f_X2_has, f_X3_has, f_X8_hasPage, f_X8_hasAllPages, f_X8_stands, f_X1_isPrinted, f_X1_rule, f_X9_has, f_X9_isFull, f_X12_isPage, f_X12_isVerse, sC_s, sC_n, sC_2, sN_1, sN_s, sN_n, sN_2, sS_1, sS_2, sS_s, sS_n, upd_s, upd_e, upd_n, rAt, rPut, rAdd, rSwap, rPush, rNumber, cp_0, cp_1, cp_2, cp_3, cp_4, cp_5, cp_6, cp_7, cp_8, cp_9, cp_10, cp_11, cp_12, cp_13, cp_14, cp_15, cp_16, cp_17, cp_18, cp_19, cp_20, cp_21, cp_22, cp_23, cp_24, cp_25, cp_26, cp_27, cp_28, cp_29, cp_30, cp_31, cp_32, cp_33, cp_34, cp_35, cp_36, cp_37, cp_38, cp_39, cp_40, cp_41, cp_42, cp_43, cp_44, cp_45, cp_46, cp_47, cp_48, cp_49, cp_50, cp_51, cp_52, cp_53, cp_54, cp_55, cp_56, cp_57, c2, n2, inM3]
      exact ⟨_, _, _, rfl, rfl, h⟩
  · by_cases ci : i < m
    · have hin : f_X12_in (nI i) (-nI 1) (nI (m - 1)) = nI 1 := by
        rw [← pk_sub (show 1 ≤ m by omega), inM2 (by omega) (by omega), if_pos ci]
      have hz : (nI i = -nI 1) = False := eq_false fun z => by
        have := congrArg Int32.toInt z
        rw [nI_toInt (by omega), show (-nI 1).toInt = -1 from rfl] at this
        omega
      by_cases co : o = 0
      · simp (disch := omega) only [↓nmk_e, ↓reduceIte, Option.bind_some, Option.map_some, lit, ofN, nI_add, pk_sub, pk_mul, nI_clamp, nI_leI, nI_ltI, nI_eq, pk_div, nI_an, nleT, nleF, nltT, nltF, neqT, neqF, or_false, false_or, or_self, or_true, true_or, and_self, and_true, true_and, and_false, false_and, not_true_eq_false, not_false_eq_true, f_X12_isSort, f_X12_isDay, f_X11_isSort, f_X11_isDay, inI, inP, f_X5_size, f_X5_isFull, f_X11_now, f_X2_isKind, f_X2_has, f_X3_has, f_X8_hasPage, f_X8_hasAllPages, f_X8_stands, f_X1_isPrinted, f_X1_rule, f_X9_has, f_X9_isFull, f_X12_isPage, f_X12_isVerse, sC_s, sC_n, sC_2, sN_1, sN_s, sN_n, sN_2, sS_1, sS_2, sS_s, sS_n, upd_s, upd_e, upd_n, rAt, rPut, rAdd, rSwap, rPush, rNumber, cp_0, cp_1, cp_2, cp_3, cp_4, cp_5, cp_6, cp_7, cp_8, cp_9, cp_10, cp_11, cp_12, cp_13, cp_14, cp_15, cp_16, cp_17, cp_18, cp_19, cp_20, cp_21, cp_22, cp_23, cp_24, cp_25, cp_26, cp_27, cp_28, cp_29, cp_30, cp_31, cp_32, cp_33, cp_34, cp_35, cp_36, cp_37, cp_38, cp_39, cp_40, cp_41, cp_42, cp_43, cp_44, cp_45, cp_46, cp_47, cp_48, cp_49, cp_50, cp_51, cp_52, cp_53, cp_54, cp_55, cp_56, cp_57, n1, n2, nlt1, hin, e1, e2, r2, hz]
        exact ⟨_, _, _, rfl, rfl, hE⟩
      · obtain ⟨r5, r6⟩ := r4 co
        have r7 := r6 i ci
        simp (disch := omega) only [↓nmk_e, ↓reduceIte, Option.bind_some, Option.map_some, lit, ofN, nI_add, pk_sub, pk_mul, nI_clamp, nI_leI, nI_ltI, nI_eq, pk_div, nI_an, nleT, nleF, nltT, nltF, neqT, neqF, or_false, false_or, or_self, or_true, true_or, and_self, and_true, true_and, and_false, false_and, not_true_eq_false, not_false_eq_true, f_X12_isSort, f_X12_isDay, f_X11_isSort, f_X11_isDay, inI, inP, f_X5_size, f_X5_isFull, f_X11_now, f_X2_isKind, f_X2_has, f_X3_has, f_X8_hasPage, f_X8_hasAllPages, f_X8_stands, f_X1_isPrinted, f_X1_rule, f_X9_has, f_X9_isFull, f_X12_isPage, f_X12_isVerse, sC_s, sC_n, sC_2, sN_1, sN_s, sN_n, sN_2, sS_1, sS_2, sS_s, sS_n, upd_s, upd_e, upd_n, rAt, rPut, rAdd, rSwap, rPush, rNumber, cp_0, cp_1, cp_2, cp_3, cp_4, cp_5, cp_6, cp_7, cp_8, cp_9, cp_10, cp_11, cp_12, cp_13, cp_14, cp_15, cp_16, cp_17, cp_18, cp_19, cp_20, cp_21, cp_22, cp_23, cp_24, cp_25, cp_26, cp_27, cp_28, cp_29, cp_30, cp_31, cp_32, cp_33, cp_34, cp_35, cp_36, cp_37, cp_38, cp_39, cp_40, cp_41, cp_42, cp_43, cp_44, cp_45, cp_46, cp_47, cp_48, cp_49, cp_50, cp_51, cp_52, cp_53, cp_54, cp_55, cp_56, cp_57, n1, n2, nlt1, hin, e1, e2, r2, hz, r7]
        exact ⟨_, _, _, rfl, rfl, hE⟩
    · simp (disch := omega) only [↓nmk_e, ↓reduceIte, Option.bind_some, Option.map_some, lit, ofN, nI_add, pk_sub, pk_mul, nI_clamp, nI_leI, nI_ltI, nI_eq, pk_div, nI_an, nleT, nleF, nltT, nltF, neqT, neqF, or_false, false_or, or_self, or_true, true_or, and_self, and_true, true_and, and_false, false_and, not_true_eq_false, not_false_eq_true, f_X12_isSort, f_X12_isDay, f_X11_isSort, f_X11_isDay, inI, inP, f_X5_size, f_X5_isFull, f_X11_now, f_X2_isKind, f_X2_has, f_X3_has, f_X8_hasPage, f_X8_hasAllPages, f_X8_stands, f_X1_isPrinted, f_X1_rule, f_X9_has, f_X9_isFull, f_X12_isPage, f_X12_isVerse, sC_s, sC_n, sC_2, sN_1, sN_s, sN_n, sN_2, sS_1, sS_2, sS_s, sS_n, upd_s, upd_e, upd_n, rAt, rPut, rAdd, rSwap, rPush, rNumber, cp_0, cp_1, cp_2, cp_3, cp_4, cp_5, cp_6, cp_7, cp_8, cp_9, cp_10, cp_11, cp_12, cp_13, cp_14, cp_15, cp_16, cp_17, cp_18, cp_19, cp_20, cp_21, cp_22, cp_23, cp_24, cp_25, cp_26, cp_27, cp_28, cp_29, cp_30, cp_31, cp_32, cp_33, cp_34, cp_35, cp_36, cp_37, cp_38, cp_39, cp_40, cp_41, cp_42, cp_43, cp_44, cp_45, cp_46, cp_47, cp_48, cp_49, cp_50, cp_51, cp_52, cp_53, cp_54, cp_55, cp_56, cp_57, n1, n2, nlt1, inM2]
      exact ⟨_, _, _, rfl, rfl, h⟩
