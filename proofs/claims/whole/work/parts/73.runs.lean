/-! runs -/
theorem run1d {σ α : Type} (L : Nat → Int32 → σ → α) (Inv : Nat → σ → Prop) (P : α → Prop) (h1 : ∀ n s, Inv 0 s → P (L (n + 1) (-nI 1) s)) (h2 : ∀ n k s, Inv (k + 1) s → P (L (n + 1) (nI k) s) ∨ ∃ s', L (n + 1) (nI k) s = L n (dn k) s' ∧ Inv k s') : ∀ n k s, k < n → Inv k s → P (L n (dn k) s) := by
  intro n
  induction n with
  | zero => intro k s a; omega
  | succ n ih =>
    intro k s a hI
    cases k with
    | zero => exact h1 n s hI
    | succ k =>
      rcases h2 n k s hI with h | ⟨s', e, h⟩
      · exact h
      · show P (L (n + 1) (nI k) s)
        rw [e]; exact ih k s' (by omega) h
abbrev RfA (f : Nat → Int32) (r : Nat) : Nat := tN (f (3100 + r))
abbrev RfB (f : Nat → Int32) (r : Nat) : Nat := tN (f (3130 + r))
abbrev RfM (f : Nat → Int32) : Nat := tN (f 10)
def rcond (f : Nat → Int32) (n p s r : Nat) : Prop := RfB f r = p → RfA f r < n → s.testBit (RfA f r) = true
def mcb (f : Nat → Int32) (n p s : Nat) : Bool := !(s.testBit p) && decide (∀ r, r < RfM f → RfB f r = p → RfA f r < n → s.testBit (RfA f r) = true)
theorem mcb_iff {f : Nat → Int32} {n p s : Nat} : mcb f n p s = true ↔ s.testBit p = false ∧ ∀ r, r < RfM f → rcond f n p s r := by
  unfold mcb
  rw [Bool.and_eq_true, Bool.not_eq_true', decide_eq_true_iff]
  exact Iff.rfl
theorem mcb_1 {f : Nat → Int32} {n : Nat} : ∀ p s, mcb f n p s = true → s.testBit p = false := fun _ _ h => (mcb_iff.mp h).1
theorem mcb_2 {f : Nat → Int32} {n : Nat} : ∀ p q s, mcb f n p s = true → q ≠ p → mcb f n p (s ||| 2 ^ q) = true := fun p q s h hq => by
  obtain ⟨a, b⟩ := mcb_iff.mp h
  refine mcb_iff.mpr ⟨by rw [or_bit, a, decide_eq_false hq]; rfl, fun r hr h1 h2 => ?_⟩
  rw [or_bit, b r hr h1 h2]; rfl
def RRow (f : Nat → Int32) : Prop := f 10 = nI (RfM f) ∧ RfM f ≤ 30 ∧ ∀ r, r < RfM f → f (3100 + r) = nI (RfA f r) ∧ RfA f r < 10 ∧ f (3130 + r) = nI (RfB f r) ∧ RfB f r < 10
theorem RRow_of {w v : CW} (h : Sim w v) : RRow (v.1 0) ∧ w.2.1 29 = nI (RfM (v.1 0)) ∧ ∀ r, r < RfM (v.1 0) → w.1 29 r = nI (10 * RfA (v.1 0) r + RfB (v.1 0) r) := by
  obtain ⟨m, hm, n1, n2, g⟩ := h.g11
  have e : RfM (v.1 0) = m := by show tN (v.1 0 10) = m; rw [n2]; exact nI_clamp (by omega)
  have g' : ∀ r, r < m → v.1 0 (3100 + r) = nI (RfA (v.1 0) r) ∧ RfA (v.1 0) r < 10 ∧ v.1 0 (3130 + r) = nI (RfB (v.1 0) r) ∧ RfB (v.1 0) r < 10 ∧ w.1 29 r = nI (10 * RfA (v.1 0) r + RfB (v.1 0) r) := fun r hr => by
    obtain ⟨a, b, ha, hb, e1, e2, e3⟩ := g r hr
    have f1 : RfA (v.1 0) r = a := by show tN (v.1 0 (3100 + r)) = a; rw [e2]; exact nI_clamp (by omega)
    have f2 : RfB (v.1 0) r = b := by show tN (v.1 0 (3130 + r)) = b; rw [e3]; exact nI_clamp (by omega)
    rw [f1, f2]; exact ⟨e2, ha, e3, hb, e1⟩
  rw [RRow, e]
  exact ⟨⟨n2, hm, fun r hr => ⟨(g' r hr).1, (g' r hr).2.1, (g' r hr).2.2.1, (g' r hr).2.2.2.1⟩⟩, n1, fun r hr => (g' r hr).2.2.2.2⟩
theorem l_may {u : CW} (R : RRow (u.1 0)) {n p s : Nat} (hn : n ≤ 10) (hp : p < 10) (hs : s < 1024) : f_X12_mayCome u (nI p) (nI s) (nI n) = some (nI (if mcb (u.1 0) n p s = true then 1 else 0)) := by
  obtain ⟨n1, hm, g⟩ := R
  unfold f_X12_mayCome
  have key : ∀ x0 : Nat, x0 = (if s.testBit p = false then 1 else 0) → f_X12_mayCome_L18 u (nI p) (nI s) (nI n) FU (nI x0) (nI 0) = some (nI (if mcb (u.1 0) n p s = true then 1 else 0)) := by
    intro x0 hx0
    refine run1 (fun q i x => f_X12_mayCome_L18 u (nI p) (nI s) (nI n) q x i) (fun i x => ∃ y : Nat, x = nI y ∧ (y = 1 ∧ (s.testBit p = false ∧ ∀ r, r < i → rcond (u.1 0) n p s r) ∨ y = 0 ∧ ¬ (s.testBit p = false ∧ ∀ r, r < i → rcond (u.1 0) n p s r))) (RfM (u.1 0)) (fun x => x = some (nI (if mcb (u.1 0) n p s = true then 1 else 0))) ?_ ?_ FU 0 (nI x0) (Nat.zero_le _) (by unfold FU; omega) ⟨x0, rfl, ?_⟩
    · rintro q _ ⟨y, rfl, h⟩
      rcases h with ⟨rfl, h⟩ | ⟨rfl, h⟩
      · rw [if_pos (mcb_iff.mpr h)]
        simp (disch := omega) only [f_X12_mayCome_L18, ↓nmk_e, ↓reduceIte, Option.bind_some, Option.map_some, lit, ofN, nI_add, pk_sub, pk_mul, nI_clamp, nI_leI, nI_ltI, nI_eq, pk_div, nI_an, nleT, nleF, nltT, nltF, neqT, neqF, or_false, false_or, or_self, or_true, true_or, and_self, and_true, true_and, and_false, false_and, not_true_eq_false, not_false_eq_true, f_X12_isSort, f_X12_isDay, f_X11_isSort, f_X11_isDay, inI, inP, f_X5_size, f_X5_isFull, f_X11_now, f_X2_isKind, f_X2_has, f_X3_has, f_X8_hasPage, f_X8_hasAllPages, f_X8_stands, f_X1_isPrinted, f_X1_rule, f_X9_has, f_X9_isFull, f_X12_isPage, f_X12_isVerse, sC_s, sC_n, sC_2, sN_1, sN_s, sN_n, sN_2, sS_1, sS_2, sS_s, sS_n, upd_s, upd_e, upd_n, rAt, rPut, rAdd, rSwap, rPush, rNumber, cp_0, cp_1, cp_2, cp_3, cp_4, cp_5, cp_6, cp_7, cp_8, cp_9, cp_10, cp_11, cp_12, cp_13, cp_14, cp_15, cp_16, cp_17, cp_18, cp_19, cp_20, cp_21, cp_22, cp_23, cp_24, cp_25, cp_26, cp_27, cp_28, cp_29, cp_30, cp_31, cp_32, cp_33, cp_34, cp_35, cp_36, cp_37, cp_38, cp_39, cp_40, cp_41, cp_42, cp_43, cp_44, cp_45, cp_46, cp_47, cp_48, cp_49, cp_50, cp_51, cp_52, cp_53, cp_54, cp_55, cp_56, cp_57, n1]
      · rw [if_neg (fun z => h (mcb_iff.mp z))]
        simp (disch := omega) only [f_X12_mayCome_L18, ↓nmk_e, ↓reduceIte, Option.bind_some, Option.map_some, lit, ofN, nI_add, pk_sub, pk_mul, nI_clamp, nI_leI, nI_ltI, nI_eq, pk_div, nI_an, nleT, nleF, nltT, nltF, neqT, neqF, or_false, false_or, or_self, or_true, true_or, and_self, and_true, true_and, and_false, false_and, not_true_eq_false, not_false_eq_true, f_X12_isSort, f_X12_isDay, f_X11_isSort, f_X11_isDay, inI, inP, f_X5_size, f_X5_isFull, f_X11_now, f_X2_isKind, f_X2_has, f_X3_has, f_X8_hasPage, f_X8_hasAllPages, f_X8_stands, f_X1_isPrinted, f_X1_rule, f_X9_has, f_X9_isFull, f_X12_isPage, f_X12_isVerse, sC_s, sC_n, sC_2, sN_1, sN_s, sN_n, sN_2, sS_1, sS_2, sS_s, sS_n, upd_s, upd_e, upd_n, rAt, rPut, rAdd, rSwap, rPush, rNumber, cp_0, cp_1, cp_2, cp_3, cp_4, cp_5, cp_6, cp_7, cp_8, cp_9, cp_10, cp_11, cp_12, cp_13, cp_14, cp_15, cp_16, cp_17, cp_18, cp_19, cp_20, cp_21, cp_22, cp_23, cp_24, cp_25, cp_26, cp_27, cp_28, cp_29, cp_30, cp_31, cp_32, cp_33, cp_34, cp_35, cp_36, cp_37, cp_38, cp_39, cp_40, cp_41, cp_42, cp_43, cp_44, cp_45, cp_46, cp_47, cp_48, cp_49, cp_50, cp_51, cp_52, cp_53, cp_54, cp_55, cp_56, cp_57, n1]
    · rintro q i _ hi ⟨y, rfl, h⟩
      obtain ⟨g1, g2, g3, g4⟩ := g i hi
      have sb := tb01 s (RfA (u.1 0) i)
      have ext : (∀ r, r < i + 1 → rcond (u.1 0) n p s r) ↔ (∀ r, r < i → rcond (u.1 0) n p s r) ∧ rcond (u.1 0) n p s i := by
        constructor
        · intro z; exact ⟨fun r hr => z r (by omega), z i (by omega)⟩
        · rintro ⟨z1, z2⟩ r hr
          by_cases c : r = i
          · rw [c]; exact z2
          · exact z1 r (by omega)
      rcases h with ⟨rfl, h1, h2⟩ | ⟨rfl, h⟩
      · by_cases c1 : RfB (u.1 0) i = p
        · by_cases c2 : RfA (u.1 0) i < n
          · by_cases c3 : s.testBit (RfA (u.1 0) i) = true
            · rw [if_pos c3] at sb
              refine .inr ⟨nI 1, ?_, 1, rfl, .inl ⟨rfl, h1, ext.mpr ⟨h2, fun _ _ => c3⟩⟩⟩
              simp (disch := omega) only [f_X12_mayCome_L18, ↓nmk_e, ↓reduceIte, Option.bind_some, Option.map_some, lit, ofN, nI_add, pk_sub, pk_mul, nI_clamp, nI_leI, nI_ltI, nI_eq, pk_div, nI_an, nleT, nleF, nltT, nltF, neqT, neqF, or_false, false_or, or_self, or_true, true_or, and_self, and_true, true_and, and_false, false_and, not_true_eq_false, not_false_eq_true, f_X12_isSort, f_X12_isDay, f_X11_isSort, f_X11_isDay, inI, inP, f_X5_size, f_X5_isFull, f_X11_now, f_X2_isKind, f_X2_has, f_X3_has, f_X8_hasPage, f_X8_hasAllPages, f_X8_stands, f_X1_isPrinted, f_X1_rule, f_X9_has, f_X9_isFull, f_X12_isPage, f_X12_isVerse, sC_s, sC_n, sC_2, sN_1, sN_s, sN_n, sN_2, sS_1, sS_2, sS_s, sS_n, upd_s, upd_e, upd_n, rAt, rPut, rAdd, rSwap, rPush, rNumber, cp_0, cp_1, cp_2, cp_3, cp_4, cp_5, cp_6, cp_7, cp_8, cp_9, cp_10, cp_11, cp_12, cp_13, cp_14, cp_15, cp_16, cp_17, cp_18, cp_19, cp_20, cp_21, cp_22, cp_23, cp_24, cp_25, cp_26, cp_27, cp_28, cp_29, cp_30, cp_31, cp_32, cp_33, cp_34, cp_35, cp_36, cp_37, cp_38, cp_39, cp_40, cp_41, cp_42, cp_43, cp_44, cp_45, cp_46, cp_47, cp_48, cp_49, cp_50, cp_51, cp_52, cp_53, cp_54, cp_55, cp_56, cp_57, n1, g1, g3, sbit, sb]
            · rw [if_neg c3] at sb
              refine .inr ⟨nI 0, ?_, 0, rfl, .inr ⟨rfl, fun z => c3 (z.2 i (by omega) c1 c2)⟩⟩
              simp (disch := omega) only [f_X12_mayCome_L18, ↓nmk_e, ↓reduceIte, Option.bind_some, Option.map_some, lit, ofN, nI_add, pk_sub, pk_mul, nI_clamp, nI_leI, nI_ltI, nI_eq, pk_div, nI_an, nleT, nleF, nltT, nltF, neqT, neqF, or_false, false_or, or_self, or_true, true_or, and_self, and_true, true_and, and_false, false_and, not_true_eq_false, not_false_eq_true, f_X12_isSort, f_X12_isDay, f_X11_isSort, f_X11_isDay, inI, inP, f_X5_size, f_X5_isFull, f_X11_now, f_X2_isKind, f_X2_has, f_X3_has, f_X8_hasPage, f_X8_hasAllPages, f_X8_stands, f_X1_isPrinted, f_X1_rule, f_X9_has, f_X9_isFull, f_X12_isPage, f_X12_isVerse, sC_s, sC_n, sC_2, sN_1, sN_s, sN_n, sN_2, sS_1, sS_2, sS_s, sS_n, upd_s, upd_e, upd_n, rAt, rPut, rAdd, rSwap, rPush, rNumber, cp_0, cp_1, cp_2, cp_3, cp_4, cp_5, cp_6, cp_7, cp_8, cp_9, cp_10, cp_11, cp_12, cp_13, cp_14, cp_15, cp_16, cp_17, cp_18, cp_19, cp_20, cp_21, cp_22, cp_23, cp_24, cp_25, cp_26, cp_27, cp_28, cp_29, cp_30, cp_31, cp_32, cp_33, cp_34, cp_35, cp_36, cp_37, cp_38, cp_39, cp_40, cp_41, cp_42, cp_43, cp_44, cp_45, cp_46, cp_47, cp_48, cp_49, cp_50, cp_51, cp_52, cp_53, cp_54, cp_55, cp_56, cp_57, n1, g1, g3, sbit, sb]
          · refine .inr ⟨nI 1, ?_, 1, rfl, .inl ⟨rfl, h1, ext.mpr ⟨h2, fun _ z => absurd z c2⟩⟩⟩
            simp (disch := omega) only [f_X12_mayCome_L18, ↓nmk_e, ↓reduceIte, Option.bind_some, Option.map_some, lit, ofN, nI_add, pk_sub, pk_mul, nI_clamp, nI_leI, nI_ltI, nI_eq, pk_div, nI_an, nleT, nleF, nltT, nltF, neqT, neqF, or_false, false_or, or_self, or_true, true_or, and_self, and_true, true_and, and_false, false_and, not_true_eq_false, not_false_eq_true, f_X12_isSort, f_X12_isDay, f_X11_isSort, f_X11_isDay, inI, inP, f_X5_size, f_X5_isFull, f_X11_now, f_X2_isKind, f_X2_has, f_X3_has, f_X8_hasPage, f_X8_hasAllPages, f_X8_stands, f_X1_isPrinted, f_X1_rule, f_X9_has, f_X9_isFull, f_X12_isPage, f_X12_isVerse, sC_s, sC_n, sC_2, sN_1, sN_s, sN_n, sN_2, sS_1, sS_2, sS_s, sS_n, upd_s, upd_e, upd_n, rAt, rPut, rAdd, rSwap, rPush, rNumber, cp_0, cp_1, cp_2, cp_3, cp_4, cp_5, cp_6, cp_7, cp_8, cp_9, cp_10, cp_11, cp_12, cp_13, cp_14, cp_15, cp_16, cp_17, cp_18, cp_19, cp_20, cp_21, cp_22, cp_23, cp_24, cp_25, cp_26, cp_27, cp_28, cp_29, cp_30, cp_31, cp_32, cp_33, cp_34, cp_35, cp_36, cp_37, cp_38, cp_39, cp_40, cp_41, cp_42, cp_43, cp_44, cp_45, cp_46, cp_47, cp_48, cp_49, cp_50, cp_51, cp_52, cp_53, cp_54, cp_55, cp_56, cp_57, n1, g1, g3]
        · refine .inr ⟨nI 1, ?_, 1, rfl, .inl ⟨rfl, h1, ext.mpr ⟨h2, fun z => absurd z c1⟩⟩⟩
          simp (disch := omega) only [f_X12_mayCome_L18, ↓nmk_e, ↓reduceIte, Option.bind_some, Option.map_some, lit, ofN, nI_add, pk_sub, pk_mul, nI_clamp, nI_leI, nI_ltI, nI_eq, pk_div, nI_an, nleT, nleF, nltT, nltF, neqT, neqF, or_false, false_or, or_self, or_true, true_or, and_self, and_true, true_and, and_false, false_and, not_true_eq_false, not_false_eq_true, f_X12_isSort, f_X12_isDay, f_X11_isSort, f_X11_isDay, inI, inP, f_X5_size, f_X5_isFull, f_X11_now, f_X2_isKind, f_X2_has, f_X3_has, f_X8_hasPage, f_X8_hasAllPages, f_X8_stands, f_X1_isPrinted, f_X1_rule, f_X9_has, f_X9_isFull, f_X12_isPage, f_X12_isVerse, sC_s, sC_n, sC_2, sN_1, sN_s, sN_n, sN_2, sS_1, sS_2, sS_s, sS_n, upd_s, upd_e, upd_n, rAt, rPut, rAdd, rSwap, rPush, rNumber, cp_0, cp_1, cp_2, cp_3, cp_4, cp_5, cp_6, cp_7, cp_8, cp_9, cp_10, cp_11, cp_12, cp_13, cp_14, cp_15, cp_16, cp_17, cp_18, cp_19, cp_20, cp_21, cp_22, cp_23, cp_24, cp_25, cp_26, cp_27, cp_28, cp_29, cp_30, cp_31, cp_32, cp_33, cp_34, cp_35, cp_36, cp_37, cp_38, cp_39, cp_40, cp_41, cp_42, cp_43, cp_44, cp_45, cp_46, cp_47, cp_48, cp_49, cp_50, cp_51, cp_52, cp_53, cp_54, cp_55, cp_56, cp_57, n1, g1, g3]
      · refine .inr ⟨nI 0, ?_, 0, rfl, .inr ⟨rfl, fun z => h ⟨z.1, (ext.mp z.2).1⟩⟩⟩
        by_cases c1 : RfB (u.1 0) i = p
        · by_cases c2 : RfA (u.1 0) i < n <;> simp (disch := omega) only [f_X12_mayCome_L18, ↓nmk_e, ↓reduceIte, Option.bind_some, Option.map_some, lit, ofN, nI_add, pk_sub, pk_mul, nI_clamp, nI_leI, nI_ltI, nI_eq, pk_div, nI_an, nleT, nleF, nltT, nltF, neqT, neqF, or_false, false_or, or_self, or_true, true_or, and_self, and_true, true_and, and_false, false_and, not_true_eq_false, not_false_eq_true, f_X12_isSort, f_X12_isDay, f_X11_isSort, f_X11_isDay, inI, inP, f_X5_size, f_X5_isFull, f_X11_now, f_X2_isKind, f_X2_has, f_X3_has, f_X8_hasPage, f_X8_hasAllPages, f_X8_stands, f_X1_isPrinted, f_X1_rule, f_X9_has, f_X9_isFull, f_X12_isPage, f_X12_isVerse, sC_s, sC_n, sC_2, sN_1, sN_s, sN_n, sN_2, sS_1, sS_2, sS_s, sS_n, upd_s, upd_e, upd_n, rAt, rPut, rAdd, rSwap, rPush, rNumber, cp_0, cp_1, cp_2, cp_3, cp_4, cp_5, cp_6, cp_7, cp_8, cp_9, cp_10, cp_11, cp_12, cp_13, cp_14, cp_15, cp_16, cp_17, cp_18, cp_19, cp_20, cp_21, cp_22, cp_23, cp_24, cp_25, cp_26, cp_27, cp_28, cp_29, cp_30, cp_31, cp_32, cp_33, cp_34, cp_35, cp_36, cp_37, cp_38, cp_39, cp_40, cp_41, cp_42, cp_43, cp_44, cp_45, cp_46, cp_47, cp_48, cp_49, cp_50, cp_51, cp_52, cp_53, cp_54, cp_55, cp_56, cp_57, n1, g1, g3]
        · simp (disch := omega) only [f_X12_mayCome_L18, ↓nmk_e, ↓reduceIte, Option.bind_some, Option.map_some, lit, ofN, nI_add, pk_sub, pk_mul, nI_clamp, nI_leI, nI_ltI, nI_eq, pk_div, nI_an, nleT, nleF, nltT, nltF, neqT, neqF, or_false, false_or, or_self, or_true, true_or, and_self, and_true, true_and, and_false, false_and, not_true_eq_false, not_false_eq_true, f_X12_isSort, f_X12_isDay, f_X11_isSort, f_X11_isDay, inI, inP, f_X5_size, f_X5_isFull, f_X11_now, f_X2_isKind, f_X2_has, f_X3_has, f_X8_hasPage, f_X8_hasAllPages, f_X8_stands, f_X1_isPrinted, f_X1_rule, f_X9_has, f_X9_isFull, f_X12_isPage, f_X12_isVerse, sC_s, sC_n, sC_2, sN_1, sN_s, sN_n, sN_2, sS_1, sS_2, sS_s, sS_n, upd_s, upd_e, upd_n, rAt, rPut, rAdd, rSwap, rPush, rNumber, cp_0, cp_1, cp_2, cp_3, cp_4, cp_5, cp_6, cp_7, cp_8, cp_9, cp_10, cp_11, cp_12, cp_13, cp_14, cp_15, cp_16, cp_17, cp_18, cp_19, cp_20, cp_21, cp_22, cp_23, cp_24, cp_25, cp_26, cp_27, cp_28, cp_29, cp_30, cp_31, cp_32, cp_33, cp_34, cp_35, cp_36, cp_37, cp_38, cp_39, cp_40, cp_41, cp_42, cp_43, cp_44, cp_45, cp_46, cp_47, cp_48, cp_49, cp_50, cp_51, cp_52, cp_53, cp_54, cp_55, cp_56, cp_57, n1, g1, g3]
    · by_cases c : s.testBit p = false
      · exact .inl ⟨by rw [hx0, if_pos c], c, fun r hr => absurd hr (Nat.not_lt_zero r)⟩
      · exact .inr ⟨by rw [hx0, if_neg c], fun z => c z.1⟩
  have sb := tb01 s p
  by_cases c : s.testBit p = true
  · rw [if_pos c] at sb
    have k := key 0 (by rw [c]; rfl)
    simp (disch := omega) only [↓nmk_e, ↓reduceIte, Option.bind_some, Option.map_some, lit, ofN, nI_add, pk_sub, pk_mul, nI_clamp, nI_leI, nI_ltI, nI_eq, pk_div, nI_an, nleT, nleF, nltT, nltF, neqT, neqF, or_false, false_or, or_self, or_true, true_or, and_self, and_true, true_and, and_false, false_and, not_true_eq_false, not_false_eq_true, sbit, sb, k]
  · rw [if_neg c] at sb
    have k := key 1 (by rw [if_pos (Bool.eq_false_iff.mpr c)])
    simp (disch := omega) only [↓nmk_e, ↓reduceIte, Option.bind_some, Option.map_some, lit, ofN, nI_add, pk_sub, pk_mul, nI_clamp, nI_leI, nI_ltI, nI_eq, pk_div, nI_an, nleT, nleF, nltT, nltF, neqT, neqF, or_false, false_or, or_self, or_true, true_or, and_self, and_true, true_and, and_false, false_and, not_true_eq_false, not_false_eq_true, sbit, sb, k]
/-- the reference's table -/
def Tab (n : Nat) (u : CW) (k : Nat) : Prop := ∀ s, k ≤ s → s < 2 ^ n → u.1 16 s = nI (tN (u.1 16 s)) ∧ isB (mcb (u.1 0) n) n (fun t => tN (u.1 16 t)) s ∧ tN (u.1 16 s) ≤ fac (co n s)
theorem fac10 : fac 10 = 3628800 := by decide
theorem Tab_le {n k s : Nat} {u : CW} (hn : n ≤ 10) (h : Tab n u k) (h1 : k ≤ s) (h2 : s < 2 ^ n) : tN (u.1 16 s) ≤ 3628800 := by
  have a := (h s h1 h2).2.2
  have b := co_le n s
  have c := fac_mono (a := co n s) (b := 10) (by omega)
  rw [fac10] at c
  omega
theorem pow10 {n : Nat} (hn : n ≤ 10) : 2 ^ n ≤ 1024 := Nat.pow_le_pow_right (by decide) hn
theorem l_tabI {u : CW} (R : RRow (u.1 0)) {n s x0 : Nat} (hn : n ≤ 10) (hs : s < 2 ^ n) (hx : u.1 16 s = nI x0) (hx0 : x0 ≤ 1) (hT : ∀ t, s < t → t < 2 ^ n → u.1 16 t = nI (tN (u.1 16 t)) ∧ tN (u.1 16 t) ≤ 3628800) : ∃ w', (∀ j, f_X12_runs_L70 (nI n) (nI s) j FU (nI 0) u = j w') ∧ (∀ k, k ≠ 16 → w'.1 k = u.1 k) ∧ w'.2 = u.2 ∧ (∀ t, t ≠ s → w'.1 16 t = u.1 16 t) ∧ w'.1 16 s = nI (x0 + sg (fun p => if mcb (u.1 0) n p s = true then tN (u.1 16 (s ||| 2 ^ p)) else 0) n) := by
  have hp := pow10 hn
  refine run1 (fun q i x => fun j => f_X12_runs_L70 (nI n) (nI s) j q i x) (fun i x => (∀ k, k ≠ 16 → x.1 k = u.1 k) ∧ x.2 = u.2 ∧ (∀ t, t ≠ s → x.1 16 t = u.1 16 t) ∧ x.1 16 s = nI (x0 + sg (fun p => if mcb (u.1 0) n p s = true then tN (u.1 16 (s ||| 2 ^ p)) else 0) i)) n (fun y => ∃ w', (∀ j, y j = j w') ∧ (∀ k, k ≠ 16 → w'.1 k = u.1 k) ∧ w'.2 = u.2 ∧ (∀ t, t ≠ s → w'.1 16 t = u.1 16 t) ∧ w'.1 16 s = nI (x0 + sg (fun p => if mcb (u.1 0) n p s = true then tN (u.1 16 (s ||| 2 ^ p)) else 0) n)) ?_ ?_ FU 0 u (Nat.zero_le _) (by unfold FU; omega) ⟨fun _ _ => rfl, rfl, fun _ _ => rfl, hx⟩
  · rintro q x ⟨h1, h2, h3, h4⟩
    refine ⟨x, fun j => ?_, h1, h2, h3, h4⟩
    simp (disch := omega) only [f_X12_runs_L70, ↓nmk_e, ↓reduceIte, Option.bind_some, Option.map_some, lit, ofN, nI_add, pk_sub, pk_mul, nI_clamp, nI_leI, nI_ltI, nI_eq, pk_div, nI_an, nleT, nleF, nltT, nltF, neqT, neqF, or_false, false_or, or_self, or_true, true_or, and_self, and_true, true_and, and_false, false_and, not_true_eq_false, not_false_eq_true, f_X12_isSort, f_X12_isDay, f_X11_isSort, f_X11_isDay, inI, inP, f_X5_size, f_X5_isFull, f_X11_now, f_X2_isKind, f_X2_has, f_X3_has, f_X8_hasPage, f_X8_hasAllPages, f_X8_stands, f_X1_isPrinted, f_X1_rule, f_X9_has, f_X9_isFull, f_X12_isPage, f_X12_isVerse, sC_s, sC_n, sC_2, sN_1, sN_s, sN_n, sN_2, sS_1, sS_2, sS_s, sS_n, upd_s, upd_e, upd_n, rAt, rPut, rAdd, rSwap, rPush, rNumber, cp_0, cp_1, cp_2, cp_3, cp_4, cp_5, cp_6, cp_7, cp_8, cp_9, cp_10, cp_11, cp_12, cp_13, cp_14, cp_15, cp_16, cp_17, cp_18, cp_19, cp_20, cp_21, cp_22, cp_23, cp_24, cp_25, cp_26, cp_27, cp_28, cp_29, cp_30, cp_31, cp_32, cp_33, cp_34, cp_35, cp_36, cp_37, cp_38, cp_39, cp_40, cp_41, cp_42, cp_43, cp_44, cp_45, cp_46, cp_47, cp_48, cp_49, cp_50, cp_51, cp_52, cp_53, cp_54, cp_55, cp_56, cp_57]
  · rintro q i x hi ⟨h1, h2, h3, h4⟩
    have e0 : x.1 0 = u.1 0 := h1 0 (by decide)
    have hm := l_may (u := x) (by rw [e0]; exact R) (n := n) (p := i) (s := s) hn (by omega) (by omega)
    rw [e0] at hm
    by_cases c : mcb (u.1 0) n i s = true
    · have hb := mcb_1 i s c
      have hgt := or_gt hb
      have hlt := or_lt hs hi
      have ho : nI s ||| (nI 1 <<< (nI i &&& nI 31)) = nI (s ||| 2 ^ i) := or1 (by omega)
      obtain ⟨t1, t2⟩ := hT _ hgt hlt
      rw [if_pos c] at hm
      have e1 : x.1 16 (s ||| 2 ^ i) = nI (tN (u.1 16 (s ||| 2 ^ i))) := by rw [h3 _ (by omega)]; exact t1
      refine .inr ⟨sC x 16 s (nI (x0 + sg (fun p => if mcb (u.1 0) n p s = true then tN (u.1 16 (s ||| 2 ^ p)) else 0) i + tN (u.1 16 (s ||| 2 ^ i)))), funext fun j => ?_, fun k hk => ?_, h2, fun t ht => ?_, ?_⟩
      · simp (disch := omega) only [f_X12_runs_L70, ↓nmk_e, ↓reduceIte, Option.bind_some, Option.map_some, lit, ofN, nI_add, pk_sub, pk_mul, nI_clamp, nI_leI, nI_ltI, nI_eq, pk_div, nI_an, nleT, nleF, nltT, nltF, neqT, neqF, or_false, false_or, or_self, or_true, true_or, and_self, and_true, true_and, and_false, false_and, not_true_eq_false, not_false_eq_true, f_X12_isSort, f_X12_isDay, f_X11_isSort, f_X11_isDay, inI, inP, f_X5_size, f_X5_isFull, f_X11_now, f_X2_isKind, f_X2_has, f_X3_has, f_X8_hasPage, f_X8_hasAllPages, f_X8_stands, f_X1_isPrinted, f_X1_rule, f_X9_has, f_X9_isFull, f_X12_isPage, f_X12_isVerse, sC_s, sC_n, sC_2, sN_1, sN_s, sN_n, sN_2, sS_1, sS_2, sS_s, sS_n, upd_s, upd_e, upd_n, rAt, rPut, rAdd, rSwap, rPush, rNumber, cp_0, cp_1, cp_2, cp_3, cp_4, cp_5, cp_6, cp_7, cp_8, cp_9, cp_10, cp_11, cp_12, cp_13, cp_14, cp_15, cp_16, cp_17, cp_18, cp_19, cp_20, cp_21, cp_22, cp_23, cp_24, cp_25, cp_26, cp_27, cp_28, cp_29, cp_30, cp_31, cp_32, cp_33, cp_34, cp_35, cp_36, cp_37, cp_38, cp_39, cp_40, cp_41, cp_42, cp_43, cp_44, cp_45, cp_46, cp_47, cp_48, cp_49, cp_50, cp_51, cp_52, cp_53, cp_54, cp_55, cp_56, cp_57, hm, ho, e1, h4]
      · simp (disch := omega) only [sC_s, sC_n, sC_2, sN_1, sN_s, sN_n, sN_2, sS_1, sS_2, sS_s, sS_n, upd_s, upd_e, upd_n]; exact h1 k hk
      · simp (disch := omega) only [sC_s, sC_n, sC_2, sN_1, sN_s, sN_n, sN_2, sS_1, sS_2, sS_s, sS_n, upd_s, upd_e, upd_n]; exact h3 t ht
      · simp (disch := omega) only [sC_s, sC_n, sC_2, sN_1, sN_s, sN_n, sN_2, sS_1, sS_2, sS_s, sS_n, upd_s, upd_e, upd_n]
        show _ = nI (x0 + (sg _ i + if mcb (u.1 0) n i s = true then tN (u.1 16 (s ||| 2 ^ i)) else 0))
        rw [if_pos c, Nat.add_assoc]
    · rw [if_neg c] at hm
      refine .inr ⟨sC x 16 s (nI (x0 + sg (fun p => if mcb (u.1 0) n p s = true then tN (u.1 16 (s ||| 2 ^ p)) else 0) i + 0)), funext fun j => ?_, fun k hk => ?_, h2, fun t ht => ?_, ?_⟩
      · simp (disch := omega) only [f_X12_runs_L70, ↓nmk_e, ↓reduceIte, Option.bind_some, Option.map_some, lit, ofN, nI_add, pk_sub, pk_mul, nI_clamp, nI_leI, nI_ltI, nI_eq, pk_div, nI_an, nleT, nleF, nltT, nltF, neqT, neqF, or_false, false_or, or_self, or_true, true_or, and_self, and_true, true_and, and_false, false_and, not_true_eq_false, not_false_eq_true, f_X12_isSort, f_X12_isDay, f_X11_isSort, f_X11_isDay, inI, inP, f_X5_size, f_X5_isFull, f_X11_now, f_X2_isKind, f_X2_has, f_X3_has, f_X8_hasPage, f_X8_hasAllPages, f_X8_stands, f_X1_isPrinted, f_X1_rule, f_X9_has, f_X9_isFull, f_X12_isPage, f_X12_isVerse, sC_s, sC_n, sC_2, sN_1, sN_s, sN_n, sN_2, sS_1, sS_2, sS_s, sS_n, upd_s, upd_e, upd_n, rAt, rPut, rAdd, rSwap, rPush, rNumber, cp_0, cp_1, cp_2, cp_3, cp_4, cp_5, cp_6, cp_7, cp_8, cp_9, cp_10, cp_11, cp_12, cp_13, cp_14, cp_15, cp_16, cp_17, cp_18, cp_19, cp_20, cp_21, cp_22, cp_23, cp_24, cp_25, cp_26, cp_27, cp_28, cp_29, cp_30, cp_31, cp_32, cp_33, cp_34, cp_35, cp_36, cp_37, cp_38, cp_39, cp_40, cp_41, cp_42, cp_43, cp_44, cp_45, cp_46, cp_47, cp_48, cp_49, cp_50, cp_51, cp_52, cp_53, cp_54, cp_55, cp_56, cp_57, hm, h4]
      · simp (disch := omega) only [sC_s, sC_n, sC_2, sN_1, sN_s, sN_n, sN_2, sS_1, sS_2, sS_s, sS_n, upd_s, upd_e, upd_n]; exact h1 k hk
      · simp (disch := omega) only [sC_s, sC_n, sC_2, sN_1, sN_s, sN_n, sN_2, sS_1, sS_2, sS_s, sS_n, upd_s, upd_e, upd_n]; exact h3 t ht
      · simp (disch := omega) only [sC_s, sC_n, sC_2, sN_1, sN_s, sN_n, sN_2, sS_1, sS_2, sS_s, sS_n, upd_s, upd_e, upd_n]
        show _ = nI (x0 + (sg _ i + if mcb (u.1 0) n i s = true then tN (u.1 16 (s ||| 2 ^ i)) else 0))
        rw [if_neg c, Nat.add_assoc]
theorem l_tab {u : CW} (R : RRow (u.1 0)) {n : Nat} (hn : n ≤ 10) (h1n : 1 ≤ n) : ∃ w', (∀ j, f_X12_runs_L44 (nI n) (nI (2 ^ n - 1)) j FU (nI (2 ^ n - 1)) u = j w') ∧ (∀ k, k ≠ 16 → w'.1 k = u.1 k) ∧ w'.2 = u.2 ∧ Tab n w' 0 := by
  have hp := pow10 hn
  have hpos : 0 < 2 ^ n := Nat.two_pow_pos n
  have hd : dn (2 ^ n) = nI (2 ^ n - 1) := by
    obtain ⟨k, hk⟩ : ∃ k, 2 ^ n = k + 1 := ⟨2 ^ n - 1, by omega⟩
    rw [hk]; rfl
  rw [← hd]
  rw [hd]
  have key := run1d (fun q i x => fun j => f_X12_runs_L44 (nI n) (nI (2 ^ n - 1)) j q i x) (fun k x => k ≤ 2 ^ n ∧ (∀ k, k ≠ 16 → x.1 k = u.1 k) ∧ x.2 = u.2 ∧ Tab n x k) (fun y => ∃ w', (∀ j, y j = j w') ∧ (∀ k, k ≠ 16 → w'.1 k = u.1 k) ∧ w'.2 = u.2 ∧ Tab n w' 0) ?_ ?_ FU (2 ^ n) u (by unfold FU; omega) ⟨Nat.le_refl _, fun _ _ => rfl, rfl, fun s h1 h2 => by omega⟩
  · rw [hd] at key; exact key
  · rintro q x ⟨-, h1, h2, h3⟩
    refine ⟨x, fun j => ?_, h1, h2, h3⟩
    simp (disch := omega) only [f_X12_runs_L44, ↓nmk_e, ↓reduceIte, Option.bind_some, Option.map_some, lit, ofN, nI_add, pk_sub, pk_mul, nI_clamp, nI_leI, nI_ltI, nI_eq, pk_div, nI_an, nleT, nleF, nltT, nltF, neqT, neqF, or_false, false_or, or_self, or_true, true_or, and_self, and_true, true_and, and_false, false_and, not_true_eq_false, not_false_eq_true, f_X12_isSort, f_X12_isDay, f_X11_isSort, f_X11_isDay, inI, inP, f_X5_size, f_X5_isFull, f_X11_now, f_X2_isKind, f_X2_has, f_X3_has, f_X8_hasPage, f_X8_hasAllPages, f_X8_stands, f_X1_isPrinted, f_X1_rule, f_X9_has, f_X9_isFull, f_X12_isPage, f_X12_isVerse, sC_s, sC_n, sC_2, sN_1, sN_s, sN_n, sN_2, sS_1, sS_2, sS_s, sS_n, upd_s, upd_e, upd_n, rAt, rPut, rAdd, rSwap, rPush, rNumber, cp_0, cp_1, cp_2, cp_3, cp_4, cp_5, cp_6, cp_7, cp_8, cp_9, cp_10, cp_11, cp_12, cp_13, cp_14, cp_15, cp_16, cp_17, cp_18, cp_19, cp_20, cp_21, cp_22, cp_23, cp_24, cp_25, cp_26, cp_27, cp_28, cp_29, cp_30, cp_31, cp_32, cp_33, cp_34, cp_35, cp_36, cp_37, cp_38, cp_39, cp_40, cp_41, cp_42, cp_43, cp_44, cp_45, cp_46, cp_47, cp_48, cp_49, cp_50, cp_51, cp_52, cp_53, cp_54, cp_55, cp_56, cp_57, mlt]
  · rintro q s x ⟨hk, h1, h2, h3⟩
    have e0 : x.1 0 = u.1 0 := h1 0 (by decide)
    obtain ⟨x0, hx0, hx1⟩ : ∃ x0, x0 = (if s = 2 ^ n - 1 then 1 else 0) ∧ x0 ≤ 1 := ⟨_, rfl, by split <;> omega⟩
    obtain ⟨w', a1, a2, a3, a4, a5⟩ := l_tabI (u := sC x 16 s (nI x0)) (by simp (disch := omega) only [sC_s, sC_n, sC_2, sN_1, sN_s, sN_n, sN_2, sS_1, sS_2, sS_s, sS_n, upd_s, upd_e, upd_n]; rw [e0]; exact R) (n := n) (s := s) (x0 := x0) hn (by omega) (by simp (disch := omega) only [sC_s, sC_n, sC_2, sN_1, sN_s, sN_n, sN_2, sS_1, sS_2, sS_s, sS_n, upd_s, upd_e, upd_n]) hx1 (fun t ht1 ht2 => by
      simp (disch := omega) only [sC_s, sC_n, sC_2, sN_1, sN_s, sN_n, sN_2, sS_1, sS_2, sS_s, sS_n, upd_s, upd_e, upd_n]
      exact ⟨(h3 t (by omega) ht2).1, Tab_le hn h3 (by omega) ht2⟩)
    have b1 : w'.1 0 = x.1 0 := by rw [a2 0 (by decide)]; simp (disch := omega) only [sC_s, sC_n, sC_2, sN_1, sN_s, sN_n, sN_2, sS_1, sS_2, sS_s, sS_n, upd_s, upd_e, upd_n]
    have b2 : ∀ t, t ≠ s → w'.1 16 t = x.1 16 t := fun t ht => by rw [a4 t ht]; simp (disch := omega) only [sC_s, sC_n, sC_2, sN_1, sN_s, sN_n, sN_2, sS_1, sS_2, sS_s, sS_n, upd_s, upd_e, upd_n]
    simp (disch := omega) only [sC_s, sC_n, sC_2, sN_1, sN_s, sN_n, sN_2, sS_1, sS_2, sS_s, sS_n, upd_s, upd_e, upd_n] at a5
    have b3 : ∀ p, mcb (x.1 0) n p s = true → w'.1 16 (s ||| 2 ^ p) = x.1 16 (s ||| 2 ^ p) := fun p hp => b2 _ (by have := or_gt (mcb_1 p s hp); omega)
    have b4 : sg (fun p => if mcb (x.1 0) n p s = true then tN (upd (x.1 16) s (nI x0) (s ||| 2 ^ p)) else 0) n = sg (fun p => if mcb (x.1 0) n p s = true then tN (w'.1 16 (s ||| 2 ^ p)) else 0) n := sg_congr n fun p _ => by
      show (if _ then _ else _) = (if _ then _ else _)
      by_cases c : mcb (x.1 0) n p s = true
      · rw [if_pos c, if_pos c, b3 p c, upd_n _ _ (by have := or_gt (mcb_1 p s c); omega)]
      · rw [if_neg c, if_neg c]
    rw [b4] at a5
    have b5 : sg (fun p => if mcb (x.1 0) n p s = true then tN (w'.1 16 (s ||| 2 ^ p)) else 0) n ≤ n * 3628800 := sg_le n fun p hp => by
      show (if _ then _ else _) ≤ _
      by_cases c : mcb (x.1 0) n p s = true
      · rw [if_pos c, b3 p c]
        exact Tab_le hn h3 (by have := or_gt (mcb_1 p s c); omega) (or_lt (by omega) hp)
      · rw [if_neg c]; exact Nat.zero_le _
    have b6 : tN (w'.1 16 s) = x0 + sg (fun p => if mcb (x.1 0) n p s = true then tN (w'.1 16 (s ||| 2 ^ p)) else 0) n := by
      rw [a5]; exact nI_clamp (by omega)
    have b7 : isB (mcb (w'.1 0) n) n (fun t => tN (w'.1 16 t)) s := by
      show tN (w'.1 16 s) = _
      rw [b6, b1, hx0]
    have b8 : Tab n w' s := by
      have old : ∀ t, s < t → t < 2 ^ n → w'.1 16 t = nI (tN (w'.1 16 t)) ∧ isB (mcb (w'.1 0) n) n (fun t => tN (w'.1 16 t)) t ∧ tN (w'.1 16 t) ≤ fac (co n t) := fun t ht1 ht2 => by
        obtain ⟨c1, c2, c3⟩ := h3 t (by omega) ht2
        rw [b2 t (by omega)]
        refine ⟨c1, ?_, c3⟩
        unfold isB at c2 ⊢
        rw [b1]
        show tN (w'.1 16 t) = _
        have c2 : tN (x.1 16 t) = _ := c2
        rw [b2 t (by omega), c2]
        congr 1
        refine sg_congr n fun p _ => ?_
        show (if _ then _ else _) = (if _ then _ else _)
        by_cases c : mcb (x.1 0) n p t = true
        · rw [if_pos c, if_pos c]
          show tN (x.1 16 (t ||| 2 ^ p)) = tN (w'.1 16 (t ||| 2 ^ p))
          rw [b2 _ (by have := or_gt (mcb_1 p t c); omega)]
        · rw [if_neg c, if_neg c]
      intro t ht1 ht2
      by_cases c : t = s
      · subst c
        refine ⟨?_, b7, B_fac (B := fun t => tN (w'.1 16 t)) mcb_1 ht2 b7 (fun r hr1 hr2 => (old r hr1 hr2).2.2)⟩
        rw [b6]; exact a5
      · exact old t (by omega) ht2
    refine .inr ⟨w', funext fun j => ?_, by omega, fun k hk => ?_, ?_, b8⟩
    · by_cases c : s = 2 ^ n - 1
      · rw [if_pos c] at hx0; subst hx0
        simp (disch := omega) only [f_X12_runs_L44, ↓nmk_e, ↓reduceIte, Option.bind_some, Option.map_some, lit, ofN, nI_add, pk_sub, pk_mul, nI_clamp, nI_leI, nI_ltI, nI_eq, pk_div, nI_an, nleT, nleF, nltT, nltF, neqT, neqF, or_false, false_or, or_self, or_true, true_or, and_self, and_true, true_and, and_false, false_and, not_true_eq_false, not_false_eq_true, f_X12_isSort, f_X12_isDay, f_X11_isSort, f_X11_isDay, inI, inP, f_X5_size, f_X5_isFull, f_X11_now, f_X2_isKind, f_X2_has, f_X3_has, f_X8_hasPage, f_X8_hasAllPages, f_X8_stands, f_X1_isPrinted, f_X1_rule, f_X9_has, f_X9_isFull, f_X12_isPage, f_X12_isVerse, sC_s, sC_n, sC_2, sN_1, sN_s, sN_n, sN_2, sS_1, sS_2, sS_s, sS_n, upd_s, upd_e, upd_n, rAt, rPut, rAdd, rSwap, rPush, rNumber, cp_0, cp_1, cp_2, cp_3, cp_4, cp_5, cp_6, cp_7, cp_8, cp_9, cp_10, cp_11, cp_12, cp_13, cp_14, cp_15, cp_16, cp_17, cp_18, cp_19, cp_20, cp_21, cp_22, cp_23, cp_24, cp_25, cp_26, cp_27, cp_28, cp_29, cp_30, cp_31, cp_32, cp_33, cp_34, cp_35, cp_36, cp_37, cp_38, cp_39, cp_40, cp_41, cp_42, cp_43, cp_44, cp_45, cp_46, cp_47, cp_48, cp_49, cp_50, cp_51, cp_52, cp_53, cp_54, cp_55, cp_56, cp_57, a1, dn_s]
      · rw [if_neg c] at hx0; subst hx0
        simp (disch := omega) only [f_X12_runs_L44, ↓nmk_e, ↓reduceIte, Option.bind_some, Option.map_some, lit, ofN, nI_add, pk_sub, pk_mul, nI_clamp, nI_leI, nI_ltI, nI_eq, pk_div, nI_an, nleT, nleF, nltT, nltF, neqT, neqF, or_false, false_or, or_self, or_true, true_or, and_self, and_true, true_and, and_false, false_and, not_true_eq_false, not_false_eq_true, f_X12_isSort, f_X12_isDay, f_X11_isSort, f_X11_isDay, inI, inP, f_X5_size, f_X5_isFull, f_X11_now, f_X2_isKind, f_X2_has, f_X3_has, f_X8_hasPage, f_X8_hasAllPages, f_X8_stands, f_X1_isPrinted, f_X1_rule, f_X9_has, f_X9_isFull, f_X12_isPage, f_X12_isVerse, sC_s, sC_n, sC_2, sN_1, sN_s, sN_n, sN_2, sS_1, sS_2, sS_s, sS_n, upd_s, upd_e, upd_n, rAt, rPut, rAdd, rSwap, rPush, rNumber, cp_0, cp_1, cp_2, cp_3, cp_4, cp_5, cp_6, cp_7, cp_8, cp_9, cp_10, cp_11, cp_12, cp_13, cp_14, cp_15, cp_16, cp_17, cp_18, cp_19, cp_20, cp_21, cp_22, cp_23, cp_24, cp_25, cp_26, cp_27, cp_28, cp_29, cp_30, cp_31, cp_32, cp_33, cp_34, cp_35, cp_36, cp_37, cp_38, cp_39, cp_40, cp_41, cp_42, cp_43, cp_44, cp_45, cp_46, cp_47, cp_48, cp_49, cp_50, cp_51, cp_52, cp_53, cp_54, cp_55, cp_56, cp_57, a1, dn_s]
    · rw [a2 k hk]
      simp (disch := omega) only [sC_s, sC_n, sC_2, sN_1, sN_s, sN_n, sN_2, sS_1, sS_2, sS_s, sS_n, upd_s, upd_e, upd_n]
      exact h1 k hk
    · rw [a3]; exact h2
