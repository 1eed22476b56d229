/-! who is alike -/
theorem orr_bit (f : Nat → Nat) : ∀ n i, (orr f n).testBit i = true ↔ ∃ b, b < n ∧ (f b).testBit i = true := by
  intro n
  induction n with
  | zero => intro i; show (0 : Nat).testBit i = true ↔ _; rw [Nat.zero_testBit]; exact ⟨(fun z => absurd z (by decide)), fun ⟨b, h, _⟩ => absurd h (Nat.not_lt_zero b)⟩
  | succ n ih =>
    intro i
    show (orr f n ||| f n).testBit i = true ↔ _
    rw [Nat.testBit_or, Bool.or_eq_true, ih]
    constructor
    · rintro (⟨b, h1, h2⟩ | h)
      · exact ⟨b, by omega, h2⟩
      · exact ⟨n, by omega, h⟩
    · rintro ⟨b, h1, h2⟩
      by_cases c : b = n
      · subst c; exact .inr h2
      · exact .inl ⟨b, by omega, h2⟩
theorem orr_lt {f : Nat → Nat} {N : Nat} : ∀ n, (∀ b, b < n → f b < 2 ^ N) → orr f n < 2 ^ N := by
  intro n
  induction n with
  | zero => intro _; exact Nat.two_pow_pos N
  | succ n ih => intro h; exact Nat.or_lt_two_pow (ih (fun b hb => h b (by omega))) (h n (by omega))
/-- figures of a page of hands -/
def Alk (hb : Nat → Nat) (d n a : Nat) : Nat := orr (fun b => if Dst (hb a) (hb b) ≤ d then 2 ^ b else 0) n
theorem Alk_bit {hb : Nat → Nat} {d n a b : Nat} : (Alk hb d n a).testBit b = true ↔ b < n ∧ Dst (hb a) (hb b) ≤ d := by
  unfold Alk
  rw [orr_bit]
  constructor
  · rintro ⟨c, h1, h2⟩
    have h2 : (if Dst (hb a) (hb c) ≤ d then 2 ^ c else 0).testBit b = true := h2
    by_cases z : Dst (hb a) (hb c) ≤ d
    · rw [if_pos z, Nat.testBit_two_pow] at h2
      have := of_decide_eq_true h2
      subst this
      exact ⟨h1, z⟩
    · rw [if_neg z, Nat.zero_testBit] at h2; cases h2
  · rintro ⟨h1, h2⟩
    refine ⟨b, h1, ?_⟩
    show (if Dst (hb a) (hb b) ≤ d then 2 ^ b else 0).testBit b = true
    rw [if_pos h2, Nat.testBit_two_pow]; exact decide_eq_true rfl
theorem Alk_lt (hb : Nat → Nat) (d n a : Nat) : Alk hb d n a < 2 ^ n := orr_lt n fun b h => by
  show (if _ then _ else _) < _
  split
  · exact Nat.pow_lt_pow_right (by decide) h
  · exact Nat.two_pow_pos n
theorem Alk_r (hb : Nat → Nat) (d n : Nat) : ∀ a, a < n → (Alk hb d n a).testBit a = true := fun a h => Alk_bit.mpr ⟨h, by rw [Dst_0]; exact Nat.zero_le _⟩
theorem Alk_s (hb : Nat → Nat) (d n : Nat) : ∀ a b, a < n → (Alk hb d n a).testBit b = true → (Alk hb d n b).testBit a = true := fun a b ha h => Alk_bit.mpr ⟨ha, by rw [Dst_s]; exact (Alk_bit.mp h).2⟩
/-- one more in a set that is all alike -/
theorem cq_add {hb : Nat → Nat} {d n g i : Nat} (hi : i < n) (hg : g < 2 ^ n) (h : cqB (Alk hb d n) n g = true) : cqB (Alk hb d n) n (g ||| 2 ^ i) = true ↔ ∀ b, g.testBit b = true → (Alk hb d n i).testBit b = true := by
  have hbit : ∀ b, g.testBit b = true → b < n := fun b z => by
    refine Nat.not_le.mp fun y => ?_
    rw [Nat.testBit_lt_two_pow (Nat.lt_of_lt_of_le hg (Nat.pow_le_pow_right (by decide) y))] at z
    cases z
  rw [cqB_iff] at h ⊢
  constructor
  · intro z b hbb
    exact z i hi (by rw [or_bit, decide_eq_true rfl, Bool.or_true]) b (hbit b hbb) (by rw [or_bit, hbb]; rfl)
  · intro z a ha h1 b hbb h2
    rw [or_bit, Bool.or_eq_true, decide_eq_true_iff] at h1 h2
    rcases h1 with h1 | rfl
    · rcases h2 with h2 | rfl
      · exact h a ha h1 b hbb h2
      · exact Alk_s hb d n _ _ hi (z a h1)
    · rcases h2 with h2 | rfl
      · exact z b h2
      · exact Alk_r hb d n _ hi
/-- the rows of hands -/
def HRow (w v : CW) (n : Nat) (hb : Nat → Nat) : Prop := n ≤ 10 ∧ w.2.1 28 = nI n ∧ v.1 0 7 = nI n ∧ ∀ j, j < n → w.1 28 j = nI (hb j) ∧ v.1 0 (3090 + j) = nI (hb j) ∧ hb j < 10000
theorem HRow_of {w v : CW} (h : Sim w v) : ∃ n hb, HRow w v n hb := by
  obtain ⟨n, hn, n1, n2, g⟩ := h.g10
  refine ⟨n, fun j => tN (v.1 0 (3090 + j)), hn, n1, n2, fun j hj => ?_⟩
  obtain ⟨g1, g2⟩ := g j hj
  obtain ⟨e1, e2⟩ := bdt (by decide) g2
  exact ⟨g1.trans e1, e1, by show tN (v.1 0 (3090 + j)) < _; omega⟩
theorem l_prtI {w : CW} {n d a : Nat} {hb : Nat → Nat} (hn : n ≤ 10) (n1 : w.2.1 28 = nI n) (g : ∀ j, j < n → w.1 28 j = nI (hb j) ∧ hb j < 10000) (ha : a < n) (hd : d ≤ 36) (j : Int32 → Option CW) : f_X1_findPartners_L18 (nI d) (nI a) w j FU (nI 0) (nI 0) = j (nI (Alk hb d n a)) := by
  refine run1 (fun q i x => f_X1_findPartners_L18 (nI d) (nI a) w j q x i) (fun i x => x = nI (orr (fun b => if Dst (hb a) (hb b) ≤ d then 2 ^ b else 0) i)) n (fun y => y = j (nI (Alk hb d n a))) ?_ ?_ FU 0 (nI 0) (Nat.zero_le _) (by unfold FU; omega) rfl
  · rintro q x rfl
    simp (disch := omega) only [f_X1_findPartners_L18, ↓nmk_e, ↓reduceIte, Option.bind_some, Option.map_some, lit, ofN, nI_add, pk_sub, pk_mul, nI_clamp, nI_leI, nI_ltI, nI_eq, pk_div, nI_an, nleT, nleF, nltT, nltF, neqT, neqF, or_false, false_or, or_self, or_true, true_or, and_self, and_true, true_and, and_false, false_and, not_true_eq_false, not_false_eq_true, f_X12_isSort, f_X12_isDay, f_X11_isSort, f_X11_isDay, inI, inP, f_X5_size, f_X5_isFull, f_X11_now, f_X2_isKind, f_X2_has, f_X3_has, f_X8_hasPage, f_X8_hasAllPages, f_X8_stands, f_X1_isPrinted, f_X1_rule, f_X9_has, f_X9_isFull, f_X12_isPage, f_X12_isVerse, sC_s, sC_n, sC_2, sN_1, sN_s, sN_n, sN_2, sS_1, sS_2, sS_s, sS_n, upd_s, upd_e, upd_n, rAt, rPut, rAdd, rSwap, rPush, rNumber, cp_0, cp_1, cp_2, cp_3, cp_4, cp_5, cp_6, cp_7, cp_8, cp_9, cp_10, cp_11, cp_12, cp_13, cp_14, cp_15, cp_16, cp_17, cp_18, cp_19, cp_20, cp_21, cp_22, cp_23, cp_24, cp_25, cp_26, cp_27, cp_28, cp_29, cp_30, cp_31, cp_32, cp_33, cp_34, cp_35, cp_36, cp_37, cp_38, cp_39, cp_40, cp_41, cp_42, cp_43, cp_44, cp_45, cp_46, cp_47, cp_48, cp_49, cp_50, cp_51, cp_52, cp_53, cp_54, cp_55, cp_56, cp_57, n1]
    rfl
  · rintro q i x hi rfl
    obtain ⟨g1, g2⟩ := g a ha
    obtain ⟨g3, g4⟩ := g i hi
    have hD := l_dstC g2 g4
    have hDl := Dst_le (hb a) (hb i)
    have hs := shl1 (p := i) (by omega)
    refine .inr ⟨_, ?_, rfl⟩
    show _ = f_X1_findPartners_L18 (nI d) (nI a) w j q (nI (orr _ i ||| if Dst (hb a) (hb i) ≤ d then 2 ^ i else 0)) _
    have ho : ∀ x y, nI x ||| nI y = nI (x ||| y) := nI_or
    by_cases c : Dst (hb a) (hb i) ≤ d
    · rw [if_pos c]
      simp (disch := omega) only [f_X1_findPartners_L18, ↓nmk_e, ↓reduceIte, Option.bind_some, Option.map_some, lit, ofN, nI_add, pk_sub, pk_mul, nI_clamp, nI_leI, nI_ltI, nI_eq, pk_div, nI_an, nleT, nleF, nltT, nltF, neqT, neqF, or_false, false_or, or_self, or_true, true_or, and_self, and_true, true_and, and_false, false_and, not_true_eq_false, not_false_eq_true, f_X12_isSort, f_X12_isDay, f_X11_isSort, f_X11_isDay, inI, inP, f_X5_size, f_X5_isFull, f_X11_now, f_X2_isKind, f_X2_has, f_X3_has, f_X8_hasPage, f_X8_hasAllPages, f_X8_stands, f_X1_isPrinted, f_X1_rule, f_X9_has, f_X9_isFull, f_X12_isPage, f_X12_isVerse, sC_s, sC_n, sC_2, sN_1, sN_s, sN_n, sN_2, sS_1, sS_2, sS_s, sS_n, upd_s, upd_e, upd_n, rAt, rPut, rAdd, rSwap, rPush, rNumber, cp_0, cp_1, cp_2, cp_3, cp_4, cp_5, cp_6, cp_7, cp_8, cp_9, cp_10, cp_11, cp_12, cp_13, cp_14, cp_15, cp_16, cp_17, cp_18, cp_19, cp_20, cp_21, cp_22, cp_23, cp_24, cp_25, cp_26, cp_27, cp_28, cp_29, cp_30, cp_31, cp_32, cp_33, cp_34, cp_35, cp_36, cp_37, cp_38, cp_39, cp_40, cp_41, cp_42, cp_43, cp_44, cp_45, cp_46, cp_47, cp_48, cp_49, cp_50, cp_51, cp_52, cp_53, cp_54, cp_55, cp_56, cp_57, n1, g1, g3, hD, hs, ho]
    · rw [if_neg c]
      simp (disch := omega) only [f_X1_findPartners_L18, ↓nmk_e, ↓reduceIte, Option.bind_some, Option.map_some, lit, ofN, nI_add, pk_sub, pk_mul, nI_clamp, nI_leI, nI_ltI, nI_eq, pk_div, nI_an, nleT, nleF, nltT, nltF, neqT, neqF, or_false, false_or, or_self, or_true, true_or, and_self, and_true, true_and, and_false, false_and, not_true_eq_false, not_false_eq_true, f_X12_isSort, f_X12_isDay, f_X11_isSort, f_X11_isDay, inI, inP, f_X5_size, f_X5_isFull, f_X11_now, f_X2_isKind, f_X2_has, f_X3_has, f_X8_hasPage, f_X8_hasAllPages, f_X8_stands, f_X1_isPrinted, f_X1_rule, f_X9_has, f_X9_isFull, f_X12_isPage, f_X12_isVerse, sC_s, sC_n, sC_2, sN_1, sN_s, sN_n, sN_2, sS_1, sS_2, sS_s, sS_n, upd_s, upd_e, upd_n, rAt, rPut, rAdd, rSwap, rPush, rNumber, cp_0, cp_1, cp_2, cp_3, cp_4, cp_5, cp_6, cp_7, cp_8, cp_9, cp_10, cp_11, cp_12, cp_13, cp_14, cp_15, cp_16, cp_17, cp_18, cp_19, cp_20, cp_21, cp_22, cp_23, cp_24, cp_25, cp_26, cp_27, cp_28, cp_29, cp_30, cp_31, cp_32, cp_33, cp_34, cp_35, cp_36, cp_37, cp_38, cp_39, cp_40, cp_41, cp_42, cp_43, cp_44, cp_45, cp_46, cp_47, cp_48, cp_49, cp_50, cp_51, cp_52, cp_53, cp_54, cp_55, cp_56, cp_57, n1, g1, g3, hD, hs, ho]
theorem l_prt {w : CW} {n d : Nat} {hb : Nat → Nat} (hn : n ≤ 10) (n1 : w.2.1 28 = nI n) (g : ∀ j, j < n → w.1 28 j = nI (hb j) ∧ hb j < 10000) (hd : d ≤ 36) : ∃ w', f_X1_findPartners w (nI d) = some w' ∧ (∀ k, k ≠ 53 → w'.1 k = w.1 k) ∧ w'.2 = w.2 ∧ ∀ a, a < n → w'.1 53 a = nI (Alk hb d n a) := by
  unfold f_X1_findPartners
  refine run1 (fun q i x => f_X1_findPartners_L2 (nI d) q i x) (fun i x => (∀ k, k ≠ 53 → x.1 k = w.1 k) ∧ x.2 = w.2 ∧ ∀ a, a < i → x.1 53 a = nI (Alk hb d n a)) n (fun y => ∃ w', y = some w' ∧ (∀ k, k ≠ 53 → w'.1 k = w.1 k) ∧ w'.2 = w.2 ∧ ∀ a, a < n → w'.1 53 a = nI (Alk hb d n a)) ?_ ?_ FU 0 w (Nat.zero_le _) (by unfold FU; omega) ⟨fun _ _ => rfl, rfl, fun a ha => absurd ha (Nat.not_lt_zero a)⟩
  · rintro q x ⟨h1, h2, h3⟩
    have n1' : x.2.1 28 = nI n := by rw [h2]; exact n1
    refine ⟨x, ?_, h1, h2, h3⟩
    simp (disch := omega) only [f_X1_findPartners_L2, ↓nmk_e, ↓reduceIte, Option.bind_some, Option.map_some, lit, ofN, nI_add, pk_sub, pk_mul, nI_clamp, nI_leI, nI_ltI, nI_eq, pk_div, nI_an, nleT, nleF, nltT, nltF, neqT, neqF, or_false, false_or, or_self, or_true, true_or, and_self, and_true, true_and, and_false, false_and, not_true_eq_false, not_false_eq_true, f_X12_isSort, f_X12_isDay, f_X11_isSort, f_X11_isDay, inI, inP, f_X5_size, f_X5_isFull, f_X11_now, f_X2_isKind, f_X2_has, f_X3_has, f_X8_hasPage, f_X8_hasAllPages, f_X8_stands, f_X1_isPrinted, f_X1_rule, f_X9_has, f_X9_isFull, f_X12_isPage, f_X12_isVerse, sC_s, sC_n, sC_2, sN_1, sN_s, sN_n, sN_2, sS_1, sS_2, sS_s, sS_n, upd_s, upd_e, upd_n, rAt, rPut, rAdd, rSwap, rPush, rNumber, cp_0, cp_1, cp_2, cp_3, cp_4, cp_5, cp_6, cp_7, cp_8, cp_9, cp_10, cp_11, cp_12, cp_13, cp_14, cp_15, cp_16, cp_17, cp_18, cp_19, cp_20, cp_21, cp_22, cp_23, cp_24, cp_25, cp_26, cp_27, cp_28, cp_29, cp_30, cp_31, cp_32, cp_33, cp_34, cp_35, cp_36, cp_37, cp_38, cp_39, cp_40, cp_41, cp_42, cp_43, cp_44, cp_45, cp_46, cp_47, cp_48, cp_49, cp_50, cp_51, cp_52, cp_53, cp_54, cp_55, cp_56, cp_57, n1']
  · rintro q i x hi ⟨h1, h2, h3⟩
    have n1' : x.2.1 28 = nI n := by rw [h2]; exact n1
    have hI := fun j => l_prtI (w := x) hn n1' (fun j hj => by rw [h1 28 (by decide)]; exact g j hj) hi hd j
    refine .inr ⟨sC x 53 i (nI (Alk hb d n i)), ?_, fun k hk => ?_, h2, fun a ha => ?_⟩
    · simp (disch := omega) only [f_X1_findPartners_L2, ↓nmk_e, ↓reduceIte, Option.bind_some, Option.map_some, lit, ofN, nI_add, pk_sub, pk_mul, nI_clamp, nI_leI, nI_ltI, nI_eq, pk_div, nI_an, nleT, nleF, nltT, nltF, neqT, neqF, or_false, false_or, or_self, or_true, true_or, and_self, and_true, true_and, and_false, false_and, not_true_eq_false, not_false_eq_true, f_X12_isSort, f_X12_isDay, f_X11_isSort, f_X11_isDay, inI, inP, f_X5_size, f_X5_isFull, f_X11_now, f_X2_isKind, f_X2_has, f_X3_has, f_X8_hasPage, f_X8_hasAllPages, f_X8_stands, f_X1_isPrinted, f_X1_rule, f_X9_has, f_X9_isFull, f_X12_isPage, f_X12_isVerse, sC_s, sC_n, sC_2, sN_1, sN_s, sN_n, sN_2, sS_1, sS_2, sS_s, sS_n, upd_s, upd_e, upd_n, rAt, rPut, rAdd, rSwap, rPush, rNumber, cp_0, cp_1, cp_2, cp_3, cp_4, cp_5, cp_6, cp_7, cp_8, cp_9, cp_10, cp_11, cp_12, cp_13, cp_14, cp_15, cp_16, cp_17, cp_18, cp_19, cp_20, cp_21, cp_22, cp_23, cp_24, cp_25, cp_26, cp_27, cp_28, cp_29, cp_30, cp_31, cp_32, cp_33, cp_34, cp_35, cp_36, cp_37, cp_38, cp_39, cp_40, cp_41, cp_42, cp_43, cp_44, cp_45, cp_46, cp_47, cp_48, cp_49, cp_50, cp_51, cp_52, cp_53, cp_54, cp_55, cp_56, cp_57, n1', hI]
    · simp (disch := omega) only [sC_s, sC_n, sC_2, sN_1, sN_s, sN_n, sN_2, sS_1, sS_2, sS_s, sS_n, upd_s, upd_e, upd_n]; exact h1 k hk
    · by_cases c : a = i
      · subst c; simp (disch := omega) only [sC_s, sC_n, sC_2, sN_1, sN_s, sN_n, sN_2, sS_1, sS_2, sS_s, sS_n, upd_s, upd_e, upd_n]
      · simp (disch := omega) only [sC_s, sC_n, sC_2, sN_1, sN_s, sN_n, sN_2, sS_1, sS_2, sS_s, sS_n, upd_s, upd_e, upd_n]; exact h3 a (by omega)
theorem l_alkI {w : CW} {n d a : Nat} {hb : Nat → Nat} (hn : n ≤ 10) (n1 : w.1 0 7 = nI n) (g : ∀ j, j < n → w.1 0 (3090 + j) = nI (hb j) ∧ hb j < 10000) (ha : a < n) (hd : d ≤ 36) (h0 : w.1 14 a = nI 0) : ∃ w', (∀ j, f_X12_rival_L47 (nI d) (nI a) j FU (nI 0) w = j w') ∧ (∀ k, k ≠ 14 → w'.1 k = w.1 k) ∧ w'.2 = w.2 ∧ (∀ t, t ≠ a → w'.1 14 t = w.1 14 t) ∧ w'.1 14 a = nI (Alk hb d n a) := by
  refine run1 (fun q i x => fun j => f_X12_rival_L47 (nI d) (nI a) j q i x) (fun i x => (∀ k, k ≠ 14 → x.1 k = w.1 k) ∧ x.2 = w.2 ∧ (∀ t, t ≠ a → x.1 14 t = w.1 14 t) ∧ x.1 14 a = nI (orr (fun b => if Dst (hb a) (hb b) ≤ d then 2 ^ b else 0) i)) n (fun y => ∃ w', (∀ j, y j = j w') ∧ (∀ k, k ≠ 14 → w'.1 k = w.1 k) ∧ w'.2 = w.2 ∧ (∀ t, t ≠ a → w'.1 14 t = w.1 14 t) ∧ w'.1 14 a = nI (Alk hb d n a)) ?_ ?_ FU 0 w (Nat.zero_le _) (by unfold FU; omega) ⟨fun _ _ => rfl, rfl, fun _ _ => rfl, h0⟩
  · rintro q x ⟨h1, h2, h3, h4⟩
    have n1' : x.1 0 7 = nI n := by rw [h1 0 (by decide)]; exact n1
    refine ⟨x, fun j => ?_, h1, h2, h3, h4⟩
    simp (disch := omega) only [f_X12_rival_L47, ↓nmk_e, ↓reduceIte, Option.bind_some, Option.map_some, lit, ofN, nI_add, pk_sub, pk_mul, nI_clamp, nI_leI, nI_ltI, nI_eq, pk_div, nI_an, nleT, nleF, nltT, nltF, neqT, neqF, or_false, false_or, or_self, or_true, true_or, and_self, and_true, true_and, and_false, false_and, not_true_eq_false, not_false_eq_true, f_X12_isSort, f_X12_isDay, f_X11_isSort, f_X11_isDay, inI, inP, f_X5_size, f_X5_isFull, f_X11_now, f_X2_isKind, f_X2_has, f_X3_has, f_X8_hasPage, f_X8_hasAllPages, f_X8_stands, f_X1_isPrinted, f_X1_rule, f_X9_has, f_X9_isFull, f_X12_isPage, f_X12_isVerse, sC_s, sC_n, sC_2, sN_1, sN_s, sN_n, sN_2, sS_1, sS_2, sS_s, sS_n, upd_s, upd_e, upd_n, rAt, rPut, rAdd, rSwap, rPush, rNumber, cp_0, cp_1, cp_2, cp_3, cp_4, cp_5, cp_6, cp_7, cp_8, cp_9, cp_10, cp_11, cp_12, cp_13, cp_14, cp_15, cp_16, cp_17, cp_18, cp_19, cp_20, cp_21, cp_22, cp_23, cp_24, cp_25, cp_26, cp_27, cp_28, cp_29, cp_30, cp_31, cp_32, cp_33, cp_34, cp_35, cp_36, cp_37, cp_38, cp_39, cp_40, cp_41, cp_42, cp_43, cp_44, cp_45, cp_46, cp_47, cp_48, cp_49, cp_50, cp_51, cp_52, cp_53, cp_54, cp_55, cp_56, cp_57, n1']
  · rintro q i x hi ⟨h1, h2, h3, h4⟩
    have n1' : x.1 0 7 = nI n := by rw [h1 0 (by decide)]; exact n1
    obtain ⟨g1, g2⟩ := g a ha
    obtain ⟨g3, g4⟩ := g i hi
    rw [← h1 0 (by decide)] at g1 g3
    have hD := l_dstR g2 g4
    have hDl := Dst_le (hb a) (hb i)
    have hs := shl1 (p := i) (by omega)
    have ho : ∀ x y, nI x ||| nI y = nI (x ||| y) := nI_or
    refine .inr ⟨sC x 14 a (nI (orr (fun b => if Dst (hb a) (hb b) ≤ d then 2 ^ b else 0) i ||| if Dst (hb a) (hb i) ≤ d then 2 ^ i else 0)), funext fun j => ?_, fun k hk => ?_, h2, fun t ht => ?_, ?_⟩
    · by_cases c : Dst (hb a) (hb i) ≤ d
      · rw [if_pos c]
        simp (disch := omega) only [f_X12_rival_L47, ↓nmk_e, ↓reduceIte, Option.bind_some, Option.map_some, lit, ofN, nI_add, pk_sub, pk_mul, nI_clamp, nI_leI, nI_ltI, nI_eq, pk_div, nI_an, nleT, nleF, nltT, nltF, neqT, neqF, or_false, false_or, or_self, or_true, true_or, and_self, and_true, true_and, and_false, false_and, not_true_eq_false, not_false_eq_true, f_X12_isSort, f_X12_isDay, f_X11_isSort, f_X11_isDay, inI, inP, f_X5_size, f_X5_isFull, f_X11_now, f_X2_isKind, f_X2_has, f_X3_has, f_X8_hasPage, f_X8_hasAllPages, f_X8_stands, f_X1_isPrinted, f_X1_rule, f_X9_has, f_X9_isFull, f_X12_isPage, f_X12_isVerse, sC_s, sC_n, sC_2, sN_1, sN_s, sN_n, sN_2, sS_1, sS_2, sS_s, sS_n, upd_s, upd_e, upd_n, rAt, rPut, rAdd, rSwap, rPush, rNumber, cp_0, cp_1, cp_2, cp_3, cp_4, cp_5, cp_6, cp_7, cp_8, cp_9, cp_10, cp_11, cp_12, cp_13, cp_14, cp_15, cp_16, cp_17, cp_18, cp_19, cp_20, cp_21, cp_22, cp_23, cp_24, cp_25, cp_26, cp_27, cp_28, cp_29, cp_30, cp_31, cp_32, cp_33, cp_34, cp_35, cp_36, cp_37, cp_38, cp_39, cp_40, cp_41, cp_42, cp_43, cp_44, cp_45, cp_46, cp_47, cp_48, cp_49, cp_50, cp_51, cp_52, cp_53, cp_54, cp_55, cp_56, cp_57, n1', g1, g3, hD, hs, ho, h4]
      · rw [if_neg c]
        simp (disch := omega) only [f_X12_rival_L47, ↓nmk_e, ↓reduceIte, Option.bind_some, Option.map_some, lit, ofN, nI_add, pk_sub, pk_mul, nI_clamp, nI_leI, nI_ltI, nI_eq, pk_div, nI_an, nleT, nleF, nltT, nltF, neqT, neqF, or_false, false_or, or_self, or_true, true_or, and_self, and_true, true_and, and_false, false_and, not_true_eq_false, not_false_eq_true, f_X12_isSort, f_X12_isDay, f_X11_isSort, f_X11_isDay, inI, inP, f_X5_size, f_X5_isFull, f_X11_now, f_X2_isKind, f_X2_has, f_X3_has, f_X8_hasPage, f_X8_hasAllPages, f_X8_stands, f_X1_isPrinted, f_X1_rule, f_X9_has, f_X9_isFull, f_X12_isPage, f_X12_isVerse, sC_s, sC_n, sC_2, sN_1, sN_s, sN_n, sN_2, sS_1, sS_2, sS_s, sS_n, upd_s, upd_e, upd_n, rAt, rPut, rAdd, rSwap, rPush, rNumber, cp_0, cp_1, cp_2, cp_3, cp_4, cp_5, cp_6, cp_7, cp_8, cp_9, cp_10, cp_11, cp_12, cp_13, cp_14, cp_15, cp_16, cp_17, cp_18, cp_19, cp_20, cp_21, cp_22, cp_23, cp_24, cp_25, cp_26, cp_27, cp_28, cp_29, cp_30, cp_31, cp_32, cp_33, cp_34, cp_35, cp_36, cp_37, cp_38, cp_39, cp_40, cp_41, cp_42, cp_43, cp_44, cp_45, cp_46, cp_47, cp_48, cp_49, cp_50, cp_51, cp_52, cp_53, cp_54, cp_55, cp_56, cp_57, n1', g1, g3, hD, hs, ho, h4]
    · simp (disch := omega) only [sC_s, sC_n, sC_2, sN_1, sN_s, sN_n, sN_2, sS_1, sS_2, sS_s, sS_n, upd_s, upd_e, upd_n]; exact h1 k hk
    · simp (disch := omega) only [sC_s, sC_n, sC_2, sN_1, sN_s, sN_n, sN_2, sS_1, sS_2, sS_s, sS_n, upd_s, upd_e, upd_n]; exact h3 t ht
    · simp (disch := omega) only [sC_s, sC_n, sC_2, sN_1, sN_s, sN_n, sN_2, sS_1, sS_2, sS_s, sS_n, upd_s, upd_e, upd_n]; rfl
theorem l_alk {w : CW} {n d : Nat} {hb : Nat → Nat} (hn : n ≤ 10) (n1 : w.1 0 7 = nI n) (g : ∀ j, j < n → w.1 0 (3090 + j) = nI (hb j) ∧ hb j < 10000) (hd : d ≤ 36) : ∃ w', (∀ j, f_X12_rival_L26 (nI d) j FU (nI 0) w = j w') ∧ (∀ k, k ≠ 14 → w'.1 k = w.1 k) ∧ w'.2 = w.2 ∧ ∀ a, a < n → w'.1 14 a = nI (Alk hb d n a) := by
  refine run1 (fun q i x => fun j => f_X12_rival_L26 (nI d) j q i x) (fun i x => (∀ k, k ≠ 14 → x.1 k = w.1 k) ∧ x.2 = w.2 ∧ ∀ a, a < i → x.1 14 a = nI (Alk hb d n a)) n (fun y => ∃ w', (∀ j, y j = j w') ∧ (∀ k, k ≠ 14 → w'.1 k = w.1 k) ∧ w'.2 = w.2 ∧ ∀ a, a < n → w'.1 14 a = nI (Alk hb d n a)) ?_ ?_ FU 0 w (Nat.zero_le _) (by unfold FU; omega) ⟨fun _ _ => rfl, rfl, fun a ha => absurd ha (Nat.not_lt_zero a)⟩
  · rintro q x ⟨h1, h2, h3⟩
    have n1' : x.1 0 7 = nI n := by rw [h1 0 (by decide)]; exact n1
    refine ⟨x, fun j => ?_, h1, h2, h3⟩
    simp (disch := omega) only [f_X12_rival_L26, ↓nmk_e, ↓reduceIte, Option.bind_some, Option.map_some, lit, ofN, nI_add, pk_sub, pk_mul, nI_clamp, nI_leI, nI_ltI, nI_eq, pk_div, nI_an, nleT, nleF, nltT, nltF, neqT, neqF, or_false, false_or, or_self, or_true, true_or, and_self, and_true, true_and, and_false, false_and, not_true_eq_false, not_false_eq_true, f_X12_isSort, f_X12_isDay, f_X11_isSort, f_X11_isDay, inI, inP, f_X5_size, f_X5_isFull, f_X11_now, f_X2_isKind, f_X2_has, f_X3_has, f_X8_hasPage, f_X8_hasAllPages, f_X8_stands, f_X1_isPrinted, f_X1_rule, f_X9_has, f_X9_isFull, f_X12_isPage, f_X12_isVerse, sC_s, sC_n, sC_2, sN_1, sN_s, sN_n, sN_2, sS_1, sS_2, sS_s, sS_n, upd_s, upd_e, upd_n, rAt, rPut, rAdd, rSwap, rPush, rNumber, cp_0, cp_1, cp_2, cp_3, cp_4, cp_5, cp_6, cp_7, cp_8, cp_9, cp_10, cp_11, cp_12, cp_13, cp_14, cp_15, cp_16, cp_17, cp_18, cp_19, cp_20, cp_21, cp_22, cp_23, cp_24, cp_25, cp_26, cp_27, cp_28, cp_29, cp_30, cp_31, cp_32, cp_33, cp_34, cp_35, cp_36, cp_37, cp_38, cp_39, cp_40, cp_41, cp_42, cp_43, cp_44, cp_45, cp_46, cp_47, cp_48, cp_49, cp_50, cp_51, cp_52, cp_53, cp_54, cp_55, cp_56, cp_57, n1']
  · rintro q i x hi ⟨h1, h2, h3⟩
    have n1' : x.1 0 7 = nI n := by rw [h1 0 (by decide)]; exact n1
    obtain ⟨w', b1, b2, b3, b4, b5⟩ := l_alkI (w := sC x 14 i (nI 0)) (d := d) (a := i) hn (by simp (disch := omega) only [sC_s, sC_n, sC_2, sN_1, sN_s, sN_n, sN_2, sS_1, sS_2, sS_s, sS_n, upd_s, upd_e, upd_n]; exact n1') (fun j hj => by simp (disch := omega) only [sC_s, sC_n, sC_2, sN_1, sN_s, sN_n, sN_2, sS_1, sS_2, sS_s, sS_n, upd_s, upd_e, upd_n]; rw [h1 0 (by decide)]; exact g j hj) hi hd (by simp (disch := omega) only [sC_s, sC_n, sC_2, sN_1, sN_s, sN_n, sN_2, sS_1, sS_2, sS_s, sS_n, upd_s, upd_e, upd_n])
    refine .inr ⟨w', funext fun j => ?_, fun k hk => ?_, ?_, fun a ha => ?_⟩
    · simp (disch := omega) only [f_X12_rival_L26, ↓nmk_e, ↓reduceIte, Option.bind_some, Option.map_some, lit, ofN, nI_add, pk_sub, pk_mul, nI_clamp, nI_leI, nI_ltI, nI_eq, pk_div, nI_an, nleT, nleF, nltT, nltF, neqT, neqF, or_false, false_or, or_self, or_true, true_or, and_self, and_true, true_and, and_false, false_and, not_true_eq_false, not_false_eq_true, f_X12_isSort, f_X12_isDay, f_X11_isSort, f_X11_isDay, inI, inP, f_X5_size, f_X5_isFull, f_X11_now, f_X2_isKind, f_X2_has, f_X3_has, f_X8_hasPage, f_X8_hasAllPages, f_X8_stands, f_X1_isPrinted, f_X1_rule, f_X9_has, f_X9_isFull, f_X12_isPage, f_X12_isVerse, sC_s, sC_n, sC_2, sN_1, sN_s, sN_n, sN_2, sS_1, sS_2, sS_s, sS_n, upd_s, upd_e, upd_n, rAt, rPut, rAdd, rSwap, rPush, rNumber, cp_0, cp_1, cp_2, cp_3, cp_4, cp_5, cp_6, cp_7, cp_8, cp_9, cp_10, cp_11, cp_12, cp_13, cp_14, cp_15, cp_16, cp_17, cp_18, cp_19, cp_20, cp_21, cp_22, cp_23, cp_24, cp_25, cp_26, cp_27, cp_28, cp_29, cp_30, cp_31, cp_32, cp_33, cp_34, cp_35, cp_36, cp_37, cp_38, cp_39, cp_40, cp_41, cp_42, cp_43, cp_44, cp_45, cp_46, cp_47, cp_48, cp_49, cp_50, cp_51, cp_52, cp_53, cp_54, cp_55, cp_56, cp_57, n1', b1]
    · rw [b2 k hk]; simp (disch := omega) only [sC_s, sC_n, sC_2, sN_1, sN_s, sN_n, sN_2, sS_1, sS_2, sS_s, sS_n, upd_s, upd_e, upd_n]; exact h1 k hk
    · rw [b3]; exact h2
    · by_cases c : a = i
      · subst c; exact b5
      · rw [b4 a c]; simp (disch := omega) only [sC_s, sC_n, sC_2, sN_1, sN_s, sN_n, sN_2, sS_1, sS_2, sS_s, sS_n, upd_s, upd_e, upd_n]; exact h3 a (by omega)
