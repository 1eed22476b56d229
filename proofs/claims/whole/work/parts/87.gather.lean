/-! whole ways, in their order -/
def wayN (s : Nat → Int32) (a : Nat) : Nat := tN (s (1330 + a))
def wayF (s : Nat → Int32) (a : Nat) (A : CA) : CA := wayA s a (wayN s a) A
def dyF (s : Nat → Int32) (a : Nat) : Nat := tN (s (230 + a))
/-- a way as the reference has it -/
def okW (s : Nat → Int32) (a : Nat) : Prop := s (1330 + a) = nI (wayN s a) ∧ wayN s a ≤ 8 ∧ ∀ k, k < wayN s a → okC s (8 * a + k)
theorem wayA_f (s : Nat → Int32) (a : Nat) : ∀ k A, (wayA s a k A).2.2 ≤ A.2.2 + k := by
  intro k
  induction k with
  | zero => intro A; exact Nat.le_refl _
  | succ k ih =>
    intro A
    have h1 := ih A
    have h2 := tkA_f s (8 * a + k) (wayA s a k A)
    have h2 : (wayA s a (k + 1) A).2.2 ≤ (wayA s a k A).2.2 + 1 := h2
    generalize (wayA s a (k + 1) A).2.2 = u at *
    generalize (wayA s a k A).2.2 = t at *
    generalize A.2.2 = r at *
    omega
theorem okA.way {s : Nat → Int32} {a : Nat} : ∀ k (A : CA), okA A → (∀ j, j < k → okC s (8 * a + j)) → okA (wayA s a k A) := by
  intro k
  induction k with
  | zero => intro A h _; exact h
  | succ k ih => intro A h hc; exact (ih A h (fun j hj => hc j (by omega))).tk (hc k (by omega))
theorem l_wayC {x : CW} {s : Nat → Int32} {a : Nat} {A : CA} (h : CQ2 x A) (ha : a < 9) (hf : A.2.2 + wayN s a ≤ 72) (hn : wayN s a ≤ 8) (h5 : x.1 5 a = nI (wayN s a)) (hc : ∀ k, k < wayN s a → cClause x.1 s (8 * a + k)) : ∃ x', f_X0_take x (nI a) = some x' ∧ CQ2 x' (wayF s a A) ∧ CFr x x' := by
  unfold f_X0_take wayF
  generalize wayN s a = c at *
  refine run1 (fun q i z => f_X0_take_L2 (nI a) q i z) (fun i z => CFr x z ∧ CQ2 z (wayA s a i A)) c (fun r => ∃ x', r = some x' ∧ CQ2 x' (wayA s a c A) ∧ CFr x x') ?_ ?_ FU 0 x (Nat.zero_le _) (by unfold FU; omega) ⟨CFr.refl x, h⟩
  · rintro q z ⟨h1, h2⟩
    have e5 : z.1 5 a = nI c := by rw [h1.1 5 (by decide) (by decide) (by decide)]; exact h5
    refine ⟨z, ?_, h2, h1⟩
    simp (disch := omega) only [f_X0_take_L2, ↓nmk_e, ↓reduceIte, Option.bind_some, Option.map_some, lit, ofN, nI_add, pk_sub, pk_mul, nI_clamp, nI_leI, nI_ltI, nI_eq, pk_div, nI_an, nleT, nleF, nltT, nltF, neqT, neqF, or_false, false_or, or_self, or_true, true_or, and_self, and_true, true_and, and_false, false_and, not_true_eq_false, not_false_eq_true, f_X12_isSort, f_X12_isDay, f_X11_isSort, f_X11_isDay, inI, inP, f_X5_size, f_X5_isFull, f_X11_now, f_X2_isKind, f_X2_has, f_X3_has, f_X8_hasPage, f_X8_hasAllPages, f_X8_stands, f_X1_isPrinted, f_X1_rule, f_X9_has, f_X9_isFull, f_X12_isPage, f_X12_isVerse, sC_s, sC_n, sC_2, sN_1, sN_s, sN_n, sN_2, sS_1, sS_2, sS_s, sS_n, upd_s, upd_e, upd_n, rAt, rPut, rAdd, rSwap, rPush, rNumber, cp_0, cp_1, cp_2, cp_3, cp_4, cp_5, cp_6, cp_7, cp_8, cp_9, cp_10, cp_11, cp_12, cp_13, cp_14, cp_15, cp_16, cp_17, cp_18, cp_19, cp_20, cp_21, cp_22, cp_23, cp_24, cp_25, cp_26, cp_27, cp_28, cp_29, cp_30, cp_31, cp_32, cp_33, cp_34, cp_35, cp_36, cp_37, cp_38, cp_39, cp_40, cp_41, cp_42, cp_43, cp_44, cp_45, cp_46, cp_47, cp_48, cp_49, cp_50, cp_51, cp_52, cp_53, cp_54, cp_55, cp_56, cp_57, e5]
  · rintro q i z hi ⟨h1, h2⟩
    have e5 : z.1 5 a = nI c := by rw [h1.1 5 (by decide) (by decide) (by decide)]; exact h5
    have hcz : cClause z.1 s (8 * a + i) := by
      have := hc i hi
      unfold cClause at this ⊢
      rw [h1.1 6 (by decide) (by decide) (by decide), h1.1 7 (by decide) (by decide) (by decide), h1.1 8 (by decide) (by decide) (by decide), h1.1 9 (by decide) (by decide) (by decide)]
      exact this
    have hff := wayA_f s a i A
    obtain ⟨q1, q2⟩ := l_tkC h2 (by omega) (p := 8 * a + i) (by omega) hcz
    refine .inr ⟨f_X0_takeClause z (nI (8 * a + i)), ?_, h1.trans q2, q1⟩
    simp (disch := omega) only [f_X0_take_L2, ↓nmk_e, ↓reduceIte, Option.bind_some, Option.map_some, lit, ofN, nI_add, pk_sub, pk_mul, nI_clamp, nI_leI, nI_ltI, nI_eq, pk_div, nI_an, nleT, nleF, nltT, nltF, neqT, neqF, or_false, false_or, or_self, or_true, true_or, and_self, and_true, true_and, and_false, false_and, not_true_eq_false, not_false_eq_true, f_X12_isSort, f_X12_isDay, f_X11_isSort, f_X11_isDay, inI, inP, f_X5_size, f_X5_isFull, f_X11_now, f_X2_isKind, f_X2_has, f_X3_has, f_X8_hasPage, f_X8_hasAllPages, f_X8_stands, f_X1_isPrinted, f_X1_rule, f_X9_has, f_X9_isFull, f_X12_isPage, f_X12_isVerse, sC_s, sC_n, sC_2, sN_1, sN_s, sN_n, sN_2, sS_1, sS_2, sS_s, sS_n, upd_s, upd_e, upd_n, rAt, rPut, rAdd, rSwap, rPush, rNumber, cp_0, cp_1, cp_2, cp_3, cp_4, cp_5, cp_6, cp_7, cp_8, cp_9, cp_10, cp_11, cp_12, cp_13, cp_14, cp_15, cp_16, cp_17, cp_18, cp_19, cp_20, cp_21, cp_22, cp_23, cp_24, cp_25, cp_26, cp_27, cp_28, cp_29, cp_30, cp_31, cp_32, cp_33, cp_34, cp_35, cp_36, cp_37, cp_38, cp_39, cp_40, cp_41, cp_42, cp_43, cp_44, cp_45, cp_46, cp_47, cp_48, cp_49, cp_50, cp_51, cp_52, cp_53, cp_54, cp_55, cp_56, cp_57, e5, Nat.mul_comm a 8]
/-- feasts of one way -/
def FeW (s : Nat → Int32) (a d : Nat) : Prop := ∃ k, k < wayN s a ∧ s (1340 + (8 * a + k)) = nI 7 ∧ s (1500 + (8 * a + k)) = nI d
theorem wd7 {s : Nat → Int32} {p : Nat} (h : okC s p) : wd s p = 7 ↔ s (1340 + p) = nI 7 := by
  have := h.2.1
  rw [h.1]
  exact (nI_eq (by omega) (by decide)).symm
theorem l_wayR {y : CW} {P : Nat → Prop} {a D i : Nat} {A : CA} (h : RQ2 y A) (hF : FeR y P) (ha : a < 9) (hi : i < 9) (hf : A.2.2 + wayN (y.1 0) a ≤ 72) (hw : okW (y.1 0) a) (hd : y.1 0 (230 + a) = nI (dyF (y.1 0) a)) (hdl : dyF (y.1 0) a ≤ 999) (hD : D ≤ 999) (h2i : y.1 2 i = nI a) :
    ∃ y', (∀ j, f_X12_looks_L165 (nI D) (nI i) j FU (nI 0) y = j y') ∧ RFr y y' ∧ y'.1 2 = y.1 2 ∧ RQ2 y' (if dyF (y.1 0) a ≤ D then wayF (y.1 0) a A else A) ∧ FeR y' (fun d => P d ∨ (dyF (y.1 0) a ≤ D ∧ FeW (y.1 0) a d)) := by
  obtain ⟨w1, w2, w3⟩ := hw
  by_cases cd : dyF (y.1 0) a ≤ D
  · rw [if_pos cd]
    unfold wayF FeW
    generalize hc : wayN (y.1 0) a = c at *
    refine run1 (fun q k z => fun j => f_X12_looks_L165 (nI D) (nI i) j q k z) (fun k z => RFr y z ∧ z.1 2 = y.1 2 ∧ RQ2 z (wayA (y.1 0) a k A) ∧ FeR z (fun d => P d ∨ (dyF (y.1 0) a ≤ D ∧ ∃ t, t < k ∧ y.1 0 (1340 + (8 * a + t)) = nI 7 ∧ y.1 0 (1500 + (8 * a + t)) = nI d))) c (fun r => ∃ y', (∀ j, r j = j y') ∧ RFr y y' ∧ y'.1 2 = y.1 2 ∧ RQ2 y' (wayA (y.1 0) a c A) ∧ FeR y' (fun d => P d ∨ (dyF (y.1 0) a ≤ D ∧ ∃ t, t < c ∧ y.1 0 (1340 + (8 * a + t)) = nI 7 ∧ y.1 0 (1500 + (8 * a + t)) = nI d))) ?_ ?_ FU 0 y (Nat.zero_le _) (by unfold FU; omega) ⟨RFr.refl y, rfl, h, hF.congr fun d _ => ⟨.inl, fun z => z.elim id (fun ⟨_, t, ht, _⟩ => absurd ht (Nat.not_lt_zero t))⟩⟩
    · rintro q z ⟨h1, h2, h3, h4⟩
      have e0 : z.1 0 = y.1 0 := h1.1 0 (by decide)
      refine ⟨z, fun j => ?_, h1, h2, h3, h4⟩
      simp (disch := omega) only [f_X12_looks_L165, ↓nmk_e, ↓reduceIte, Option.bind_some, Option.map_some, lit, ofN, nI_add, pk_sub, pk_mul, nI_clamp, nI_leI, nI_ltI, nI_eq, pk_div, nI_an, nleT, nleF, nltT, nltF, neqT, neqF, or_false, false_or, or_self, or_true, true_or, and_self, and_true, true_and, and_false, false_and, not_true_eq_false, not_false_eq_true, f_X12_isSort, f_X12_isDay, f_X11_isSort, f_X11_isDay, inI, inP, f_X5_size, f_X5_isFull, f_X11_now, f_X2_isKind, f_X2_has, f_X3_has, f_X8_hasPage, f_X8_hasAllPages, f_X8_stands, f_X1_isPrinted, f_X1_rule, f_X9_has, f_X9_isFull, f_X12_isPage, f_X12_isVerse, sC_s, sC_n, sC_2, sN_1, sN_s, sN_n, sN_2, sS_1, sS_2, sS_s, sS_n, upd_s, upd_e, upd_n, rAt, rPut, rAdd, rSwap, rPush, rNumber, cp_0, cp_1, cp_2, cp_3, cp_4, cp_5, cp_6, cp_7, cp_8, cp_9, cp_10, cp_11, cp_12, cp_13, cp_14, cp_15, cp_16, cp_17, cp_18, cp_19, cp_20, cp_21, cp_22, cp_23, cp_24, cp_25, cp_26, cp_27, cp_28, cp_29, cp_30, cp_31, cp_32, cp_33, cp_34, cp_35, cp_36, cp_37, cp_38, cp_39, cp_40, cp_41, cp_42, cp_43, cp_44, cp_45, cp_46, cp_47, cp_48, cp_49, cp_50, cp_51, cp_52, cp_53, cp_54, cp_55, cp_56, cp_57, h2, h2i, e0, w1]
    · rintro q k z hk ⟨h1, h2, h3, h4⟩
      have e0 : z.1 0 = y.1 0 := h1.1 0 (by decide)
      have hff := wayA_f (y.1 0) a k A
      obtain ⟨y', q1, q2, q3, q4, q5⟩ := l_tkR h3 h4 (p := 8 * a + k) (by omega) (by omega) (by rw [e0]; exact w3 k hk)
      rw [e0] at q2 q3
      refine .inr ⟨y', funext fun j => ?_, h1.trans q4, by rw [q5]; exact h2, q2, q3.congr fun d _ => ?_⟩
      · simp (disch := omega) only [f_X12_looks_L165, ↓nmk_e, ↓reduceIte, Option.bind_some, Option.map_some, lit, ofN, nI_add, pk_sub, pk_mul, nI_clamp, nI_leI, nI_ltI, nI_eq, pk_div, nI_an, nleT, nleF, nltT, nltF, neqT, neqF, or_false, false_or, or_self, or_true, true_or, and_self, and_true, true_and, and_false, false_and, not_true_eq_false, not_false_eq_true, f_X12_isSort, f_X12_isDay, f_X11_isSort, f_X11_isDay, inI, inP, f_X5_size, f_X5_isFull, f_X11_now, f_X2_isKind, f_X2_has, f_X3_has, f_X8_hasPage, f_X8_hasAllPages, f_X8_stands, f_X1_isPrinted, f_X1_rule, f_X9_has, f_X9_isFull, f_X12_isPage, f_X12_isVerse, sC_s, sC_n, sC_2, sN_1, sN_s, sN_n, sN_2, sS_1, sS_2, sS_s, sS_n, upd_s, upd_e, upd_n, rAt, rPut, rAdd, rSwap, rPush, rNumber, cp_0, cp_1, cp_2, cp_3, cp_4, cp_5, cp_6, cp_7, cp_8, cp_9, cp_10, cp_11, cp_12, cp_13, cp_14, cp_15, cp_16, cp_17, cp_18, cp_19, cp_20, cp_21, cp_22, cp_23, cp_24, cp_25, cp_26, cp_27, cp_28, cp_29, cp_30, cp_31, cp_32, cp_33, cp_34, cp_35, cp_36, cp_37, cp_38, cp_39, cp_40, cp_41, cp_42, cp_43, cp_44, cp_45, cp_46, cp_47, cp_48, cp_49, cp_50, cp_51, cp_52, cp_53, cp_54, cp_55, cp_56, cp_57, h2, h2i, e0, w1, hd, q1]
      · rw [wd7 (w3 k hk)]
        constructor
        · rintro ((z1 | ⟨z1, t, z2, z3⟩) | z1)
          · exact .inl z1
          · exact .inr ⟨z1, t, by omega, z3⟩
          · exact .inr ⟨cd, k, by omega, z1⟩
        · rintro (z1 | ⟨z1, t, z2, z3⟩)
          · exact .inl (.inl z1)
          · by_cases ct : t = k
            · subst ct; exact .inr z3
            · exact .inl (.inr ⟨z1, t, by omega, z3⟩)
  · rw [if_neg cd]
    have hFU : FU = 9999 + 1 := rfl
    refine ⟨y, fun j => ?_, RFr.refl y, rfl, h, hF.congr fun d _ => ⟨.inl, fun z => z.elim id (fun z => absurd z.1 cd)⟩⟩
    rw [hFU]
    by_cases c0 : wayN (y.1 0) a = 0
    · rw [c0] at w1
      simp (disch := omega) only [f_X12_looks_L165, ↓nmk_e, ↓reduceIte, Option.bind_some, Option.map_some, lit, ofN, nI_add, pk_sub, pk_mul, nI_clamp, nI_leI, nI_ltI, nI_eq, pk_div, nI_an, nleT, nleF, nltT, nltF, neqT, neqF, or_false, false_or, or_self, or_true, true_or, and_self, and_true, true_and, and_false, false_and, not_true_eq_false, not_false_eq_true, f_X12_isSort, f_X12_isDay, f_X11_isSort, f_X11_isDay, inI, inP, f_X5_size, f_X5_isFull, f_X11_now, f_X2_isKind, f_X2_has, f_X3_has, f_X8_hasPage, f_X8_hasAllPages, f_X8_stands, f_X1_isPrinted, f_X1_rule, f_X9_has, f_X9_isFull, f_X12_isPage, f_X12_isVerse, sC_s, sC_n, sC_2, sN_1, sN_s, sN_n, sN_2, sS_1, sS_2, sS_s, sS_n, upd_s, upd_e, upd_n, rAt, rPut, rAdd, rSwap, rPush, rNumber, cp_0, cp_1, cp_2, cp_3, cp_4, cp_5, cp_6, cp_7, cp_8, cp_9, cp_10, cp_11, cp_12, cp_13, cp_14, cp_15, cp_16, cp_17, cp_18, cp_19, cp_20, cp_21, cp_22, cp_23, cp_24, cp_25, cp_26, cp_27, cp_28, cp_29, cp_30, cp_31, cp_32, cp_33, cp_34, cp_35, cp_36, cp_37, cp_38, cp_39, cp_40, cp_41, cp_42, cp_43, cp_44, cp_45, cp_46, cp_47, cp_48, cp_49, cp_50, cp_51, cp_52, cp_53, cp_54, cp_55, cp_56, cp_57, h2i, w1]
    · simp (disch := omega) only [f_X12_looks_L165, ↓nmk_e, ↓reduceIte, Option.bind_some, Option.map_some, lit, ofN, nI_add, pk_sub, pk_mul, nI_clamp, nI_leI, nI_ltI, nI_eq, pk_div, nI_an, nleT, nleF, nltT, nltF, neqT, neqF, or_false, false_or, or_self, or_true, true_or, and_self, and_true, true_and, and_false, false_and, not_true_eq_false, not_false_eq_true, f_X12_isSort, f_X12_isDay, f_X11_isSort, f_X11_isDay, inI, inP, f_X5_size, f_X5_isFull, f_X11_now, f_X2_isKind, f_X2_has, f_X3_has, f_X8_hasPage, f_X8_hasAllPages, f_X8_stands, f_X1_isPrinted, f_X1_rule, f_X9_has, f_X9_isFull, f_X12_isPage, f_X12_isVerse, sC_s, sC_n, sC_2, sN_1, sN_s, sN_n, sN_2, sS_1, sS_2, sS_s, sS_n, upd_s, upd_e, upd_n, rAt, rPut, rAdd, rSwap, rPush, rNumber, cp_0, cp_1, cp_2, cp_3, cp_4, cp_5, cp_6, cp_7, cp_8, cp_9, cp_10, cp_11, cp_12, cp_13, cp_14, cp_15, cp_16, cp_17, cp_18, cp_19, cp_20, cp_21, cp_22, cp_23, cp_24, cp_25, cp_26, cp_27, cp_28, cp_29, cp_30, cp_31, cp_32, cp_33, cp_34, cp_35, cp_36, cp_37, cp_38, cp_39, cp_40, cp_41, cp_42, cp_43, cp_44, cp_45, cp_46, cp_47, cp_48, cp_49, cp_50, cp_51, cp_52, cp_53, cp_54, cp_55, cp_56, cp_57, h2i, w1, hd]
theorem Rep_cons {f : Nat → Int32} {x : Nat} {l : List Nat} : Rep f (x :: l) ↔ f l.length = nI x ∧ Rep f l := by
  unfold Rep
  rw [List.length_cons]
  constructor
  · intro h
    refine ⟨?_, fun i hi => ?_⟩
    · have := h l.length (by omega)
      rw [show l.length + 1 - 1 - l.length = 0 by omega] at this
      exact this
    · have := h i (by omega)
      rw [show l.length + 1 - 1 - i = (l.length - 1 - i) + 1 by omega] at this
      exact this
  · rintro ⟨h1, h2⟩ i hi
    by_cases c : i = l.length
    · subst c
      rw [h1, show l.length + 1 - 1 - l.length = 0 by omega]; rfl
    · rw [h2 i (by omega), show l.length + 1 - 1 - i = (l.length - 1 - i) + 1 by omega]; rfl
theorem Rep_congr {f g : Nat → Int32} {l : List Nat} (h : Rep f l) (e : ∀ i, i < l.length → g i = f i) : Rep g l := fun i hi => by rw [e i hi]; exact h i hi
theorem insR_mem {d : Nat → Nat} {a b : Nat} : ∀ {l : List Nat}, b ∈ insR d a l ↔ b = a ∨ b ∈ l := by
  intro l
  induction l with
  | nil => show b ∈ [a] ↔ _; rw [List.mem_singleton]; simp
  | cons x l ih =>
    unfold insR
    by_cases c : d a < d x
    · rw [if_pos c, List.mem_cons, ih, List.mem_cons]
      constructor
      · rintro (z | z | z)
        · exact .inr (.inl z)
        · exact .inl z
        · exact .inr (.inr z)
      · rintro (z | z | z)
        · exact .inr (.inl z)
        · exact .inl z
        · exact .inr (.inr z)
    · rw [if_neg c, List.mem_cons]
theorem ordR_mem {d : Nat → Nat} {b : Nat} : ∀ {m : Nat}, b ∈ ordR d m ↔ b < m := by
  intro m
  induction m with
  | zero => show b ∈ [] ↔ _; simp
  | succ m ih =>
    show b ∈ insR d m (ordR d m) ↔ _
    rw [insR_mem, ih]
    omega
theorem insR_congr {d e : Nat → Nat} {a : Nat} : ∀ {l : List Nat}, d a = e a → (∀ x, x ∈ l → d x = e x) → insR d a l = insR e a l := by
  intro l
  induction l with
  | nil => intro _ _; rfl
  | cons x l ih =>
    intro h1 h2
    unfold insR
    rw [h1, h2 x List.mem_cons_self]
    by_cases c : e a < e x
    · rw [if_pos c, if_pos c, ih h1 (fun y hy => h2 y (List.mem_cons_of_mem _ hy))]
    · rw [if_neg c, if_neg c]
theorem ordR_congr {d e : Nat → Nat} : ∀ {m : Nat}, (∀ a, a < m → d a = e a) → ordR d m = ordR e m := by
  intro m
  induction m with
  | zero => intro _; rfl
  | succ m ih =>
    intro h
    show insR d m (ordR d m) = insR e m (ordR e m)
    rw [ih (fun a ha => h a (by omega))]
    exact insR_congr (h m (by omega)) (fun x hx => h x (by have := ordR_mem.mp hx; omega))
theorem ins_filter {d : Nat → Nat} {a D : Nat} (hD : d a ≤ D) (hD2 : D ≤ d a) : ∀ l : List Nat, (insR d a l).filter (fun b => decide (d b ≤ D)) = a :: l.filter (fun b => decide (d b ≤ D)) := by
  intro l
  induction l with
  | nil => show List.filter _ [a] = _; rw [List.filter_cons_of_pos (p := fun b => decide (d b ≤ D)) (decide_eq_true hD)]
  | cons x l ih =>
    unfold insR
    by_cases c : d a < d x
    · rw [if_pos c, List.filter_cons_of_neg (by rw [decide_eq_false (by omega)]; decide), ih, List.filter_cons_of_neg (by rw [decide_eq_false (by omega)]; decide)]
    · rw [if_neg c, List.filter_cons_of_pos (p := fun b => decide (d b ≤ D)) (decide_eq_true hD)]
/-- the reference puts a way into the line -/
theorem l_ins {a : Nat} {d : Nat → Nat} (ha : a < 9) : ∀ (l : List Nat) (q : Nat) (y : CW), l.length ≤ 8 → l.length < q → Rep (y.1 2) l → y.1 0 (230 + a) = nI (d a) → d a ≤ 999 → (∀ x, x ∈ l → x < 9 ∧ y.1 0 (230 + x) = nI (d x) ∧ d x ≤ 999) →
    ∃ (y' : CW) (k : Nat), (∀ j, f_X12_looks_L80 (nI a) j q (nI l.length) y = j (nI k) y') ∧ k ≤ l.length ∧ (∀ t, t ≠ 2 → y'.1 t = y.1 t) ∧ y'.2 = y.2 ∧ (∀ t, l.length < t → y'.1 2 t = y.1 2 t) ∧ Rep (upd (y'.1 2) k (nI a)) (insR d a l) := by
  intro l
  induction l with
  | nil =>
    intro q y _ hq _ _ _ _
    obtain ⟨q, rfl⟩ : ∃ n, q = n + 1 := ⟨q - 1, by have : (0 : Nat) < q := hq; omega⟩
    refine ⟨y, 0, fun j => ?_, Nat.le_refl _, fun _ _ => rfl, rfl, fun _ _ => rfl, ?_⟩
    · show f_X12_looks_L80 (nI a) j (q + 1) (nI 0) y = _
      simp (disch := omega) only [f_X12_looks_L80, ↓nmk_e, ↓reduceIte, Option.bind_some, Option.map_some, lit, ofN, nI_add, pk_sub, pk_mul, nI_clamp, nI_leI, nI_ltI, nI_eq, pk_div, nI_an, nleT, nleF, nltT, nltF, neqT, neqF, or_false, false_or, or_self, or_true, true_or, and_self, and_true, true_and, and_false, false_and, not_true_eq_false, not_false_eq_true, f_X12_isSort, f_X12_isDay, f_X11_isSort, f_X11_isDay, inI, inP, f_X5_size, f_X5_isFull, f_X11_now, f_X2_isKind, f_X2_has, f_X3_has, f_X8_hasPage, f_X8_hasAllPages, f_X8_stands, f_X1_isPrinted, f_X1_rule, f_X9_has, f_X9_isFull, f_X12_isPage, f_X12_isVerse, sC_s, sC_n, sC_2, sN_1, sN_s, sN_n, sN_2, sS_1, sS_2, sS_s, sS_n, upd_s, upd_e, upd_n, rAt, rPut, rAdd, rSwap, rPush, rNumber, cp_0, cp_1, cp_2, cp_3, cp_4, cp_5, cp_6, cp_7, cp_8, cp_9, cp_10, cp_11, cp_12, cp_13, cp_14, cp_15, cp_16, cp_17, cp_18, cp_19, cp_20, cp_21, cp_22, cp_23, cp_24, cp_25, cp_26, cp_27, cp_28, cp_29, cp_30, cp_31, cp_32, cp_33, cp_34, cp_35, cp_36, cp_37, cp_38, cp_39, cp_40, cp_41, cp_42, cp_43, cp_44, cp_45, cp_46, cp_47, cp_48, cp_49, cp_50, cp_51, cp_52, cp_53, cp_54, cp_55, cp_56, cp_57]
    · show Rep _ [a]
      rw [Rep_cons]
      exact ⟨upd_s _ _ _, fun i hi => absurd hi (Nat.not_lt_zero i)⟩
  | cons x l ih =>
    intro q y hl hq hR hda hdl hx
    rw [List.length_cons] at hl hq
    obtain ⟨q, rfl⟩ : ∃ n, q = n + 1 := ⟨q - 1, by omega⟩
    obtain ⟨r1, r2⟩ := Rep_cons.mp hR
    obtain ⟨x1, x2, x3⟩ := hx x List.mem_cons_self
    rw [List.length_cons]
    unfold insR
    by_cases c : d a < d x
    · rw [if_pos c]
      obtain ⟨y', k, e1, e2, e3, e4, e5, e6⟩ := ih q (sC y 2 (l.length + 1) (nI x)) (by omega) (by omega) (by
        rw [sC_s]
        exact Rep_congr r2 (fun i hi => upd_n _ _ (by omega))) (by simp (disch := omega) only [sC_s, sC_n, sC_2, sN_1, sN_s, sN_n, sN_2, sS_1, sS_2, sS_s, sS_n, upd_s, upd_e, upd_n]; exact hda) hdl (fun z hz => by
        simp (disch := omega) only [sC_s, sC_n, sC_2, sN_1, sN_s, sN_n, sN_2, sS_1, sS_2, sS_s, sS_n, upd_s, upd_e, upd_n]
        exact hx z (List.mem_cons_of_mem _ hz))
      refine ⟨y', k, fun j => ?_, by omega, fun t ht => ?_, ?_, fun t ht => ?_, ?_⟩
      · rw [← e1 j]
        simp (disch := omega) only [f_X12_looks_L80, ↓nmk_e, ↓reduceIte, Option.bind_some, Option.map_some, lit, ofN, nI_add, pk_sub, pk_mul, nI_clamp, nI_leI, nI_ltI, nI_eq, pk_div, nI_an, nleT, nleF, nltT, nltF, neqT, neqF, or_false, false_or, or_self, or_true, true_or, and_self, and_true, true_and, and_false, false_and, not_true_eq_false, not_false_eq_true, f_X12_isSort, f_X12_isDay, f_X11_isSort, f_X11_isDay, inI, inP, f_X5_size, f_X5_isFull, f_X11_now, f_X2_isKind, f_X2_has, f_X3_has, f_X8_hasPage, f_X8_hasAllPages, f_X8_stands, f_X1_isPrinted, f_X1_rule, f_X9_has, f_X9_isFull, f_X12_isPage, f_X12_isVerse, sC_s, sC_n, sC_2, sN_1, sN_s, sN_n, sN_2, sS_1, sS_2, sS_s, sS_n, upd_s, upd_e, upd_n, rAt, rPut, rAdd, rSwap, rPush, rNumber, cp_0, cp_1, cp_2, cp_3, cp_4, cp_5, cp_6, cp_7, cp_8, cp_9, cp_10, cp_11, cp_12, cp_13, cp_14, cp_15, cp_16, cp_17, cp_18, cp_19, cp_20, cp_21, cp_22, cp_23, cp_24, cp_25, cp_26, cp_27, cp_28, cp_29, cp_30, cp_31, cp_32, cp_33, cp_34, cp_35, cp_36, cp_37, cp_38, cp_39, cp_40, cp_41, cp_42, cp_43, cp_44, cp_45, cp_46, cp_47, cp_48, cp_49, cp_50, cp_51, cp_52, cp_53, cp_54, cp_55, cp_56, cp_57, r1, x2, hda, Nat.add_sub_cancel]
      · rw [e3 t ht]; simp (disch := omega) only [sC_s, sC_n, sC_2, sN_1, sN_s, sN_n, sN_2, sS_1, sS_2, sS_s, sS_n, upd_s, upd_e, upd_n]
      · rw [e4]; rfl
      · rw [e5 t (by omega)]; simp (disch := omega) only [sC_s, sC_n, sC_2, sN_1, sN_s, sN_n, sN_2, sS_1, sS_2, sS_s, sS_n, upd_s, upd_e, upd_n]
      · rw [Rep_cons, insR_len]
        refine ⟨?_, e6⟩
        rw [upd_n _ _ (by omega), e5 _ (by omega)]
        simp (disch := omega) only [sC_s, sC_n, sC_2, sN_1, sN_s, sN_n, sN_2, sS_1, sS_2, sS_s, sS_n, upd_s, upd_e, upd_n]
    · rw [if_neg c]
      refine ⟨y, l.length + 1, fun j => ?_, Nat.le_refl _, fun _ _ => rfl, rfl, fun _ _ => rfl, ?_⟩
      · simp (disch := omega) only [f_X12_looks_L80, ↓nmk_e, ↓reduceIte, Option.bind_some, Option.map_some, lit, ofN, nI_add, pk_sub, pk_mul, nI_clamp, nI_leI, nI_ltI, nI_eq, pk_div, nI_an, nleT, nleF, nltT, nltF, neqT, neqF, or_false, false_or, or_self, or_true, true_or, and_self, and_true, true_and, and_false, false_and, not_true_eq_false, not_false_eq_true, f_X12_isSort, f_X12_isDay, f_X11_isSort, f_X11_isDay, inI, inP, f_X5_size, f_X5_isFull, f_X11_now, f_X2_isKind, f_X2_has, f_X3_has, f_X8_hasPage, f_X8_hasAllPages, f_X8_stands, f_X1_isPrinted, f_X1_rule, f_X9_has, f_X9_isFull, f_X12_isPage, f_X12_isVerse, sC_s, sC_n, sC_2, sN_1, sN_s, sN_n, sN_2, sS_1, sS_2, sS_s, sS_n, upd_s, upd_e, upd_n, rAt, rPut, rAdd, rSwap, rPush, rNumber, cp_0, cp_1, cp_2, cp_3, cp_4, cp_5, cp_6, cp_7, cp_8, cp_9, cp_10, cp_11, cp_12, cp_13, cp_14, cp_15, cp_16, cp_17, cp_18, cp_19, cp_20, cp_21, cp_22, cp_23, cp_24, cp_25, cp_26, cp_27, cp_28, cp_29, cp_30, cp_31, cp_32, cp_33, cp_34, cp_35, cp_36, cp_37, cp_38, cp_39, cp_40, cp_41, cp_42, cp_43, cp_44, cp_45, cp_46, cp_47, cp_48, cp_49, cp_50, cp_51, cp_52, cp_53, cp_54, cp_55, cp_56, cp_57, r1, x2, hda, Nat.add_sub_cancel]
      · rw [Rep_cons, List.length_cons]
        exact ⟨upd_s _ _ _, Rep_congr hR (fun i hi => upd_n _ _ (by rw [List.length_cons] at hi; omega))⟩
theorem l_line0 {y : CW} {m : Nat} (hm : m ≤ 9) (n1 : y.1 0 1 = nI m) (hd : ∀ a, a < m → y.1 0 (230 + a) = nI (dyF (y.1 0) a) ∧ dyF (y.1 0) a ≤ 999) : ∃ y', (∀ j, f_X12_looks_L67 j FU (nI 0) (nI 0) y = j (nI m) y') ∧ (∀ t, t ≠ 2 → y'.1 t = y.1 t) ∧ y'.2 = y.2 ∧ Rep (y'.1 2) (ordR (dyF (y.1 0)) m) := by
  refine run1 (fun q i (s : Int32 × CW) => fun j => f_X12_looks_L67 j q s.1 i s.2) (fun i s => s.1 = nI i ∧ (∀ t, t ≠ 2 → s.2.1 t = y.1 t) ∧ s.2.2 = y.2 ∧ Rep (s.2.1 2) (ordR (dyF (y.1 0)) i)) m (fun r => ∃ y', (∀ j, r j = j (nI m) y') ∧ (∀ t, t ≠ 2 → y'.1 t = y.1 t) ∧ y'.2 = y.2 ∧ Rep (y'.1 2) (ordR (dyF (y.1 0)) m)) ?_ ?_ FU 0 (nI 0, y) (Nat.zero_le _) (by unfold FU; omega) ⟨rfl, fun _ _ => rfl, rfl, fun i hi => absurd hi (Nat.not_lt_zero i)⟩
  · rintro q ⟨_, s⟩ ⟨rfl, h1, h2, h3⟩
    have e1 : s.1 0 1 = nI m := by rw [h1 0 (by decide)]; exact n1
    refine ⟨s, fun j => ?_, h1, h2, h3⟩
    simp (disch := omega) only [f_X12_looks_L67, ↓nmk_e, ↓reduceIte, Option.bind_some, Option.map_some, lit, ofN, nI_add, pk_sub, pk_mul, nI_clamp, nI_leI, nI_ltI, nI_eq, pk_div, nI_an, nleT, nleF, nltT, nltF, neqT, neqF, or_false, false_or, or_self, or_true, true_or, and_self, and_true, true_and, and_false, false_and, not_true_eq_false, not_false_eq_true, f_X12_isSort, f_X12_isDay, f_X11_isSort, f_X11_isDay, inI, inP, f_X5_size, f_X5_isFull, f_X11_now, f_X2_isKind, f_X2_has, f_X3_has, f_X8_hasPage, f_X8_hasAllPages, f_X8_stands, f_X1_isPrinted, f_X1_rule, f_X9_has, f_X9_isFull, f_X12_isPage, f_X12_isVerse, sC_s, sC_n, sC_2, sN_1, sN_s, sN_n, sN_2, sS_1, sS_2, sS_s, sS_n, upd_s, upd_e, upd_n, rAt, rPut, rAdd, rSwap, rPush, rNumber, cp_0, cp_1, cp_2, cp_3, cp_4, cp_5, cp_6, cp_7, cp_8, cp_9, cp_10, cp_11, cp_12, cp_13, cp_14, cp_15, cp_16, cp_17, cp_18, cp_19, cp_20, cp_21, cp_22, cp_23, cp_24, cp_25, cp_26, cp_27, cp_28, cp_29, cp_30, cp_31, cp_32, cp_33, cp_34, cp_35, cp_36, cp_37, cp_38, cp_39, cp_40, cp_41, cp_42, cp_43, cp_44, cp_45, cp_46, cp_47, cp_48, cp_49, cp_50, cp_51, cp_52, cp_53, cp_54, cp_55, cp_56, cp_57, e1]
  · rintro q i ⟨_, s⟩ hi ⟨rfl, h1, h2, h3⟩
    have e0 : s.1 0 = y.1 0 := h1 0 (by decide)
    have e1 : s.1 0 1 = nI m := by rw [e0]; exact n1
    obtain ⟨y', k, q1, q2, q3, q4, q5, q6⟩ := l_ins (a := i) (d := dyF (y.1 0)) (by omega) (ordR (dyF (y.1 0)) i) FU s (by rw [ordR_len]; omega) (by rw [ordR_len]; unfold FU; omega) h3 (by rw [e0]; exact (hd i hi).1) (hd i hi).2 (fun x hx => by
      have := ordR_mem.mp hx
      rw [e0]
      exact ⟨by omega, hd x (by omega)⟩)
    rw [ordR_len] at q1 q2
    refine .inr ⟨(nI (i + 1), sC y' 2 k (nI i)), funext fun j => ?_, rfl, fun t ht => ?_, ?_, ?_⟩
    · simp (disch := omega) only [f_X12_looks_L67, ↓nmk_e, ↓reduceIte, Option.bind_some, Option.map_some, lit, ofN, nI_add, pk_sub, pk_mul, nI_clamp, nI_leI, nI_ltI, nI_eq, pk_div, nI_an, nleT, nleF, nltT, nltF, neqT, neqF, or_false, false_or, or_self, or_true, true_or, and_self, and_true, true_and, and_false, false_and, not_true_eq_false, not_false_eq_true, f_X12_isSort, f_X12_isDay, f_X11_isSort, f_X11_isDay, inI, inP, f_X5_size, f_X5_isFull, f_X11_now, f_X2_isKind, f_X2_has, f_X3_has, f_X8_hasPage, f_X8_hasAllPages, f_X8_stands, f_X1_isPrinted, f_X1_rule, f_X9_has, f_X9_isFull, f_X12_isPage, f_X12_isVerse, sC_s, sC_n, sC_2, sN_1, sN_s, sN_n, sN_2, sS_1, sS_2, sS_s, sS_n, upd_s, upd_e, upd_n, rAt, rPut, rAdd, rSwap, rPush, rNumber, cp_0, cp_1, cp_2, cp_3, cp_4, cp_5, cp_6, cp_7, cp_8, cp_9, cp_10, cp_11, cp_12, cp_13, cp_14, cp_15, cp_16, cp_17, cp_18, cp_19, cp_20, cp_21, cp_22, cp_23, cp_24, cp_25, cp_26, cp_27, cp_28, cp_29, cp_30, cp_31, cp_32, cp_33, cp_34, cp_35, cp_36, cp_37, cp_38, cp_39, cp_40, cp_41, cp_42, cp_43, cp_44, cp_45, cp_46, cp_47, cp_48, cp_49, cp_50, cp_51, cp_52, cp_53, cp_54, cp_55, cp_56, cp_57, e1, q1]
    · show (sC y' 2 k (nI i)).1 t = _
      rw [sC_n _ _ _ ht, q3 t ht]; exact h1 t ht
    · show (sC y' 2 k (nI i)).2 = _
      rw [sC_2, q4]; exact h2
    · show Rep ((sC y' 2 k (nI i)).1 2) (insR (dyF (y.1 0)) i (ordR (dyF (y.1 0)) i))
      rw [sC_s]; exact q6
