/-! copies of leaves -/
section CP
variable (In : Nat → Bool) (H P : Nat → Nat)
def cnt (n h p : Nat) : Nat := sg (fun k => if In k = true ∧ H k = h ∧ P k = p then 1 else 0) n
def mx (f : Nat → Nat) : Nat → Nat
  | 0 => 0
  | n + 1 => max (mx f n) (f n)
def Mx (n h : Nat) : Nat := mx (fun p => cnt In H P n h p) 30
def Tt (N n : Nat) : Nat := sg (fun h => Mx In H P n h) N
def rk (k : Nat) : Nat := if In k = true then cnt In H P k (H k) (P k) + 1 else 0
end CP
theorem mx_ge (f : Nat → Nat) : ∀ n i, i < n → f i ≤ mx f n := by
  intro n
  induction n with
  | zero => intro i h; omega
  | succ n ih =>
    intro i h
    show f i ≤ max (mx f n) (f n)
    by_cases c : i = n
    · subst c; omega
    · have := ih i (by omega); omega
theorem mx_at (f : Nat → Nat) : ∀ n, mx f n = 0 ∨ ∃ i, i < n ∧ mx f n = f i := by
  intro n
  induction n with
  | zero => exact .inl rfl
  | succ n ih =>
    show max (mx f n) (f n) = 0 ∨ ∃ i, i < n + 1 ∧ max (mx f n) (f n) = f i
    by_cases c : mx f n ≤ f n
    · exact .inr ⟨n, by omega, by omega⟩
    · rcases ih with h | ⟨i, h1, h2⟩
      · omega
      · exact .inr ⟨i, by omega, by omega⟩
theorem mx_le {f : Nat → Nat} {b : Nat} (n : Nat) (h : ∀ i, i < n → f i ≤ b) : mx f n ≤ b := by
  rcases mx_at f n with e | ⟨i, h1, h2⟩
  · omega
  · rw [h2]; exact h i h1
theorem mx_congr {f g : Nat → Nat} : ∀ n, (∀ i, i < n → f i = g i) → mx f n = mx g n := by
  intro n
  induction n with
  | zero => intro _; rfl
  | succ n ih =>
    intro h
    show max (mx f n) (f n) = max (mx g n) (g n)
    rw [ih (fun i hi => h i (by omega)), h n (by omega)]
theorem mx_upd {f g : Nat → Nat} {n p : Nat} (hp : p < n) (h : ∀ i, i < n → i ≠ p → g i = f i) (hg : f p ≤ g p) : mx g n = max (mx f n) (g p) := by
  have a1 : mx g n ≤ max (mx f n) (g p) := mx_le n fun i hi => by
    by_cases c : i = p
    · subst c; omega
    · rw [h i hi c]; have := mx_ge f n i hi; omega
  have a2 : mx f n ≤ mx g n := mx_le n fun i hi => by
    have := mx_ge g n i hi
    by_cases c : i = p
    · subst c; omega
    · rw [← h i hi c]; exact this
  have a3 := mx_ge g n p hp
  omega
theorem sg_upd {f g : Nat → Nat} {p : Nat} : ∀ n, p < n → (∀ i, i < n → i ≠ p → g i = f i) → sg g n + f p = sg f n + g p := by
  intro n
  induction n with
  | zero => intro h; omega
  | succ n ih =>
    intro hp h
    show sg g n + g n + f p = sg f n + f n + g p
    by_cases c : n = p
    · subst c
      rw [sg_congr n (fun i hi => h i (by omega) (by omega))]
      omega
    · have := ih (by omega) (fun i hi => h i (by omega))
      rw [h n (by omega) c]
      omega
theorem cnt_mono (In : Nat → Bool) (H P : Nat → Nat) (h p : Nat) {a : Nat} : ∀ {b}, a ≤ b → cnt In H P a h p ≤ cnt In H P b h p := by
  intro b
  induction b with
  | zero => intro q; rw [show a = 0 by omega]; exact Nat.le_refl _
  | succ b ih =>
    intro q
    by_cases c : a = b + 1
    · rw [c]; exact Nat.le_refl _
    · exact Nat.le_trans (ih (by omega)) (Nat.le_add_right _ _)
theorem cnt_s (In : Nat → Bool) (H P : Nat → Nat) (n h p : Nat) : cnt In H P (n + 1) h p = cnt In H P n h p + if In n = true ∧ H n = h ∧ P n = p then 1 else 0 := rfl
/-- each rank is reached -/
theorem cnt_ivt (In : Nat → Bool) (H P : Nat → Nat) (h p r : Nat) (hr : 0 < r) : ∀ n, r ≤ cnt In H P n h p → ∃ k, k < n ∧ In k = true ∧ H k = h ∧ P k = p ∧ cnt In H P k h p + 1 = r := by
  intro n
  induction n with
  | zero => intro q; have : cnt In H P 0 h p = 0 := rfl; omega
  | succ n ih =>
    intro q
    by_cases c : r ≤ cnt In H P n h p
    · obtain ⟨k, h1, h2⟩ := ih c
      exact ⟨k, by omega, h2⟩
    · rw [cnt_s] at q
      by_cases c2 : In n = true ∧ H n = h ∧ P n = p
      · rw [if_pos c2] at q
        exact ⟨n, by omega, c2.1, c2.2.1, c2.2.2, by omega⟩
      · rw [if_neg c2] at q; omega
theorem cnt_le (In : Nat → Bool) (H P : Nat → Nat) (n h p : Nat) : cnt In H P n h p ≤ n := by
  have := sg_le (f := fun k => if In k = true ∧ H k = h ∧ P k = p then 1 else 0) (b := 1) n (fun i _ => by show (if _ then _ else _) ≤ _; split <;> omega)
  unfold cnt; omega
theorem rk_ex (In : Nat → Bool) (H P : Nat → Nat) {n : Nat} (hP : ∀ k, k < n + 1 → P k < 30) (hI : In n = true) : (∃ k, k < n ∧ H k = H n ∧ rk In H P k = rk In H P n) ↔ cnt In H P n (H n) (P n) + 1 ≤ Mx In H P n (H n) := by
  have er : rk In H P n = cnt In H P n (H n) (P n) + 1 := if_pos hI
  constructor
  · rintro ⟨k, h1, h2, h3⟩
    rw [er] at h3
    have hk : In k = true := by
      unfold rk at h3
      split at h3
      · assumption
      · omega
    have h4 : rk In H P k = cnt In H P k (H k) (P k) + 1 := if_pos hk
    have h5 : cnt In H P (k + 1) (H k) (P k) = cnt In H P k (H k) (P k) + 1 := by rw [cnt_s, if_pos ⟨hk, rfl, rfl⟩]
    have h6 := cnt_mono In H P (H k) (P k) (a := k + 1) (b := n) (by omega)
    have h7 := mx_ge (fun p => cnt In H P n (H n) p) 30 (P k) (hP k (by omega))
    have h7 : cnt In H P n (H n) (P k) ≤ Mx In H P n (H n) := h7
    rw [h2] at h6 h5 h4
    omega
  · intro q
    rcases mx_at (fun p => cnt In H P n (H n) p) 30 with e | ⟨p, h1, h2⟩
    · have e : Mx In H P n (H n) = 0 := e
      omega
    · have h2 : Mx In H P n (H n) = cnt In H P n (H n) p := h2
      obtain ⟨k, k1, k2, k3, k4, k5⟩ := cnt_ivt In H P (H n) p (cnt In H P n (H n) (P n) + 1) (by omega) n (by omega)
      refine ⟨k, k1, k3, ?_⟩
      rw [er, ← k5]
      show (if _ then _ else _) = _
      rw [if_pos k2, k3, k4]
theorem Tt_s (In : Nat → Bool) (H P : Nat → Nat) {N n : Nat} (hP : P n < 30) (hH : H n < N) : Tt In H P N (n + 1) = Tt In H P N n + if In n = true ∧ Mx In H P n (H n) < cnt In H P n (H n) (P n) + 1 then 1 else 0 := by
  by_cases hI : In n = true
  · have e1 : ∀ h, h ≠ H n → Mx In H P (n + 1) h = Mx In H P n h := fun h hh => mx_congr 30 fun p _ => by
      show cnt In H P (n + 1) h p = _
      rw [cnt_s, if_neg (fun q => hh q.2.1.symm)]; rfl
    have e2 : Mx In H P (n + 1) (H n) = max (Mx In H P n (H n)) (cnt In H P n (H n) (P n) + 1) := by
      have := mx_upd (f := fun p => cnt In H P n (H n) p) (g := fun p => cnt In H P (n + 1) (H n) p) (n := 30) (p := P n) hP (fun i _ hi => by
        show cnt In H P (n + 1) (H n) i = _
        rw [cnt_s, if_neg (fun q => hi q.2.2.symm)]; rfl) (by show _ ≤ cnt In H P (n + 1) (H n) (P n); rw [cnt_s]; omega)
      have e : cnt In H P (n + 1) (H n) (P n) = cnt In H P n (H n) (P n) + 1 := by rw [cnt_s, if_pos ⟨hI, rfl, rfl⟩]
      unfold Mx
      rw [this, e]
    have e3 := sg_upd (f := fun h => Mx In H P n h) (g := fun h => Mx In H P (n + 1) h) (p := H n) N hH (fun i _ hi => e1 i hi)
    have e3 : Tt In H P N (n + 1) + Mx In H P n (H n) = Tt In H P N n + Mx In H P (n + 1) (H n) := e3
    by_cases c : Mx In H P n (H n) < cnt In H P n (H n) (P n) + 1
    · rw [if_pos ⟨hI, c⟩]
      have h1 := mx_ge (fun p => cnt In H P n (H n) p) 30 (P n) hP
      have h1 : cnt In H P n (H n) (P n) ≤ Mx In H P n (H n) := h1
      omega
    · rw [if_neg (fun q => c q.2)]; omega
  · rw [if_neg (fun q => hI q.1)]
    have e : ∀ h, Mx In H P (n + 1) h = Mx In H P n h := fun h => mx_congr 30 fun p _ => by
      show cnt In H P (n + 1) h p = _
      rw [cnt_s, if_neg (fun q => hI q.1)]; rfl
    have key : ∀ N, sg (fun h => Mx In H P (n + 1) h) N = sg (fun h => Mx In H P n h) N := fun N => sg_congr N (fun h _ => e h)
    rw [Nat.add_zero]
    exact key N
/-- which leaves count -/
def LIn (v : CW) (a k : Nat) : Bool := decide (tN (v.1 0 (2920 + k)) ≠ 4 ∧ a / 2 ^ tN (v.1 0 (3040 + k)) % 2 = 1)
abbrev LfH (v : CW) (k : Nat) : Nat := tN (v.1 0 (3000 + k))
abbrev LfP (v : CW) (k : Nat) : Nat := tN (v.1 0 (2960 + k))
/-- what the rows hold -/
def LRow (w v : CW) (m : Nat) : Prop := m ≤ 40 ∧ w.2.1 23 = nI m ∧ v.1 0 5 = nI m ∧ ∀ k, k < m → w.1 23 k = nI (tN (v.1 0 (2920 + k))) ∧ w.1 24 k = nI (LfP v k) ∧ w.1 25 k = nI (LfH v k) ∧ w.1 26 k = nI (tN (v.1 0 (3040 + k))) ∧ v.1 0 (2920 + k) = nI (tN (v.1 0 (2920 + k))) ∧ v.1 0 (2960 + k) = nI (LfP v k) ∧ v.1 0 (3000 + k) = nI (LfH v k) ∧ v.1 0 (3040 + k) = nI (tN (v.1 0 (3040 + k))) ∧ tN (v.1 0 (2920 + k)) ≤ 6 ∧ LfP v k ≤ 29 ∧ LfH v k ≤ 255 ∧ tN (v.1 0 (3040 + k)) ≤ 9
theorem LRow_of {w v : CW} (h : Sim w v) : ∃ m, LRow w v m := by
  obtain ⟨m, hm, n1, n2, n3, n4, n5, g⟩ := h.g8
  refine ⟨m, hm, n1, n5, fun k hk => ?_⟩
  obtain ⟨g1, g2, g3, g4, g5, g6, g7, g8⟩ := g k hk
  obtain ⟨a1, b1⟩ := bdt (by decide) g5
  obtain ⟨a2, b2⟩ := bdt (by decide) g6
  obtain ⟨a3, b3⟩ := bdt (by decide) g7
  obtain ⟨a4, b4⟩ := bdt (by decide) g8
  exact ⟨g1.trans a1, g2.trans a2, g3.trans a3, g4.trans a4, a1, a2, a3, a4, b1, b2, b3, b4⟩
theorem l_cntR {w v : CW} {m a h p : Nat} (R : LRow w v m) (ha : a < 1024) (hh : h < 256) (hp : p < 30) (j : Int32 → Option Int32) : f_X12_copies_L44 v (nI a) (nI h) (nI p) j FU (nI 0) (nI 0) = j (nI (cnt (LIn v a) (LfH v) (LfP v) m h p)) := by
  obtain ⟨hm, n1, n2, g⟩ := R
  refine run1 (fun n i s => f_X12_copies_L44 v (nI a) (nI h) (nI p) j n s i) (fun i s => s = nI (cnt (LIn v a) (LfH v) (LfP v) i h p)) m (fun x => x = j (nI (cnt (LIn v a) (LfH v) (LfP v) m h p))) ?_ ?_ FU 0 (nI 0) (Nat.zero_le _) (by unfold FU; omega) rfl
  · rintro n s rfl
    simp (disch := omega) only [f_X12_copies_L44, ↓nmk_e, ↓reduceIte, Option.bind_some, Option.map_some, lit, ofN, nI_add, pk_sub, pk_mul, nI_clamp, nI_leI, nI_ltI, nI_eq, pk_div, nI_an, nleT, nleF, nltT, nltF, neqT, neqF, or_false, false_or, or_self, or_true, true_or, and_self, and_true, true_and, and_false, false_and, not_true_eq_false, not_false_eq_true, f_X12_isSort, f_X12_isDay, f_X11_isSort, f_X11_isDay, inI, inP, f_X5_size, f_X5_isFull, f_X11_now, f_X2_isKind, f_X2_has, f_X3_has, f_X8_hasPage, f_X8_hasAllPages, f_X8_stands, f_X1_isPrinted, f_X1_rule, f_X9_has, f_X9_isFull, f_X12_isPage, f_X12_isVerse, sC_s, sC_n, sC_2, sN_1, sN_s, sN_n, sN_2, sS_1, sS_2, sS_s, sS_n, upd_s, upd_e, upd_n, rAt, rPut, rAdd, rSwap, rPush, rNumber, cp_0, cp_1, cp_2, cp_3, cp_4, cp_5, cp_6, cp_7, cp_8, cp_9, cp_10, cp_11, cp_12, cp_13, cp_14, cp_15, cp_16, cp_17, cp_18, cp_19, cp_20, cp_21, cp_22, cp_23, cp_24, cp_25, cp_26, cp_27, cp_28, cp_29, cp_30, cp_31, cp_32, cp_33, cp_34, cp_35, cp_36, cp_37, cp_38, cp_39, cp_40, cp_41, cp_42, cp_43, cp_44, cp_45, cp_46, cp_47, cp_48, cp_49, cp_50, cp_51, cp_52, cp_53, cp_54, cp_55, cp_56, cp_57, n2]
  · rintro n i s hi rfl
    obtain ⟨-, -, -, -, a1, a2, a3, a4, b1, b2, b3, b4⟩ := g i hi
    refine .inr ⟨_, ?_, rfl⟩
    rw [cnt_s]
    have hc := cnt_le (LIn v a) (LfH v) (LfP v) i h p
    generalize cnt (LIn v a) (LfH v) (LfP v) i h p = c at *
    have hb := Nat.mod_two_eq_zero_or_one (a / 2 ^ tN (v.1 0 (3040 + i)))
    have hI : LIn v a i = true ↔ (tN (v.1 0 (2920 + i)) ≠ 4 ∧ a / 2 ^ tN (v.1 0 (3040 + i)) % 2 = 1) := by unfold LIn; exact decide_eq_true_iff
    simp only [hI]
    unfold LfP LfH at *
    generalize tN (v.1 0 (2920 + i)) = k1 at *
    generalize tN (v.1 0 (2960 + i)) = k2 at *
    generalize tN (v.1 0 (3000 + i)) = k3 at *
    generalize tN (v.1 0 (3040 + i)) = k4 at *
    by_cases c1 : k1 = 4
    · rw [if_neg (fun q => q.1.1 c1)]
      simp (disch := omega) only [f_X12_copies_L44, ↓nmk_e, ↓reduceIte, Option.bind_some, Option.map_some, lit, ofN, nI_add, pk_sub, pk_mul, nI_clamp, nI_leI, nI_ltI, nI_eq, pk_div, nI_an, nleT, nleF, nltT, nltF, neqT, neqF, or_false, false_or, or_self, or_true, true_or, and_self, and_true, true_and, and_false, false_and, not_true_eq_false, not_false_eq_true, f_X12_isSort, f_X12_isDay, f_X11_isSort, f_X11_isDay, inI, inP, f_X5_size, f_X5_isFull, f_X11_now, f_X2_isKind, f_X2_has, f_X3_has, f_X8_hasPage, f_X8_hasAllPages, f_X8_stands, f_X1_isPrinted, f_X1_rule, f_X9_has, f_X9_isFull, f_X12_isPage, f_X12_isVerse, sC_s, sC_n, sC_2, sN_1, sN_s, sN_n, sN_2, sS_1, sS_2, sS_s, sS_n, upd_s, upd_e, upd_n, rAt, rPut, rAdd, rSwap, rPush, rNumber, cp_0, cp_1, cp_2, cp_3, cp_4, cp_5, cp_6, cp_7, cp_8, cp_9, cp_10, cp_11, cp_12, cp_13, cp_14, cp_15, cp_16, cp_17, cp_18, cp_19, cp_20, cp_21, cp_22, cp_23, cp_24, cp_25, cp_26, cp_27, cp_28, cp_29, cp_30, cp_31, cp_32, cp_33, cp_34, cp_35, cp_36, cp_37, cp_38, cp_39, cp_40, cp_41, cp_42, cp_43, cp_44, cp_45, cp_46, cp_47, cp_48, cp_49, cp_50, cp_51, cp_52, cp_53, cp_54, cp_55, cp_56, cp_57, n2, a1]
    by_cases c2 : k3 = h
    · by_cases c3 : k2 = p
      · rcases hb with hb | hb
        · rw [if_neg (fun q => by have := q.1.2; omega)]
          simp (disch := omega) only [f_X12_copies_L44, ↓nmk_e, ↓reduceIte, Option.bind_some, Option.map_some, lit, ofN, nI_add, pk_sub, pk_mul, nI_clamp, nI_leI, nI_ltI, nI_eq, pk_div, nI_an, nleT, nleF, nltT, nltF, neqT, neqF, or_false, false_or, or_self, or_true, true_or, and_self, and_true, true_and, and_false, false_and, not_true_eq_false, not_false_eq_true, f_X12_isSort, f_X12_isDay, f_X11_isSort, f_X11_isDay, inI, inP, f_X5_size, f_X5_isFull, f_X11_now, f_X2_isKind, f_X2_has, f_X3_has, f_X8_hasPage, f_X8_hasAllPages, f_X8_stands, f_X1_isPrinted, f_X1_rule, f_X9_has, f_X9_isFull, f_X12_isPage, f_X12_isVerse, sC_s, sC_n, sC_2, sN_1, sN_s, sN_n, sN_2, sS_1, sS_2, sS_s, sS_n, upd_s, upd_e, upd_n, rAt, rPut, rAdd, rSwap, rPush, rNumber, cp_0, cp_1, cp_2, cp_3, cp_4, cp_5, cp_6, cp_7, cp_8, cp_9, cp_10, cp_11, cp_12, cp_13, cp_14, cp_15, cp_16, cp_17, cp_18, cp_19, cp_20, cp_21, cp_22, cp_23, cp_24, cp_25, cp_26, cp_27, cp_28, cp_29, cp_30, cp_31, cp_32, cp_33, cp_34, cp_35, cp_36, cp_37, cp_38, cp_39, cp_40, cp_41, cp_42, cp_43, cp_44, cp_45, cp_46, cp_47, cp_48, cp_49, cp_50, cp_51, cp_52, cp_53, cp_54, cp_55, cp_56, cp_57, n2, a1, a2, a3, a4, sbit, hb]
        · rw [if_pos ⟨⟨c1, hb⟩, c2, c3⟩]
          simp (disch := omega) only [f_X12_copies_L44, ↓nmk_e, ↓reduceIte, Option.bind_some, Option.map_some, lit, ofN, nI_add, pk_sub, pk_mul, nI_clamp, nI_leI, nI_ltI, nI_eq, pk_div, nI_an, nleT, nleF, nltT, nltF, neqT, neqF, or_false, false_or, or_self, or_true, true_or, and_self, and_true, true_and, and_false, false_and, not_true_eq_false, not_false_eq_true, f_X12_isSort, f_X12_isDay, f_X11_isSort, f_X11_isDay, inI, inP, f_X5_size, f_X5_isFull, f_X11_now, f_X2_isKind, f_X2_has, f_X3_has, f_X8_hasPage, f_X8_hasAllPages, f_X8_stands, f_X1_isPrinted, f_X1_rule, f_X9_has, f_X9_isFull, f_X12_isPage, f_X12_isVerse, sC_s, sC_n, sC_2, sN_1, sN_s, sN_n, sN_2, sS_1, sS_2, sS_s, sS_n, upd_s, upd_e, upd_n, rAt, rPut, rAdd, rSwap, rPush, rNumber, cp_0, cp_1, cp_2, cp_3, cp_4, cp_5, cp_6, cp_7, cp_8, cp_9, cp_10, cp_11, cp_12, cp_13, cp_14, cp_15, cp_16, cp_17, cp_18, cp_19, cp_20, cp_21, cp_22, cp_23, cp_24, cp_25, cp_26, cp_27, cp_28, cp_29, cp_30, cp_31, cp_32, cp_33, cp_34, cp_35, cp_36, cp_37, cp_38, cp_39, cp_40, cp_41, cp_42, cp_43, cp_44, cp_45, cp_46, cp_47, cp_48, cp_49, cp_50, cp_51, cp_52, cp_53, cp_54, cp_55, cp_56, cp_57, n2, a1, a2, a3, a4, sbit, hb]
      · rw [if_neg (fun q => c3 q.2.2)]
        simp (disch := omega) only [f_X12_copies_L44, ↓nmk_e, ↓reduceIte, Option.bind_some, Option.map_some, lit, ofN, nI_add, pk_sub, pk_mul, nI_clamp, nI_leI, nI_ltI, nI_eq, pk_div, nI_an, nleT, nleF, nltT, nltF, neqT, neqF, or_false, false_or, or_self, or_true, true_or, and_self, and_true, true_and, and_false, false_and, not_true_eq_false, not_false_eq_true, f_X12_isSort, f_X12_isDay, f_X11_isSort, f_X11_isDay, inI, inP, f_X5_size, f_X5_isFull, f_X11_now, f_X2_isKind, f_X2_has, f_X3_has, f_X8_hasPage, f_X8_hasAllPages, f_X8_stands, f_X1_isPrinted, f_X1_rule, f_X9_has, f_X9_isFull, f_X12_isPage, f_X12_isVerse, sC_s, sC_n, sC_2, sN_1, sN_s, sN_n, sN_2, sS_1, sS_2, sS_s, sS_n, upd_s, upd_e, upd_n, rAt, rPut, rAdd, rSwap, rPush, rNumber, cp_0, cp_1, cp_2, cp_3, cp_4, cp_5, cp_6, cp_7, cp_8, cp_9, cp_10, cp_11, cp_12, cp_13, cp_14, cp_15, cp_16, cp_17, cp_18, cp_19, cp_20, cp_21, cp_22, cp_23, cp_24, cp_25, cp_26, cp_27, cp_28, cp_29, cp_30, cp_31, cp_32, cp_33, cp_34, cp_35, cp_36, cp_37, cp_38, cp_39, cp_40, cp_41, cp_42, cp_43, cp_44, cp_45, cp_46, cp_47, cp_48, cp_49, cp_50, cp_51, cp_52, cp_53, cp_54, cp_55, cp_56, cp_57, n2, a1, a2, a3]
    · rw [if_neg (fun q => c2 q.2.1)]
      simp (disch := omega) only [f_X12_copies_L44, ↓nmk_e, ↓reduceIte, Option.bind_some, Option.map_some, lit, ofN, nI_add, pk_sub, pk_mul, nI_clamp, nI_leI, nI_ltI, nI_eq, pk_div, nI_an, nleT, nleF, nltT, nltF, neqT, neqF, or_false, false_or, or_self, or_true, true_or, and_self, and_true, true_and, and_false, false_and, not_true_eq_false, not_false_eq_true, f_X12_isSort, f_X12_isDay, f_X11_isSort, f_X11_isDay, inI, inP, f_X5_size, f_X5_isFull, f_X11_now, f_X2_isKind, f_X2_has, f_X3_has, f_X8_hasPage, f_X8_hasAllPages, f_X8_stands, f_X1_isPrinted, f_X1_rule, f_X9_has, f_X9_isFull, f_X12_isPage, f_X12_isVerse, sC_s, sC_n, sC_2, sN_1, sN_s, sN_n, sN_2, sS_1, sS_2, sS_s, sS_n, upd_s, upd_e, upd_n, rAt, rPut, rAdd, rSwap, rPush, rNumber, cp_0, cp_1, cp_2, cp_3, cp_4, cp_5, cp_6, cp_7, cp_8, cp_9, cp_10, cp_11, cp_12, cp_13, cp_14, cp_15, cp_16, cp_17, cp_18, cp_19, cp_20, cp_21, cp_22, cp_23, cp_24, cp_25, cp_26, cp_27, cp_28, cp_29, cp_30, cp_31, cp_32, cp_33, cp_34, cp_35, cp_36, cp_37, cp_38, cp_39, cp_40, cp_41, cp_42, cp_43, cp_44, cp_45, cp_46, cp_47, cp_48, cp_49, cp_50, cp_51, cp_52, cp_53, cp_54, cp_55, cp_56, cp_57, n2, a1, a3]
theorem l_mxR {w v : CW} {m a h : Nat} (R : LRow w v m) (ha : a < 1024) (hh : h < 256) (j : Int32 → Option Int32) : f_X12_copies_L31 v (nI a) (nI h) j FU (nI 0) (nI 0) = j (nI (Mx (LIn v a) (LfH v) (LfP v) m h)) := by
  have hm := R.1
  refine run1 (fun n i s => f_X12_copies_L31 v (nI a) (nI h) j n s i) (fun i s => s = nI (mx (fun p => cnt (LIn v a) (LfH v) (LfP v) m h p) i)) 30 (fun x => x = j (nI (Mx (LIn v a) (LfH v) (LfP v) m h))) ?_ ?_ FU 0 (nI 0) (Nat.zero_le _) (by unfold FU; omega) rfl
  · rintro n s rfl
    simp (disch := omega) only [f_X12_copies_L31, ↓nmk_e, ↓reduceIte, Option.bind_some, Option.map_some, lit, ofN, nI_add, pk_sub, pk_mul, nI_clamp, nI_leI, nI_ltI, nI_eq, pk_div, nI_an, nleT, nleF, nltT, nltF, neqT, neqF, or_false, false_or, or_self, or_true, true_or, and_self, and_true, true_and, and_false, false_and, not_true_eq_false, not_false_eq_true, f_X12_isSort, f_X12_isDay, f_X11_isSort, f_X11_isDay, inI, inP, f_X5_size, f_X5_isFull, f_X11_now, f_X2_isKind, f_X2_has, f_X3_has, f_X8_hasPage, f_X8_hasAllPages, f_X8_stands, f_X1_isPrinted, f_X1_rule, f_X9_has, f_X9_isFull, f_X12_isPage, f_X12_isVerse, sC_s, sC_n, sC_2, sN_1, sN_s, sN_n, sN_2, sS_1, sS_2, sS_s, sS_n, upd_s, upd_e, upd_n, rAt, rPut, rAdd, rSwap, rPush, rNumber, cp_0, cp_1, cp_2, cp_3, cp_4, cp_5, cp_6, cp_7, cp_8, cp_9, cp_10, cp_11, cp_12, cp_13, cp_14, cp_15, cp_16, cp_17, cp_18, cp_19, cp_20, cp_21, cp_22, cp_23, cp_24, cp_25, cp_26, cp_27, cp_28, cp_29, cp_30, cp_31, cp_32, cp_33, cp_34, cp_35, cp_36, cp_37, cp_38, cp_39, cp_40, cp_41, cp_42, cp_43, cp_44, cp_45, cp_46, cp_47, cp_48, cp_49, cp_50, cp_51, cp_52, cp_53, cp_54, cp_55, cp_56, cp_57, Mx]
  · rintro n i s hi rfl
    refine .inr ⟨_, ?_, rfl⟩
    have e := fun j => l_cntR R ha hh hi j
    have hc := cnt_le (LIn v a) (LfH v) (LfP v) m h i
    have hx : mx (fun p => cnt (LIn v a) (LfH v) (LfP v) m h p) i ≤ m := mx_le i fun p _ => cnt_le _ _ _ _ _ _
    show _ = f_X12_copies_L31 v (nI a) (nI h) j n (nI (max (mx _ i) (cnt _ _ _ m h i))) _
    generalize mx (fun p => cnt (LIn v a) (LfH v) (LfP v) m h p) i = y at *
    generalize cnt (LIn v a) (LfH v) (LfP v) m h i = z at *
    by_cases c : z ≤ y
    · rw [Nat.max_eq_left c]
      simp (disch := omega) only [f_X12_copies_L31, ↓nmk_e, ↓reduceIte, Option.bind_some, Option.map_some, lit, ofN, nI_add, pk_sub, pk_mul, nI_clamp, nI_leI, nI_ltI, nI_eq, pk_div, nI_an, nleT, nleF, nltT, nltF, neqT, neqF, or_false, false_or, or_self, or_true, true_or, and_self, and_true, true_and, and_false, false_and, not_true_eq_false, not_false_eq_true, f_X12_isSort, f_X12_isDay, f_X11_isSort, f_X11_isDay, inI, inP, f_X5_size, f_X5_isFull, f_X11_now, f_X2_isKind, f_X2_has, f_X3_has, f_X8_hasPage, f_X8_hasAllPages, f_X8_stands, f_X1_isPrinted, f_X1_rule, f_X9_has, f_X9_isFull, f_X12_isPage, f_X12_isVerse, sC_s, sC_n, sC_2, sN_1, sN_s, sN_n, sN_2, sS_1, sS_2, sS_s, sS_n, upd_s, upd_e, upd_n, rAt, rPut, rAdd, rSwap, rPush, rNumber, cp_0, cp_1, cp_2, cp_3, cp_4, cp_5, cp_6, cp_7, cp_8, cp_9, cp_10, cp_11, cp_12, cp_13, cp_14, cp_15, cp_16, cp_17, cp_18, cp_19, cp_20, cp_21, cp_22, cp_23, cp_24, cp_25, cp_26, cp_27, cp_28, cp_29, cp_30, cp_31, cp_32, cp_33, cp_34, cp_35, cp_36, cp_37, cp_38, cp_39, cp_40, cp_41, cp_42, cp_43, cp_44, cp_45, cp_46, cp_47, cp_48, cp_49, cp_50, cp_51, cp_52, cp_53, cp_54, cp_55, cp_56, cp_57, e]
    · rw [Nat.max_eq_right (by omega)]
      simp (disch := omega) only [f_X12_copies_L31, ↓nmk_e, ↓reduceIte, Option.bind_some, Option.map_some, lit, ofN, nI_add, pk_sub, pk_mul, nI_clamp, nI_leI, nI_ltI, nI_eq, pk_div, nI_an, nleT, nleF, nltT, nltF, neqT, neqF, or_false, false_or, or_self, or_true, true_or, and_self, and_true, true_and, and_false, false_and, not_true_eq_false, not_false_eq_true, f_X12_isSort, f_X12_isDay, f_X11_isSort, f_X11_isDay, inI, inP, f_X5_size, f_X5_isFull, f_X11_now, f_X2_isKind, f_X2_has, f_X3_has, f_X8_hasPage, f_X8_hasAllPages, f_X8_stands, f_X1_isPrinted, f_X1_rule, f_X9_has, f_X9_isFull, f_X12_isPage, f_X12_isVerse, sC_s, sC_n, sC_2, sN_1, sN_s, sN_n, sN_2, sS_1, sS_2, sS_s, sS_n, upd_s, upd_e, upd_n, rAt, rPut, rAdd, rSwap, rPush, rNumber, cp_0, cp_1, cp_2, cp_3, cp_4, cp_5, cp_6, cp_7, cp_8, cp_9, cp_10, cp_11, cp_12, cp_13, cp_14, cp_15, cp_16, cp_17, cp_18, cp_19, cp_20, cp_21, cp_22, cp_23, cp_24, cp_25, cp_26, cp_27, cp_28, cp_29, cp_30, cp_31, cp_32, cp_33, cp_34, cp_35, cp_36, cp_37, cp_38, cp_39, cp_40, cp_41, cp_42, cp_43, cp_44, cp_45, cp_46, cp_47, cp_48, cp_49, cp_50, cp_51, cp_52, cp_53, cp_54, cp_55, cp_56, cp_57, e]
theorem Mx_le (In : Nat → Bool) (H P : Nat → Nat) (m h : Nat) : Mx In H P m h ≤ m := mx_le 30 fun p _ => cnt_le _ _ _ _ _ _
theorem copR_step {v : CW} {a n i y z : Nat} (hi : i < 256) (e : ∀ j, f_X12_copies_L31 v (nI a) (nI i) j FU (nI 0) (nI 0) = j (nI y)) : f_X12_copies_L18 v (nI a) (n + 1) (nI z) (nI i) = f_X12_copies_L18 v (nI a) n (nI (z + y)) (nI (i + 1)) := by
  rw [f_X12_copies_L18]
  simp (disch := omega) only [↓nmk_e, ↓reduceIte, Option.bind_some, Option.map_some, lit, ofN, nI_add, pk_sub, pk_mul, nI_clamp, nI_leI, nI_ltI, nI_eq, pk_div, nI_an, nleT, nleF, nltT, nltF, neqT, neqF, or_false, false_or, or_self, or_true, true_or, and_self, and_true, true_and, and_false, false_and, not_true_eq_false, not_false_eq_true, f_X12_isSort, f_X12_isDay, f_X11_isSort, f_X11_isDay, inI, inP, f_X5_size, f_X5_isFull, f_X11_now, f_X2_isKind, f_X2_has, f_X3_has, f_X8_hasPage, f_X8_hasAllPages, f_X8_stands, f_X1_isPrinted, f_X1_rule, f_X9_has, f_X9_isFull, f_X12_isPage, f_X12_isVerse, sC_s, sC_n, sC_2, sN_1, sN_s, sN_n, sN_2, sS_1, sS_2, sS_s, sS_n, upd_s, upd_e, upd_n, rAt, rPut, rAdd, rSwap, rPush, rNumber, cp_0, cp_1, cp_2, cp_3, cp_4, cp_5, cp_6, cp_7, cp_8, cp_9, cp_10, cp_11, cp_12, cp_13, cp_14, cp_15, cp_16, cp_17, cp_18, cp_19, cp_20, cp_21, cp_22, cp_23, cp_24, cp_25, cp_26, cp_27, cp_28, cp_29, cp_30, cp_31, cp_32, cp_33, cp_34, cp_35, cp_36, cp_37, cp_38, cp_39, cp_40, cp_41, cp_42, cp_43, cp_44, cp_45, cp_46, cp_47, cp_48, cp_49, cp_50, cp_51, cp_52, cp_53, cp_54, cp_55, cp_56, cp_57, e]
theorem l_copR {w v : CW} {m a N : Nat} (hN : N = 256) (R : LRow w v m) (ha : a < 1024) : f_X12_copies_L18 v (nI a) FU (nI 0) (nI 0) = some (nI (Tt (LIn v a) (LfH v) (LfP v) N m)) := by
  have hm := R.1
  have eT : Tt (LIn v a) (LfH v) (LfP v) N m = sg (fun h => Mx (LIn v a) (LfH v) (LfP v) m h) N := rfl
  rw [eT]
  refine run1 (fun n i s => f_X12_copies_L18 v (nI a) n s i) (fun i s => s = nI (sg (fun h => Mx (LIn v a) (LfH v) (LfP v) m h) i)) N (fun x => x = some (nI (sg (fun h => Mx (LIn v a) (LfH v) (LfP v) m h) N))) ?_ ?_ FU 0 (nI 0) (Nat.zero_le _) (by unfold FU; omega) rfl
  · rintro n s rfl
    simp (disch := omega) only [f_X12_copies_L18, ↓nmk_e, ↓reduceIte, Option.bind_some, Option.map_some, lit, ofN, nI_add, pk_sub, pk_mul, nI_clamp, nI_leI, nI_ltI, nI_eq, pk_div, nI_an, nleT, nleF, nltT, nltF, neqT, neqF, or_false, false_or, or_self, or_true, true_or, and_self, and_true, true_and, and_false, false_and, not_true_eq_false, not_false_eq_true, f_X12_isSort, f_X12_isDay, f_X11_isSort, f_X11_isDay, inI, inP, f_X5_size, f_X5_isFull, f_X11_now, f_X2_isKind, f_X2_has, f_X3_has, f_X8_hasPage, f_X8_hasAllPages, f_X8_stands, f_X1_isPrinted, f_X1_rule, f_X9_has, f_X9_isFull, f_X12_isPage, f_X12_isVerse, sC_s, sC_n, sC_2, sN_1, sN_s, sN_n, sN_2, sS_1, sS_2, sS_s, sS_n, upd_s, upd_e, upd_n, rAt, rPut, rAdd, rSwap, rPush, rNumber, cp_0, cp_1, cp_2, cp_3, cp_4, cp_5, cp_6, cp_7, cp_8, cp_9, cp_10, cp_11, cp_12, cp_13, cp_14, cp_15, cp_16, cp_17, cp_18, cp_19, cp_20, cp_21, cp_22, cp_23, cp_24, cp_25, cp_26, cp_27, cp_28, cp_29, cp_30, cp_31, cp_32, cp_33, cp_34, cp_35, cp_36, cp_37, cp_38, cp_39, cp_40, cp_41, cp_42, cp_43, cp_44, cp_45, cp_46, cp_47, cp_48, cp_49, cp_50, cp_51, cp_52, cp_53, cp_54, cp_55, cp_56, cp_57]
  · rintro n i s hi rfl
    refine .inr ⟨_, ?_, rfl⟩
    have e := fun j => l_mxR R ha (h := i) (by omega) j
    show _ = f_X12_copies_L18 v (nI a) n (nI (sg _ i + Mx _ _ _ m i)) _
    exact copR_step (by omega) e
/-- the class: ranks in row 50 -/
def Rks (w v : CW) (a n : Nat) : Prop := ∀ t, t < n → w.1 50 t = nI (rk (LIn v a) (LfH v) (LfP v) t)
theorem rk_le (In : Nat → Bool) (H P : Nat → Nat) (k : Nat) : rk In H P k ≤ k + 1 := by
  have := cnt_le In H P k (H k) (P k)
  unfold rk; split <;> omega
theorem l_rank {w v : CW} {m a n : Nat} (R : LRow w v m) (hn : n < m) (hr : Rks w v a n) : f_X2_rankOf w (nI n) = some (nI (cnt (LIn v a) (LfH v) (LfP v) n (LfH v n) (LfP v n) + 1)) := by
  obtain ⟨hm, n1, n2, g⟩ := R
  obtain ⟨-, d2, d3, -, -, -, -, -, -, e2, e3, -⟩ := g n hn
  unfold f_X2_rankOf
  refine run1 (fun q i s => f_X2_rankOf_L4 w (nI n) q s i) (fun i s => s = nI (cnt (LIn v a) (LfH v) (LfP v) i (LfH v n) (LfP v n) + 1)) n (fun x => x = some (nI (cnt (LIn v a) (LfH v) (LfP v) n (LfH v n) (LfP v n) + 1))) ?_ ?_ FU 0 1 (Nat.zero_le _) (by unfold FU; omega) rfl
  · rintro q s rfl
    simp (disch := omega) only [f_X2_rankOf_L4, ↓nmk_e, ↓reduceIte, Option.bind_some, Option.map_some, lit, ofN, nI_add, pk_sub, pk_mul, nI_clamp, nI_leI, nI_ltI, nI_eq, pk_div, nI_an, nleT, nleF, nltT, nltF, neqT, neqF, or_false, false_or, or_self, or_true, true_or, and_self, and_true, true_and, and_false, false_and, not_true_eq_false, not_false_eq_true, f_X12_isSort, f_X12_isDay, f_X11_isSort, f_X11_isDay, inI, inP, f_X5_size, f_X5_isFull, f_X11_now, f_X2_isKind, f_X2_has, f_X3_has, f_X8_hasPage, f_X8_hasAllPages, f_X8_stands, f_X1_isPrinted, f_X1_rule, f_X9_has, f_X9_isFull, f_X12_isPage, f_X12_isVerse, sC_s, sC_n, sC_2, sN_1, sN_s, sN_n, sN_2, sS_1, sS_2, sS_s, sS_n, upd_s, upd_e, upd_n, rAt, rPut, rAdd, rSwap, rPush, rNumber, cp_0, cp_1, cp_2, cp_3, cp_4, cp_5, cp_6, cp_7, cp_8, cp_9, cp_10, cp_11, cp_12, cp_13, cp_14, cp_15, cp_16, cp_17, cp_18, cp_19, cp_20, cp_21, cp_22, cp_23, cp_24, cp_25, cp_26, cp_27, cp_28, cp_29, cp_30, cp_31, cp_32, cp_33, cp_34, cp_35, cp_36, cp_37, cp_38, cp_39, cp_40, cp_41, cp_42, cp_43, cp_44, cp_45, cp_46, cp_47, cp_48, cp_49, cp_50, cp_51, cp_52, cp_53, cp_54, cp_55, cp_56, cp_57]
  · rintro q i s hi rfl
    obtain ⟨-, c2, c3, -, -, -, -, -, -, b2, b3, -⟩ := g i (by omega)
    have hk := hr i hi
    have hkl := rk_le (LIn v a) (LfH v) (LfP v) i
    refine .inr ⟨_, ?_, rfl⟩
    rw [cnt_s]
    have hc := cnt_le (LIn v a) (LfH v) (LfP v) i (LfH v n) (LfP v n)
    generalize cnt (LIn v a) (LfH v) (LfP v) i (LfH v n) (LfP v n) = c at *
    have hpos : LIn v a i = true ↔ 0 < rk (LIn v a) (LfH v) (LfP v) i := by
      unfold rk
      constructor
      · intro z; rw [if_pos z]; omega
      · intro z; split at z
        · assumption
        · omega
    simp only [hpos]
    unfold LfP LfH at *
    generalize rk (LIn v a) (fun k => tN (v.1 0 (3000 + k))) (fun k => tN (v.1 0 (2960 + k))) i = r at *
    generalize tN (v.1 0 (2960 + i)) = k2 at *
    generalize tN (v.1 0 (3000 + i)) = k3 at *
    generalize tN (v.1 0 (2960 + n)) = k4 at *
    generalize tN (v.1 0 (3000 + n)) = k5 at *
    by_cases c0 : k2 = k4
    · by_cases c1 : k3 = k5
      · by_cases c4 : r = 0
        · rw [if_neg (fun q => by omega)]
          simp (disch := omega) only [f_X2_rankOf_L4, ↓nmk_e, ↓reduceIte, Option.bind_some, Option.map_some, lit, ofN, nI_add, pk_sub, pk_mul, nI_clamp, nI_leI, nI_ltI, nI_eq, pk_div, nI_an, nleT, nleF, nltT, nltF, neqT, neqF, or_false, false_or, or_self, or_true, true_or, and_self, and_true, true_and, and_false, false_and, not_true_eq_false, not_false_eq_true, f_X12_isSort, f_X12_isDay, f_X11_isSort, f_X11_isDay, inI, inP, f_X5_size, f_X5_isFull, f_X11_now, f_X2_isKind, f_X2_has, f_X3_has, f_X8_hasPage, f_X8_hasAllPages, f_X8_stands, f_X1_isPrinted, f_X1_rule, f_X9_has, f_X9_isFull, f_X12_isPage, f_X12_isVerse, sC_s, sC_n, sC_2, sN_1, sN_s, sN_n, sN_2, sS_1, sS_2, sS_s, sS_n, upd_s, upd_e, upd_n, rAt, rPut, rAdd, rSwap, rPush, rNumber, cp_0, cp_1, cp_2, cp_3, cp_4, cp_5, cp_6, cp_7, cp_8, cp_9, cp_10, cp_11, cp_12, cp_13, cp_14, cp_15, cp_16, cp_17, cp_18, cp_19, cp_20, cp_21, cp_22, cp_23, cp_24, cp_25, cp_26, cp_27, cp_28, cp_29, cp_30, cp_31, cp_32, cp_33, cp_34, cp_35, cp_36, cp_37, cp_38, cp_39, cp_40, cp_41, cp_42, cp_43, cp_44, cp_45, cp_46, cp_47, cp_48, cp_49, cp_50, cp_51, cp_52, cp_53, cp_54, cp_55, cp_56, cp_57, c2, c3, d2, d3, hk, Nat.add_zero]
        · rw [if_pos ⟨by omega, c1, c0⟩]
          simp (disch := omega) only [f_X2_rankOf_L4, ↓nmk_e, ↓reduceIte, Option.bind_some, Option.map_some, lit, ofN, nI_add, pk_sub, pk_mul, nI_clamp, nI_leI, nI_ltI, nI_eq, pk_div, nI_an, nleT, nleF, nltT, nltF, neqT, neqF, or_false, false_or, or_self, or_true, true_or, and_self, and_true, true_and, and_false, false_and, not_true_eq_false, not_false_eq_true, f_X12_isSort, f_X12_isDay, f_X11_isSort, f_X11_isDay, inI, inP, f_X5_size, f_X5_isFull, f_X11_now, f_X2_isKind, f_X2_has, f_X3_has, f_X8_hasPage, f_X8_hasAllPages, f_X8_stands, f_X1_isPrinted, f_X1_rule, f_X9_has, f_X9_isFull, f_X12_isPage, f_X12_isVerse, sC_s, sC_n, sC_2, sN_1, sN_s, sN_n, sN_2, sS_1, sS_2, sS_s, sS_n, upd_s, upd_e, upd_n, rAt, rPut, rAdd, rSwap, rPush, rNumber, cp_0, cp_1, cp_2, cp_3, cp_4, cp_5, cp_6, cp_7, cp_8, cp_9, cp_10, cp_11, cp_12, cp_13, cp_14, cp_15, cp_16, cp_17, cp_18, cp_19, cp_20, cp_21, cp_22, cp_23, cp_24, cp_25, cp_26, cp_27, cp_28, cp_29, cp_30, cp_31, cp_32, cp_33, cp_34, cp_35, cp_36, cp_37, cp_38, cp_39, cp_40, cp_41, cp_42, cp_43, cp_44, cp_45, cp_46, cp_47, cp_48, cp_49, cp_50, cp_51, cp_52, cp_53, cp_54, cp_55, cp_56, cp_57, c2, c3, d2, d3, hk]
      · rw [if_neg (fun q => c1 q.2.1)]
        simp (disch := omega) only [f_X2_rankOf_L4, ↓nmk_e, ↓reduceIte, Option.bind_some, Option.map_some, lit, ofN, nI_add, pk_sub, pk_mul, nI_clamp, nI_leI, nI_ltI, nI_eq, pk_div, nI_an, nleT, nleF, nltT, nltF, neqT, neqF, or_false, false_or, or_self, or_true, true_or, and_self, and_true, true_and, and_false, false_and, not_true_eq_false, not_false_eq_true, f_X12_isSort, f_X12_isDay, f_X11_isSort, f_X11_isDay, inI, inP, f_X5_size, f_X5_isFull, f_X11_now, f_X2_isKind, f_X2_has, f_X3_has, f_X8_hasPage, f_X8_hasAllPages, f_X8_stands, f_X1_isPrinted, f_X1_rule, f_X9_has, f_X9_isFull, f_X12_isPage, f_X12_isVerse, sC_s, sC_n, sC_2, sN_1, sN_s, sN_n, sN_2, sS_1, sS_2, sS_s, sS_n, upd_s, upd_e, upd_n, rAt, rPut, rAdd, rSwap, rPush, rNumber, cp_0, cp_1, cp_2, cp_3, cp_4, cp_5, cp_6, cp_7, cp_8, cp_9, cp_10, cp_11, cp_12, cp_13, cp_14, cp_15, cp_16, cp_17, cp_18, cp_19, cp_20, cp_21, cp_22, cp_23, cp_24, cp_25, cp_26, cp_27, cp_28, cp_29, cp_30, cp_31, cp_32, cp_33, cp_34, cp_35, cp_36, cp_37, cp_38, cp_39, cp_40, cp_41, cp_42, cp_43, cp_44, cp_45, cp_46, cp_47, cp_48, cp_49, cp_50, cp_51, cp_52, cp_53, cp_54, cp_55, cp_56, cp_57, c2, c3, d2, d3, Nat.add_zero]
    · rw [if_neg (fun q => c0 q.2.2)]
      simp (disch := omega) only [f_X2_rankOf_L4, ↓nmk_e, ↓reduceIte, Option.bind_some, Option.map_some, lit, ofN, nI_add, pk_sub, pk_mul, nI_clamp, nI_leI, nI_ltI, nI_eq, pk_div, nI_an, nleT, nleF, nltT, nltF, neqT, neqF, or_false, false_or, or_self, or_true, true_or, and_self, and_true, true_and, and_false, false_and, not_true_eq_false, not_false_eq_true, f_X12_isSort, f_X12_isDay, f_X11_isSort, f_X11_isDay, inI, inP, f_X5_size, f_X5_isFull, f_X11_now, f_X2_isKind, f_X2_has, f_X3_has, f_X8_hasPage, f_X8_hasAllPages, f_X8_stands, f_X1_isPrinted, f_X1_rule, f_X9_has, f_X9_isFull, f_X12_isPage, f_X12_isVerse, sC_s, sC_n, sC_2, sN_1, sN_s, sN_n, sN_2, sS_1, sS_2, sS_s, sS_n, upd_s, upd_e, upd_n, rAt, rPut, rAdd, rSwap, rPush, rNumber, cp_0, cp_1, cp_2, cp_3, cp_4, cp_5, cp_6, cp_7, cp_8, cp_9, cp_10, cp_11, cp_12, cp_13, cp_14, cp_15, cp_16, cp_17, cp_18, cp_19, cp_20, cp_21, cp_22, cp_23, cp_24, cp_25, cp_26, cp_27, cp_28, cp_29, cp_30, cp_31, cp_32, cp_33, cp_34, cp_35, cp_36, cp_37, cp_38, cp_39, cp_40, cp_41, cp_42, cp_43, cp_44, cp_45, cp_46, cp_47, cp_48, cp_49, cp_50, cp_51, cp_52, cp_53, cp_54, cp_55, cp_56, cp_57, c2, c3, d2, d3, Nat.add_zero]
theorem l_first {w v : CW} {m a n : Nat} (R : LRow w v m) (hn : n < m) (hr : Rks w v a (n + 1)) : (f_X2_isFirstOfRank w (nI n) = some (nI 0) ∧ ∃ k, k < n ∧ LfH v k = LfH v n ∧ rk (LIn v a) (LfH v) (LfP v) k = rk (LIn v a) (LfH v) (LfP v) n) ∨ (f_X2_isFirstOfRank w (nI n) = some (nI 1) ∧ ¬ ∃ k, k < n ∧ LfH v k = LfH v n ∧ rk (LIn v a) (LfH v) (LfP v) k = rk (LIn v a) (LfH v) (LfP v) n) := by
  obtain ⟨hm, n1, n2, g⟩ := R
  obtain ⟨-, d2, d3, -, -, -, -, -, -, e2, e3, -⟩ := g n hn
  have hkn := hr n (by omega)
  have hknl := rk_le (LIn v a) (LfH v) (LfP v) n
  unfold f_X2_isFirstOfRank
  refine run1 (fun q i (_ : Unit) => f_X2_isFirstOfRank_L2 w (nI n) q i) (fun i _ => ∀ k, k < i → ¬ (LfH v k = LfH v n ∧ rk (LIn v a) (LfH v) (LfP v) k = rk (LIn v a) (LfH v) (LfP v) n)) n (fun x => (x = some (nI 0) ∧ ∃ k, k < n ∧ LfH v k = LfH v n ∧ rk (LIn v a) (LfH v) (LfP v) k = rk (LIn v a) (LfH v) (LfP v) n) ∨ (x = some (nI 1) ∧ ¬ ∃ k, k < n ∧ LfH v k = LfH v n ∧ rk (LIn v a) (LfH v) (LfP v) k = rk (LIn v a) (LfH v) (LfP v) n)) ?_ ?_ FU 0 () (Nat.zero_le _) (by unfold FU; omega) (fun k hk => absurd hk (Nat.not_lt_zero k))
  · rintro q _ hI
    refine .inr ⟨?_, fun ⟨k, z1, z2⟩ => hI k z1 z2⟩
    simp (disch := omega) only [f_X2_isFirstOfRank_L2, ↓nmk_e, ↓reduceIte, Option.bind_some, Option.map_some, lit, ofN, nI_add, pk_sub, pk_mul, nI_clamp, nI_leI, nI_ltI, nI_eq, pk_div, nI_an, nleT, nleF, nltT, nltF, neqT, neqF, or_false, false_or, or_self, or_true, true_or, and_self, and_true, true_and, and_false, false_and, not_true_eq_false, not_false_eq_true, f_X12_isSort, f_X12_isDay, f_X11_isSort, f_X11_isDay, inI, inP, f_X5_size, f_X5_isFull, f_X11_now, f_X2_isKind, f_X2_has, f_X3_has, f_X8_hasPage, f_X8_hasAllPages, f_X8_stands, f_X1_isPrinted, f_X1_rule, f_X9_has, f_X9_isFull, f_X12_isPage, f_X12_isVerse, sC_s, sC_n, sC_2, sN_1, sN_s, sN_n, sN_2, sS_1, sS_2, sS_s, sS_n, upd_s, upd_e, upd_n, rAt, rPut, rAdd, rSwap, rPush, rNumber, cp_0, cp_1, cp_2, cp_3, cp_4, cp_5, cp_6, cp_7, cp_8, cp_9, cp_10, cp_11, cp_12, cp_13, cp_14, cp_15, cp_16, cp_17, cp_18, cp_19, cp_20, cp_21, cp_22, cp_23, cp_24, cp_25, cp_26, cp_27, cp_28, cp_29, cp_30, cp_31, cp_32, cp_33, cp_34, cp_35, cp_36, cp_37, cp_38, cp_39, cp_40, cp_41, cp_42, cp_43, cp_44, cp_45, cp_46, cp_47, cp_48, cp_49, cp_50, cp_51, cp_52, cp_53, cp_54, cp_55, cp_56, cp_57]
  · rintro q i _ hi hI
    obtain ⟨-, c2, c3, -, -, -, -, -, -, b2, b3, -⟩ := g i (by omega)
    have hk := hr i (by omega)
    have hkl := rk_le (LIn v a) (LfH v) (LfP v) i
    by_cases c : LfH v i = LfH v n ∧ rk (LIn v a) (LfH v) (LfP v) i = rk (LIn v a) (LfH v) (LfP v) n
    · refine .inl (.inl ⟨?_, i, hi, c⟩)
      simp (disch := omega) only [f_X2_isFirstOfRank_L2, ↓nmk_e, ↓reduceIte, Option.bind_some, Option.map_some, lit, ofN, nI_add, pk_sub, pk_mul, nI_clamp, nI_leI, nI_ltI, nI_eq, pk_div, nI_an, nleT, nleF, nltT, nltF, neqT, neqF, or_false, false_or, or_self, or_true, true_or, and_self, and_true, true_and, and_false, false_and, not_true_eq_false, not_false_eq_true, f_X12_isSort, f_X12_isDay, f_X11_isSort, f_X11_isDay, inI, inP, f_X5_size, f_X5_isFull, f_X11_now, f_X2_isKind, f_X2_has, f_X3_has, f_X8_hasPage, f_X8_hasAllPages, f_X8_stands, f_X1_isPrinted, f_X1_rule, f_X9_has, f_X9_isFull, f_X12_isPage, f_X12_isVerse, sC_s, sC_n, sC_2, sN_1, sN_s, sN_n, sN_2, sS_1, sS_2, sS_s, sS_n, upd_s, upd_e, upd_n, rAt, rPut, rAdd, rSwap, rPush, rNumber, cp_0, cp_1, cp_2, cp_3, cp_4, cp_5, cp_6, cp_7, cp_8, cp_9, cp_10, cp_11, cp_12, cp_13, cp_14, cp_15, cp_16, cp_17, cp_18, cp_19, cp_20, cp_21, cp_22, cp_23, cp_24, cp_25, cp_26, cp_27, cp_28, cp_29, cp_30, cp_31, cp_32, cp_33, cp_34, cp_35, cp_36, cp_37, cp_38, cp_39, cp_40, cp_41, cp_42, cp_43, cp_44, cp_45, cp_46, cp_47, cp_48, cp_49, cp_50, cp_51, cp_52, cp_53, cp_54, cp_55, cp_56, cp_57, c3, d3, c.1, hk, hkn, c.2]
    · refine .inr ⟨(), ?_, fun k hk => ?_⟩
      · by_cases c1 : LfH v i = LfH v n
        · have c2 : rk (LIn v a) (LfH v) (LfP v) i ≠ rk (LIn v a) (LfH v) (LfP v) n := fun z => c ⟨c1, z⟩
          simp (disch := omega) only [f_X2_isFirstOfRank_L2, ↓nmk_e, ↓reduceIte, Option.bind_some, Option.map_some, lit, ofN, nI_add, pk_sub, pk_mul, nI_clamp, nI_leI, nI_ltI, nI_eq, pk_div, nI_an, nleT, nleF, nltT, nltF, neqT, neqF, or_false, false_or, or_self, or_true, true_or, and_self, and_true, true_and, and_false, false_and, not_true_eq_false, not_false_eq_true, f_X12_isSort, f_X12_isDay, f_X11_isSort, f_X11_isDay, inI, inP, f_X5_size, f_X5_isFull, f_X11_now, f_X2_isKind, f_X2_has, f_X3_has, f_X8_hasPage, f_X8_hasAllPages, f_X8_stands, f_X1_isPrinted, f_X1_rule, f_X9_has, f_X9_isFull, f_X12_isPage, f_X12_isVerse, sC_s, sC_n, sC_2, sN_1, sN_s, sN_n, sN_2, sS_1, sS_2, sS_s, sS_n, upd_s, upd_e, upd_n, rAt, rPut, rAdd, rSwap, rPush, rNumber, cp_0, cp_1, cp_2, cp_3, cp_4, cp_5, cp_6, cp_7, cp_8, cp_9, cp_10, cp_11, cp_12, cp_13, cp_14, cp_15, cp_16, cp_17, cp_18, cp_19, cp_20, cp_21, cp_22, cp_23, cp_24, cp_25, cp_26, cp_27, cp_28, cp_29, cp_30, cp_31, cp_32, cp_33, cp_34, cp_35, cp_36, cp_37, cp_38, cp_39, cp_40, cp_41, cp_42, cp_43, cp_44, cp_45, cp_46, cp_47, cp_48, cp_49, cp_50, cp_51, cp_52, cp_53, cp_54, cp_55, cp_56, cp_57, c3, d3, c1, hk, hkn]
        · simp (disch := omega) only [f_X2_isFirstOfRank_L2, ↓nmk_e, ↓reduceIte, Option.bind_some, Option.map_some, lit, ofN, nI_add, pk_sub, pk_mul, nI_clamp, nI_leI, nI_ltI, nI_eq, pk_div, nI_an, nleT, nleF, nltT, nltF, neqT, neqF, or_false, false_or, or_self, or_true, true_or, and_self, and_true, true_and, and_false, false_and, not_true_eq_false, not_false_eq_true, f_X12_isSort, f_X12_isDay, f_X11_isSort, f_X11_isDay, inI, inP, f_X5_size, f_X5_isFull, f_X11_now, f_X2_isKind, f_X2_has, f_X3_has, f_X8_hasPage, f_X8_hasAllPages, f_X8_stands, f_X1_isPrinted, f_X1_rule, f_X9_has, f_X9_isFull, f_X12_isPage, f_X12_isVerse, sC_s, sC_n, sC_2, sN_1, sN_s, sN_n, sN_2, sS_1, sS_2, sS_s, sS_n, upd_s, upd_e, upd_n, rAt, rPut, rAdd, rSwap, rPush, rNumber, cp_0, cp_1, cp_2, cp_3, cp_4, cp_5, cp_6, cp_7, cp_8, cp_9, cp_10, cp_11, cp_12, cp_13, cp_14, cp_15, cp_16, cp_17, cp_18, cp_19, cp_20, cp_21, cp_22, cp_23, cp_24, cp_25, cp_26, cp_27, cp_28, cp_29, cp_30, cp_31, cp_32, cp_33, cp_34, cp_35, cp_36, cp_37, cp_38, cp_39, cp_40, cp_41, cp_42, cp_43, cp_44, cp_45, cp_46, cp_47, cp_48, cp_49, cp_50, cp_51, cp_52, cp_53, cp_54, cp_55, cp_56, cp_57, c3, d3]
      · by_cases q : k = i
        · rw [q]; exact c
        · exact hI k (by omega)
theorem l_copC {w v : CW} {m a N : Nat} (hN : N = 256) (R : LRow w v m) (ha : a < 1024) : ∃ w', f_X2_fewestCopies w (nI a) = some (nI (Tt (LIn v a) (LfH v) (LfP v) N m), w') ∧ (∀ k, k ≠ 50 → w'.1 k = w.1 k) ∧ w'.2 = w.2 := by
  have hm := R.1
  have T0 : Tt (LIn v a) (LfH v) (LfP v) N 0 = 0 := by
    have e1 : ∀ h, Mx (LIn v a) (LfH v) (LfP v) 0 h = 0 := fun h => by have := Mx_le (LIn v a) (LfH v) (LfP v) 0 h; omega
    have e2 : ∀ N, sg (fun h => Mx (LIn v a) (LfH v) (LfP v) 0 h) N ≤ N * 0 := fun N => sg_le N fun i _ => by rw [e1]; exact Nat.le_refl _
    have : Tt (LIn v a) (LfH v) (LfP v) N 0 ≤ N * 0 := e2 N
    omega
  have Tl : ∀ n, n ≤ m → Tt (LIn v a) (LfH v) (LfP v) N n ≤ n := by
    intro n
    induction n with
    | zero => intro _; omega
    | succ n ih =>
      intro h
      have := ih (by omega)
      obtain ⟨-, -, -, -, -, -, -, -, -, b2, b3, -⟩ := R.2.2.2 n (by omega)
      rw [Tt_s _ _ _ (by omega) (by omega)]
      split <;> omega
  unfold f_X2_fewestCopies
  refine run1 (fun q i (s : Int32 × CW) => f_X2_fewestCopies_L4 (nI a) q s.1 i s.2) (fun i s => s.1 = nI (Tt (LIn v a) (LfH v) (LfP v) N i) ∧ Rks s.2 v a i ∧ (∀ k, k ≠ 50 → s.2.1 k = w.1 k) ∧ s.2.2 = w.2) m (fun x => ∃ w', x = some (nI (Tt (LIn v a) (LfH v) (LfP v) N m), w') ∧ (∀ k, k ≠ 50 → w'.1 k = w.1 k) ∧ w'.2 = w.2) ?_ ?_ FU 0 (0, w) (Nat.zero_le _) (by unfold FU; omega) ⟨by rw [T0]; rfl, fun t ht => absurd ht (Nat.not_lt_zero t), fun _ _ => rfl, rfl⟩
  · rintro q ⟨s, u⟩ ⟨rfl, h1, h2, h3⟩
    refine ⟨u, ?_, h2, h3⟩
    have n1 : u.2.1 23 = nI m := by rw [h3]; exact R.2.1
    simp (disch := omega) only [f_X2_fewestCopies_L4, ↓nmk_e, ↓reduceIte, Option.bind_some, Option.map_some, lit, ofN, nI_add, pk_sub, pk_mul, nI_clamp, nI_leI, nI_ltI, nI_eq, pk_div, nI_an, nleT, nleF, nltT, nltF, neqT, neqF, or_false, false_or, or_self, or_true, true_or, and_self, and_true, true_and, and_false, false_and, not_true_eq_false, not_false_eq_true, f_X12_isSort, f_X12_isDay, f_X11_isSort, f_X11_isDay, inI, inP, f_X5_size, f_X5_isFull, f_X11_now, f_X2_isKind, f_X2_has, f_X3_has, f_X8_hasPage, f_X8_hasAllPages, f_X8_stands, f_X1_isPrinted, f_X1_rule, f_X9_has, f_X9_isFull, f_X12_isPage, f_X12_isVerse, sC_s, sC_n, sC_2, sN_1, sN_s, sN_n, sN_2, sS_1, sS_2, sS_s, sS_n, upd_s, upd_e, upd_n, rAt, rPut, rAdd, rSwap, rPush, rNumber, cp_0, cp_1, cp_2, cp_3, cp_4, cp_5, cp_6, cp_7, cp_8, cp_9, cp_10, cp_11, cp_12, cp_13, cp_14, cp_15, cp_16, cp_17, cp_18, cp_19, cp_20, cp_21, cp_22, cp_23, cp_24, cp_25, cp_26, cp_27, cp_28, cp_29, cp_30, cp_31, cp_32, cp_33, cp_34, cp_35, cp_36, cp_37, cp_38, cp_39, cp_40, cp_41, cp_42, cp_43, cp_44, cp_45, cp_46, cp_47, cp_48, cp_49, cp_50, cp_51, cp_52, cp_53, cp_54, cp_55, cp_56, cp_57, n1]
  · rintro q i ⟨s, u⟩ hi ⟨rfl, h1, h2, h3⟩
    have Ru : LRow u v m := by
      obtain ⟨r1, r2, r3, r4⟩ := R
      exact ⟨r1, by rw [h3]; exact r2, r3, fun k hk => by rw [h2 23 (by decide), h2 24 (by decide), h2 25 (by decide), h2 26 (by decide)]; exact r4 k hk⟩
    obtain ⟨k1, k2, k3, k4, -, -, -, -, b1, b2, b3, b4⟩ := Ru.2.2.2 i hi
    have n1 := Ru.2.1
    have er := l_rank Ru hi h1
    have hTl := Tl i (by omega)
    have hcl := cnt_le (LIn v a) (LfH v) (LfP v) i (LfH v i) (LfP v i)
    have hb := Nat.mod_two_eq_zero_or_one (a / 2 ^ tN (v.1 0 (3040 + i)))
    have hts := Tt_s (LIn v a) (LfH v) (LfP v) (N := N) (n := i) (by omega) (by omega)
    have hI : LIn v a i = true ↔ (tN (v.1 0 (2920 + i)) ≠ 4 ∧ a / 2 ^ tN (v.1 0 (3040 + i)) % 2 = 1) := by unfold LIn; exact decide_eq_true_iff
    by_cases cI : LIn v a i = true
    · obtain ⟨q1, q2⟩ := hI.mp cI
      have hrk : rk (LIn v a) (LfH v) (LfP v) i = cnt (LIn v a) (LfH v) (LfP v) i (LfH v i) (LfP v i) + 1 := if_pos cI
      let u' := sC u 50 i (nI (cnt (LIn v a) (LfH v) (LfP v) i (LfH v i) (LfP v i) + 1))
      have hr' : Rks u' v a (i + 1) := fun t ht => by
        show (sC u 50 i _).1 50 t = _
        by_cases c : t = i
        · subst c
          simp (disch := omega) only [sC_s, sC_n, sC_2, sN_1, sN_s, sN_n, sN_2, sS_1, sS_2, sS_s, sS_n, upd_s, upd_e, upd_n, hrk]
        · simp (disch := omega) only [sC_s, sC_n, sC_2, sN_1, sN_s, sN_n, sN_2, sS_1, sS_2, sS_s, sS_n, upd_s, upd_e, upd_n]
          exact h1 t (by omega)
      have Ru' : LRow u' v m := by
        obtain ⟨r1, r2, r3, r4⟩ := Ru
        exact ⟨r1, r2, r3, fun k hk => by
          show (sC u 50 i _).1 23 k = _ ∧ (sC u 50 i _).1 24 k = _ ∧ (sC u 50 i _).1 25 k = _ ∧ (sC u 50 i _).1 26 k = _ ∧ _
          simp (disch := omega) only [sC_s, sC_n, sC_2, sN_1, sN_s, sN_n, sN_2, sS_1, sS_2, sS_s, sS_n, upd_s, upd_e, upd_n]
          exact r4 k hk⟩
      have hex := rk_ex (LIn v a) (LfH v) (LfP v) (n := i) (fun k hk => by have := (Ru.2.2.2 k (by omega)).2.2.2.2.2.2.2.2.2.1; omega) cI
      rcases l_first Ru' hi hr' with ⟨e1, e2⟩ | ⟨e1, e2⟩
      · have e3 := hex.mp e2
        refine .inr ⟨(nI (Tt (LIn v a) (LfH v) (LfP v) N (i + 1)), u'), ?_, rfl, hr', fun k hk => ?_, h3⟩
        · rw [hts, if_neg (fun z => by omega)]
          have e1 : f_X2_isFirstOfRank (sC u 50 i (nI (cnt (LIn v a) (LfH v) (LfP v) i (LfH v i) (LfP v i) + 1))) (nI i) = some (nI 0) := e1
          simp (disch := omega) only [f_X2_fewestCopies_L4, ↓nmk_e, ↓reduceIte, Option.bind_some, Option.map_some, lit, ofN, nI_add, pk_sub, pk_mul, nI_clamp, nI_leI, nI_ltI, nI_eq, pk_div, nI_an, nleT, nleF, nltT, nltF, neqT, neqF, or_false, false_or, or_self, or_true, true_or, and_self, and_true, true_and, and_false, false_and, not_true_eq_false, not_false_eq_true, f_X12_isSort, f_X12_isDay, f_X11_isSort, f_X11_isDay, inI, inP, f_X5_size, f_X5_isFull, f_X11_now, f_X2_isKind, f_X2_has, f_X3_has, f_X8_hasPage, f_X8_hasAllPages, f_X8_stands, f_X1_isPrinted, f_X1_rule, f_X9_has, f_X9_isFull, f_X12_isPage, f_X12_isVerse, sC_s, sC_n, sC_2, sN_1, sN_s, sN_n, sN_2, sS_1, sS_2, sS_s, sS_n, upd_s, upd_e, upd_n, rAt, rPut, rAdd, rSwap, rPush, rNumber, cp_0, cp_1, cp_2, cp_3, cp_4, cp_5, cp_6, cp_7, cp_8, cp_9, cp_10, cp_11, cp_12, cp_13, cp_14, cp_15, cp_16, cp_17, cp_18, cp_19, cp_20, cp_21, cp_22, cp_23, cp_24, cp_25, cp_26, cp_27, cp_28, cp_29, cp_30, cp_31, cp_32, cp_33, cp_34, cp_35, cp_36, cp_37, cp_38, cp_39, cp_40, cp_41, cp_42, cp_43, cp_44, cp_45, cp_46, cp_47, cp_48, cp_49, cp_50, cp_51, cp_52, cp_53, cp_54, cp_55, cp_56, cp_57, n1, f_X2_counts, k1, k4, sbit, q2, er, e1, Nat.add_zero]
          rfl
        · show (sC u 50 i _).1 k = _
          simp (disch := omega) only [sC_s, sC_n, sC_2, sN_1, sN_s, sN_n, sN_2, sS_1, sS_2, sS_s, sS_n, upd_s, upd_e, upd_n]
          exact h2 k hk
      · have e3 : ¬ _ := fun z => e2 (hex.mpr z)
        refine .inr ⟨(nI (Tt (LIn v a) (LfH v) (LfP v) N (i + 1)), u'), ?_, rfl, hr', fun k hk => ?_, h3⟩
        · rw [hts, if_pos ⟨cI, by omega⟩]
          have e1 : f_X2_isFirstOfRank (sC u 50 i (nI (cnt (LIn v a) (LfH v) (LfP v) i (LfH v i) (LfP v i) + 1))) (nI i) = some (nI 1) := e1
          simp (disch := omega) only [f_X2_fewestCopies_L4, ↓nmk_e, ↓reduceIte, Option.bind_some, Option.map_some, lit, ofN, nI_add, pk_sub, pk_mul, nI_clamp, nI_leI, nI_ltI, nI_eq, pk_div, nI_an, nleT, nleF, nltT, nltF, neqT, neqF, or_false, false_or, or_self, or_true, true_or, and_self, and_true, true_and, and_false, false_and, not_true_eq_false, not_false_eq_true, f_X12_isSort, f_X12_isDay, f_X11_isSort, f_X11_isDay, inI, inP, f_X5_size, f_X5_isFull, f_X11_now, f_X2_isKind, f_X2_has, f_X3_has, f_X8_hasPage, f_X8_hasAllPages, f_X8_stands, f_X1_isPrinted, f_X1_rule, f_X9_has, f_X9_isFull, f_X12_isPage, f_X12_isVerse, sC_s, sC_n, sC_2, sN_1, sN_s, sN_n, sN_2, sS_1, sS_2, sS_s, sS_n, upd_s, upd_e, upd_n, rAt, rPut, rAdd, rSwap, rPush, rNumber, cp_0, cp_1, cp_2, cp_3, cp_4, cp_5, cp_6, cp_7, cp_8, cp_9, cp_10, cp_11, cp_12, cp_13, cp_14, cp_15, cp_16, cp_17, cp_18, cp_19, cp_20, cp_21, cp_22, cp_23, cp_24, cp_25, cp_26, cp_27, cp_28, cp_29, cp_30, cp_31, cp_32, cp_33, cp_34, cp_35, cp_36, cp_37, cp_38, cp_39, cp_40, cp_41, cp_42, cp_43, cp_44, cp_45, cp_46, cp_47, cp_48, cp_49, cp_50, cp_51, cp_52, cp_53, cp_54, cp_55, cp_56, cp_57, n1, f_X2_counts, k1, k4, sbit, q2, er, e1]
          rfl
        · show (sC u 50 i _).1 k = _
          simp (disch := omega) only [sC_s, sC_n, sC_2, sN_1, sN_s, sN_n, sN_2, sS_1, sS_2, sS_s, sS_n, upd_s, upd_e, upd_n]
          exact h2 k hk
    · have hrk : rk (LIn v a) (LfH v) (LfP v) i = 0 := if_neg cI
      have hr' : Rks (sC u 50 i (nI 0)) v a (i + 1) := fun t ht => by
        by_cases c : t = i
        · subst c
          simp (disch := omega) only [sC_s, sC_n, sC_2, sN_1, sN_s, sN_n, sN_2, sS_1, sS_2, sS_s, sS_n, upd_s, upd_e, upd_n, hrk]
        · simp (disch := omega) only [sC_s, sC_n, sC_2, sN_1, sN_s, sN_n, sN_2, sS_1, sS_2, sS_s, sS_n, upd_s, upd_e, upd_n]
          exact h1 t (by omega)
      refine .inr ⟨(nI (Tt (LIn v a) (LfH v) (LfP v) N (i + 1)), sC u 50 i (nI 0)), ?_, rfl, hr', fun k hk => ?_, h3⟩
      · rw [hts, if_neg (fun z => cI z.1)]
        by_cases q1 : tN (v.1 0 (2920 + i)) = 4
        · simp (disch := omega) only [f_X2_fewestCopies_L4, ↓nmk_e, ↓reduceIte, Option.bind_some, Option.map_some, lit, ofN, nI_add, pk_sub, pk_mul, nI_clamp, nI_leI, nI_ltI, nI_eq, pk_div, nI_an, nleT, nleF, nltT, nltF, neqT, neqF, or_false, false_or, or_self, or_true, true_or, and_self, and_true, true_and, and_false, false_and, not_true_eq_false, not_false_eq_true, f_X12_isSort, f_X12_isDay, f_X11_isSort, f_X11_isDay, inI, inP, f_X5_size, f_X5_isFull, f_X11_now, f_X2_isKind, f_X2_has, f_X3_has, f_X8_hasPage, f_X8_hasAllPages, f_X8_stands, f_X1_isPrinted, f_X1_rule, f_X9_has, f_X9_isFull, f_X12_isPage, f_X12_isVerse, sC_s, sC_n, sC_2, sN_1, sN_s, sN_n, sN_2, sS_1, sS_2, sS_s, sS_n, upd_s, upd_e, upd_n, rAt, rPut, rAdd, rSwap, rPush, rNumber, cp_0, cp_1, cp_2, cp_3, cp_4, cp_5, cp_6, cp_7, cp_8, cp_9, cp_10, cp_11, cp_12, cp_13, cp_14, cp_15, cp_16, cp_17, cp_18, cp_19, cp_20, cp_21, cp_22, cp_23, cp_24, cp_25, cp_26, cp_27, cp_28, cp_29, cp_30, cp_31, cp_32, cp_33, cp_34, cp_35, cp_36, cp_37, cp_38, cp_39, cp_40, cp_41, cp_42, cp_43, cp_44, cp_45, cp_46, cp_47, cp_48, cp_49, cp_50, cp_51, cp_52, cp_53, cp_54, cp_55, cp_56, cp_57, n1, f_X2_counts, k1, Nat.add_zero]
        · have q2 : a / 2 ^ tN (v.1 0 (3040 + i)) % 2 = 0 := by
            rcases hb with z | z
            · exact z
            · exact absurd (hI.mpr ⟨q1, z⟩) cI
          simp (disch := omega) only [f_X2_fewestCopies_L4, ↓nmk_e, ↓reduceIte, Option.bind_some, Option.map_some, lit, ofN, nI_add, pk_sub, pk_mul, nI_clamp, nI_leI, nI_ltI, nI_eq, pk_div, nI_an, nleT, nleF, nltT, nltF, neqT, neqF, or_false, false_or, or_self, or_true, true_or, and_self, and_true, true_and, and_false, false_and, not_true_eq_false, not_false_eq_true, f_X12_isSort, f_X12_isDay, f_X11_isSort, f_X11_isDay, inI, inP, f_X5_size, f_X5_isFull, f_X11_now, f_X2_isKind, f_X2_has, f_X3_has, f_X8_hasPage, f_X8_hasAllPages, f_X8_stands, f_X1_isPrinted, f_X1_rule, f_X9_has, f_X9_isFull, f_X12_isPage, f_X12_isVerse, sC_s, sC_n, sC_2, sN_1, sN_s, sN_n, sN_2, sS_1, sS_2, sS_s, sS_n, upd_s, upd_e, upd_n, rAt, rPut, rAdd, rSwap, rPush, rNumber, cp_0, cp_1, cp_2, cp_3, cp_4, cp_5, cp_6, cp_7, cp_8, cp_9, cp_10, cp_11, cp_12, cp_13, cp_14, cp_15, cp_16, cp_17, cp_18, cp_19, cp_20, cp_21, cp_22, cp_23, cp_24, cp_25, cp_26, cp_27, cp_28, cp_29, cp_30, cp_31, cp_32, cp_33, cp_34, cp_35, cp_36, cp_37, cp_38, cp_39, cp_40, cp_41, cp_42, cp_43, cp_44, cp_45, cp_46, cp_47, cp_48, cp_49, cp_50, cp_51, cp_52, cp_53, cp_54, cp_55, cp_56, cp_57, n1, f_X2_counts, k1, k4, sbit, q2, Nat.add_zero]
      · simp (disch := omega) only [sC_s, sC_n, sC_2, sN_1, sN_s, sN_n, sN_2, sS_1, sS_2, sS_s, sS_n, upd_s, upd_e, upd_n]
        exact h2 k hk
theorem s_copies {w v : CW} (h : Sim w v) (a : Int32) : Same w v (f_X11_copies w a) ((f_X12_copies v a).map (fun x => (x, v))) := by
  obtain ⟨m, R⟩ := LRow_of h
  obtain ⟨N, hN⟩ : ∃ N, N = 256 := ⟨_, rfl⟩
  unfold f_X11_copies f_X12_copies
  rcases rng3 a 0 1023 with c | ⟨i, hi, rfl, c⟩ | ⟨i, hi0, hi, hi2, rfl⟩
  · simp (disch := omega) only [↓nmk_e, ↓reduceIte, Option.bind_some, Option.map_some, lit, ofN, nI_add, pk_sub, pk_mul, nI_clamp, nI_leI, nI_ltI, nI_eq, pk_div, nI_an, nleT, nleF, nltT, nltF, neqT, neqF, or_false, false_or, or_self, or_true, true_or, and_self, and_true, true_and, and_false, false_and, not_true_eq_false, not_false_eq_true, f_X12_isSort, f_X12_isDay, f_X11_isSort, f_X11_isDay, inI, inP, f_X5_size, f_X5_isFull, f_X11_now, f_X2_isKind, f_X2_has, f_X3_has, f_X8_hasPage, f_X8_hasAllPages, f_X8_stands, f_X1_isPrinted, f_X1_rule, f_X9_has, f_X9_isFull, f_X12_isPage, f_X12_isVerse, sC_s, sC_n, sC_2, sN_1, sN_s, sN_n, sN_2, sS_1, sS_2, sS_s, sS_n, upd_s, upd_e, upd_n, rAt, rPut, rAdd, rSwap, rPush, rNumber, cp_0, cp_1, cp_2, cp_3, cp_4, cp_5, cp_6, cp_7, cp_8, cp_9, cp_10, cp_11, cp_12, cp_13, cp_14, cp_15, cp_16, cp_17, cp_18, cp_19, cp_20, cp_21, cp_22, cp_23, cp_24, cp_25, cp_26, cp_27, cp_28, cp_29, cp_30, cp_31, cp_32, cp_33, cp_34, cp_35, cp_36, cp_37, cp_38, cp_39, cp_40, cp_41, cp_42, cp_43, cp_44, cp_45, cp_46, cp_47, cp_48, cp_49, cp_50, cp_51, cp_52, cp_53, cp_54, cp_55, cp_56, cp_57, ng1 c, ng2 c, ng3 c, ng4 c, ng5 c, inN c]
    exact ⟨_, _, _, rfl, rfl, h⟩
  · simp (disch := omega) only [↓nmk_e, ↓reduceIte, Option.bind_some, Option.map_some, lit, ofN, nI_add, pk_sub, pk_mul, nI_clamp, nI_leI, nI_ltI, nI_eq, pk_div, nI_an, nleT, nleF, nltT, nltF, neqT, neqF, or_false, false_or, or_self, or_true, true_or, and_self, and_true, true_and, and_false, false_and, not_true_eq_false, not_false_eq_true, f_X12_isSort, f_X12_isDay, f_X11_isSort, f_X11_isDay, inI, inP, f_X5_size, f_X5_isFull, f_X11_now, f_X2_isKind, f_X2_has, f_X3_has, f_X8_hasPage, f_X8_hasAllPages, f_X8_stands, f_X1_isPrinted, f_X1_rule, f_X9_has, f_X9_isFull, f_X12_isPage, f_X12_isVerse, sC_s, sC_n, sC_2, sN_1, sN_s, sN_n, sN_2, sS_1, sS_2, sS_s, sS_n, upd_s, upd_e, upd_n, rAt, rPut, rAdd, rSwap, rPush, rNumber, cp_0, cp_1, cp_2, cp_3, cp_4, cp_5, cp_6, cp_7, cp_8, cp_9, cp_10, cp_11, cp_12, cp_13, cp_14, cp_15, cp_16, cp_17, cp_18, cp_19, cp_20, cp_21, cp_22, cp_23, cp_24, cp_25, cp_26, cp_27, cp_28, cp_29, cp_30, cp_31, cp_32, cp_33, cp_34, cp_35, cp_36, cp_37, cp_38, cp_39, cp_40, cp_41, cp_42, cp_43, cp_44, cp_45, cp_46, cp_47, cp_48, cp_49, cp_50, cp_51, cp_52, cp_53, cp_54, cp_55, cp_56, cp_57]
    exact ⟨_, _, _, rfl, rfl, h⟩
  · obtain ⟨w', e1, e2, e3⟩ := l_copC hN R (a := i) (by omega)
    have e4 := l_copR hN R (a := i) (by omega)
    simp (disch := omega) only [↓nmk_e, ↓reduceIte, Option.bind_some, Option.map_some, lit, ofN, nI_add, pk_sub, pk_mul, nI_clamp, nI_leI, nI_ltI, nI_eq, pk_div, nI_an, nleT, nleF, nltT, nltF, neqT, neqF, or_false, false_or, or_self, or_true, true_or, and_self, and_true, true_and, and_false, false_and, not_true_eq_false, not_false_eq_true, f_X12_isSort, f_X12_isDay, f_X11_isSort, f_X11_isDay, inI, inP, f_X5_size, f_X5_isFull, f_X11_now, f_X2_isKind, f_X2_has, f_X3_has, f_X8_hasPage, f_X8_hasAllPages, f_X8_stands, f_X1_isPrinted, f_X1_rule, f_X9_has, f_X9_isFull, f_X12_isPage, f_X12_isVerse, sC_s, sC_n, sC_2, sN_1, sN_s, sN_n, sN_2, sS_1, sS_2, sS_s, sS_n, upd_s, upd_e, upd_n, rAt, rPut, rAdd, rSwap, rPush, rNumber, cp_0, cp_1, cp_2, cp_3, cp_4, cp_5, cp_6, cp_7, cp_8, cp_9, cp_10, cp_11, cp_12, cp_13, cp_14, cp_15, cp_16, cp_17, cp_18, cp_19, cp_20, cp_21, cp_22, cp_23, cp_24, cp_25, cp_26, cp_27, cp_28, cp_29, cp_30, cp_31, cp_32, cp_33, cp_34, cp_35, cp_36, cp_37, cp_38, cp_39, cp_40, cp_41, cp_42, cp_43, cp_44, cp_45, cp_46, cp_47, cp_48, cp_49, cp_50, cp_51, cp_52, cp_53, cp_54, cp_55, cp_56, cp_57, e1, e4]
    refine ⟨_, _, _, rfl, rfl, Sim_scr h (fun k hk => ?_) ?_ rfl rfl rfl⟩
    · exact ⟨e2 k (by omega), by rw [e3]⟩
    · rw [e3]
