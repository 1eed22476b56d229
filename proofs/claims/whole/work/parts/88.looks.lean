/-! gather and looks -/
def foA (s : Nat → Int32) (d : Nat → Nat) (D : Nat) (l : List Nat) : CA := (l.filter (fun b => decide (d b ≤ D))).foldr (wayF s) iniA
theorem foA_cons (s : Nat → Int32) (d : Nat → Nat) (D x : Nat) (l : List Nat) : foA s d D (x :: l) = if d x ≤ D then wayF s x (foA s d D l) else foA s d D l := by
  unfold foA
  by_cases c : d x ≤ D
  · rw [if_pos c, List.filter_cons_of_pos (p := fun b => decide (d b ≤ D)) (decide_eq_true c)]; rfl
  · rw [if_neg c, List.filter_cons_of_neg (p := fun b => decide (d b ≤ D)) (by rw [decide_eq_false c]; decide)]
theorem foA_f {s : Nat → Int32} {d : Nat → Nat} {D : Nat} : ∀ {l : List Nat}, (∀ a, a ∈ l → wayN s a ≤ 8) → (foA s d D l).2.2 ≤ 8 * l.length := by
  intro l
  induction l with
  | nil => intro _; exact Nat.le_refl _
  | cons x l ih =>
    intro h
    have h1 := ih (fun a ha => h a (List.mem_cons_of_mem _ ha))
    have h2 := h x List.mem_cons_self
    have h3 := wayA_f s x (wayN s x) (foA s d D l)
    have h3 : (wayF s x (foA s d D l)).2.2 ≤ (foA s d D l).2.2 + wayN s x := h3
    rw [foA_cons, List.length_cons]
    by_cases c : d x ≤ D
    · rw [if_pos c]
      generalize (wayF s x (foA s d D l)).2.2 = u at *
      generalize (foA s d D l).2.2 = t at *
      omega
    · rw [if_neg c]
      generalize (foA s d D l).2.2 = t at *
      omega
theorem iniA_ok : okA iniA := by
  refine ⟨fun j j1 j2 => ?_, ⟨5, by decide, rfl⟩, ⟨1, by decide, rfl⟩, fun k w u e => by cases e⟩
  have : j = 2 ∨ j = 3 ∨ j = 4 := by omega
  rcases this with rfl | rfl | rfl
  · exact ⟨12, by decide, rfl⟩
  · exact ⟨1, by decide, rfl⟩
  · exact ⟨3, by decide, rfl⟩
theorem foA_ok {s : Nat → Int32} {d : Nat → Nat} {D : Nat} : ∀ {l : List Nat}, (∀ a, a ∈ l → okW s a) → okA (foA s d D l) := by
  intro l
  induction l with
  | nil => intro _; exact iniA_ok
  | cons x l ih =>
    intro h
    have h1 := ih (fun a ha => h a (List.mem_cons_of_mem _ ha))
    rw [foA_cons]
    by_cases c : d x ≤ D
    · rw [if_pos c]; exact h1.way _ _ (h x List.mem_cons_self).2.2
    · rw [if_neg c]; exact h1
/-- the class's ways -/
def WC (x : CW) (s : Nat → Int32) (d : Nat → Nat) (m : Nat) : Prop := m ≤ 8 ∧ x.2.1 2 = nI m ∧ x.2.1 3 = nI m ∧ (∀ a, a < m → x.1 2 a = nI (d a) ∧ d a ≤ 999) ∧ Rep (x.1 3) (ordR d m) ∧ ∀ a, a < m → x.1 5 a = nI (wayN s a) ∧ wayN s a ≤ 8 ∧ ∀ k, k < wayN s a → cClause x.1 s (8 * a + k)
/-- the reference's ways -/
def WR (s : Nat → Int32) (d : Nat → Nat) (m : Nat) : Prop := m ≤ 9 ∧ s 1 = nI m ∧ ∀ a, a < m → s (230 + a) = nI (d a) ∧ dyF s a = d a ∧ d a ≤ 999 ∧ okW s a
theorem WC_of {w v : CW} (h : Sim w v) : ∃ m, WC w (v.1 0) (dyF (v.1 0)) m ∧ WR (v.1 0) (dyF (v.1 0)) m ∧ ∀ a, a < m → cFeast w.1 (v.1 0) a (wayN (v.1 0) a) := by
  obtain ⟨m, hm, n1, n2, n3, d, g1, g2, g3⟩ := h.g2
  have hd : ∀ a, a < m → dyF (v.1 0) a = d a := fun a ha => by
    unfold dyF; rw [(g1 a ha).2.1]; exact nI_clamp (by have := (g1 a ha).2.2; omega)
  have hw : ∀ a, a < m → ∃ c, c ≤ 8 ∧ wayN (v.1 0) a = c ∧ w.1 5 a = nI c ∧ v.1 0 (1330 + a) = nI c ∧ (∀ k, k < c → cClause w.1 (v.1 0) (8 * a + k)) ∧ cFeast w.1 (v.1 0) a c := fun a ha => by
    obtain ⟨c, c1, c2, c3, c4, c5, c6⟩ := g3 a ha
    refine ⟨c, c2, ?_, c3, c4, c5, c6⟩
    unfold wayN; rw [c4]; exact nI_clamp (by omega)
  refine ⟨m, ⟨hm, n1, n2, fun a ha => ?_, ?_, fun a ha => ?_⟩, ⟨by omega, n3, fun a ha => ?_⟩, fun a ha => ?_⟩
  · rw [hd a ha]; exact ⟨(g1 a ha).1, (g1 a ha).2.2⟩
  · rw [ordR_congr hd]; exact g2
  · obtain ⟨c, c1, c2, c3, c4, c5, c6⟩ := hw a ha
    rw [c2]; exact ⟨c3, c1, c5⟩
  · obtain ⟨c, c1, c2, c3, c4, c5, c6⟩ := hw a ha
    refine ⟨by rw [hd a ha]; exact (g1 a ha).2.1, rfl, by rw [hd a ha]; exact (g1 a ha).2.2, by rw [c2]; exact c4, by omega, fun k hk => (c5 k (by omega)).ok.1⟩
  · obtain ⟨c, c1, c2, c3, c4, c5, c6⟩ := hw a ha
    rw [c2]; exact c6
theorem WC.fr {x x' : CW} {s : Nat → Int32} {d : Nat → Nat} {m : Nat} (h : WC x s d m) (hF : CFr x x') : WC x' s d m := by
  obtain ⟨h1, h2, h3, h4, h5, h6⟩ := h
  obtain ⟨f1, f2, f3⟩ := hF
  refine ⟨h1, by rw [f2 2 (by decide)]; exact h2, by rw [f2 3 (by decide)]; exact h3, ?_, ?_, ?_⟩
  · rw [f1 2 (by decide) (by decide) (by decide)]; exact h4
  · rw [f1 3 (by decide) (by decide) (by decide)]; exact h5
  · intro a ha
    have := h6 a ha
    unfold cClause at this ⊢
    rw [f1 5 (by decide) (by decide) (by decide), f1 6 (by decide) (by decide) (by decide), f1 7 (by decide) (by decide) (by decide), f1 8 (by decide) (by decide) (by decide), f1 9 (by decide) (by decide) (by decide)]
    exact this
def colN (A : CA) : Nat := max 10 (min (tN (A.1 2)) 40)
def leaN (A : CA) : Nat := max 1 (min (tN (A.1 3)) 9)
def mosN (A : CA) : Nat := max (leaN A) (min (tN (A.1 4)) 9)
def CQ3 (x : CW) (A : CA) : Prop := x.2.2 1 = nI (colN A) ∧ x.2.2 2 = nI (leaN A) ∧ x.2.2 3 = nI (mosN A) ∧ x.2.2 4 = A.1 5 ∧ x.2.2 5 = A.1 6 ∧ CMp x A.2.2 A.2.1
def RQ3 (y : CW) (A : CA) : Prop := y.1 3 2 = nI (colN A) ∧ y.1 3 3 = nI (leaN A) ∧ y.1 3 4 = nI (mosN A) ∧ y.1 3 5 = A.1 5 ∧ y.1 3 6 = A.1 6 ∧ RMp y A.2.2 A.2.1
theorem within_e {lo n hi : Nat} (h1 : lo < 1000) (h2 : n < 1000) (h3 : hi < 1000) : f_X0_within (nI lo) (nI n) (nI hi) = nI (max lo (min n hi)) := by
  unfold f_X0_within
  by_cases c1 : hi < n
  · by_cases c2 : lo < hi
    · simp (disch := omega) only [↓nmk_e, ↓reduceIte, Option.bind_some, Option.map_some, lit, ofN, nI_add, pk_sub, pk_mul, nI_clamp, nI_leI, nI_ltI, nI_eq, pk_div, nI_an, nleT, nleF, nltT, nltF, neqT, neqF, or_false, false_or, or_self, or_true, true_or, and_self, and_true, true_and, and_false, false_and, not_true_eq_false, not_false_eq_true]
    · simp (disch := omega) only [↓nmk_e, ↓reduceIte, Option.bind_some, Option.map_some, lit, ofN, nI_add, pk_sub, pk_mul, nI_clamp, nI_leI, nI_ltI, nI_eq, pk_div, nI_an, nleT, nleF, nltT, nltF, neqT, neqF, or_false, false_or, or_self, or_true, true_or, and_self, and_true, true_and, and_false, false_and, not_true_eq_false, not_false_eq_true]
  · by_cases c2 : lo < n
    · simp (disch := omega) only [↓nmk_e, ↓reduceIte, Option.bind_some, Option.map_some, lit, ofN, nI_add, pk_sub, pk_mul, nI_clamp, nI_leI, nI_ltI, nI_eq, pk_div, nI_an, nleT, nleF, nltT, nltF, neqT, neqF, or_false, false_or, or_self, or_true, true_or, and_self, and_true, true_and, and_false, false_and, not_true_eq_false, not_false_eq_true]
    · simp (disch := omega) only [↓nmk_e, ↓reduceIte, Option.bind_some, Option.map_some, lit, ofN, nI_add, pk_sub, pk_mul, nI_clamp, nI_leI, nI_ltI, nI_eq, pk_div, nI_an, nleT, nleF, nltT, nltF, neqT, neqF, or_false, false_or, or_self, or_true, true_or, and_self, and_true, true_and, and_false, false_and, not_true_eq_false, not_false_eq_true]
theorem limited_e {lo n hi : Nat} (h1 : lo ≤ hi) (h2 : n < 1000) (h3 : hi < 1000) : f_X12_limited (nI n) (nI lo) (nI hi) = nI (max lo (min n hi)) := by
  unfold f_X12_limited
  by_cases c1 : lo ≤ n
  · by_cases c2 : n ≤ hi
    · simp (disch := omega) only [↓nmk_e, ↓reduceIte, Option.bind_some, Option.map_some, lit, ofN, nI_add, pk_sub, pk_mul, nI_clamp, nI_leI, nI_ltI, nI_eq, pk_div, nI_an, nleT, nleF, nltT, nltF, neqT, neqF, or_false, false_or, or_self, or_true, true_or, and_self, and_true, true_and, and_false, false_and, not_true_eq_false, not_false_eq_true]
    · simp (disch := omega) only [↓nmk_e, ↓reduceIte, Option.bind_some, Option.map_some, lit, ofN, nI_add, pk_sub, pk_mul, nI_clamp, nI_leI, nI_ltI, nI_eq, pk_div, nI_an, nleT, nleF, nltT, nltF, neqT, neqF, or_false, false_or, or_self, or_true, true_or, and_self, and_true, true_and, and_false, false_and, not_true_eq_false, not_false_eq_true]
  · simp (disch := omega) only [↓nmk_e, ↓reduceIte, Option.bind_some, Option.map_some, lit, ofN, nI_add, pk_sub, pk_mul, nI_clamp, nI_leI, nI_ltI, nI_eq, pk_div, nI_an, nleT, nleF, nltT, nltF, neqT, neqF, or_false, false_or, or_self, or_true, true_or, and_self, and_true, true_and, and_false, false_and, not_true_eq_false, not_false_eq_true]
theorem l_gath {x : CW} {s : Nat → Int32} {d : Nat → Nat} {m D : Nat} (h : WC x s d m) (hok : ∀ a, a < m → okW s a) (hD : D ≤ 999) : ∃ x', (∀ j, f_X0_gather_L36 (nI D) j FU (nI 0) (f_X5_clear (sS (sS (sS (sS (sS x 1 (nI 12)) 2 (nI 1)) 3 (nI 3)) 4 (nI 5)) 5 (nI 1)) 37) = j x') ∧ CFr x x' ∧ CQ2 x' (foA s d D (ordR d m)) := by
  let x0 := f_X5_clear (sS (sS (sS (sS (sS x 1 (nI 12)) 2 (nI 1)) 3 (nI 3)) 4 (nI 5)) 5 (nI 1)) 37
  have e0 : x0 = sN (sS (sS (sS (sS (sS x 1 (nI 12)) 2 (nI 1)) 3 (nI 3)) 4 (nI 5)) 5 (nI 1)) 37 (nI 0) := rfl
  have f0 : CFr x x0 := by
    rw [e0]
    refine ⟨fun _ _ _ _ => rfl, fun k hk => by simp (disch := omega) only [sC_s, sC_n, sC_2, sN_1, sN_s, sN_n, sN_2, sS_1, sS_2, sS_s, sS_n, upd_s, upd_e, upd_n], fun k hk => by simp (disch := omega) only [sC_s, sC_n, sC_2, sN_1, sN_s, sN_n, sN_2, sS_1, sS_2, sS_s, sS_n, upd_s, upd_e, upd_n]⟩
  have q0 : CQ2 x0 iniA := by
    rw [e0]
    refine ⟨fun j j1 j2 => ?_, by simp (disch := omega) only [sC_s, sC_n, sC_2, sN_1, sN_s, sN_n, sN_2, sS_1, sS_2, sS_s, sS_n, upd_s, upd_e, upd_n]; rfl, by show (0 : Nat) ≤ 72; omega, fun i j hi => absurd hi (Nat.not_lt_zero i), fun k w u => ⟨(fun z => by cases z), fun ⟨i, hi, _⟩ => absurd hi (Nat.not_lt_zero i)⟩⟩
    have : j = 1 ∨ j = 2 ∨ j = 3 ∨ j = 4 ∨ j = 5 := by omega
    rcases this with rfl | rfl | rfl | rfl | rfl <;> simp (disch := omega) only [sC_s, sC_n, sC_2, sN_1, sN_s, sN_n, sN_2, sS_1, sS_2, sS_s, sS_n, upd_s, upd_e, upd_n] <;> rfl
  have hlen := ordR_len d m
  have h8 := h.1
  refine run1 (fun q i z => fun j => f_X0_gather_L36 (nI D) j q i z) (fun i z => CFr x z ∧ CQ2 z (foA s d D ((ordR d m).drop (m - i)))) m (fun r => ∃ x', (∀ j, r j = j x') ∧ CFr x x' ∧ CQ2 x' (foA s d D (ordR d m))) ?_ ?_ FU 0 x0 (Nat.zero_le _) (by unfold FU; omega) ⟨f0, by rw [Nat.sub_zero, List.drop_eq_nil_of_le (by omega)]; exact q0⟩
  · rintro q z ⟨h1, h2⟩
    have hz := h.fr h1
    refine ⟨z, fun j => ?_, h1, by rw [Nat.sub_self, List.drop_zero] at h2; exact h2⟩
    simp (disch := omega) only [f_X0_gather_L36, ↓nmk_e, ↓reduceIte, Option.bind_some, Option.map_some, lit, ofN, nI_add, pk_sub, pk_mul, nI_clamp, nI_leI, nI_ltI, nI_eq, pk_div, nI_an, nleT, nleF, nltT, nltF, neqT, neqF, or_false, false_or, or_self, or_true, true_or, and_self, and_true, true_and, and_false, false_and, not_true_eq_false, not_false_eq_true, f_X12_isSort, f_X12_isDay, f_X11_isSort, f_X11_isDay, inI, inP, f_X5_size, f_X5_isFull, f_X11_now, f_X2_isKind, f_X2_has, f_X3_has, f_X8_hasPage, f_X8_hasAllPages, f_X8_stands, f_X1_isPrinted, f_X1_rule, f_X9_has, f_X9_isFull, f_X12_isPage, f_X12_isVerse, sC_s, sC_n, sC_2, sN_1, sN_s, sN_n, sN_2, sS_1, sS_2, sS_s, sS_n, upd_s, upd_e, upd_n, rAt, rPut, rAdd, rSwap, rPush, rNumber, cp_0, cp_1, cp_2, cp_3, cp_4, cp_5, cp_6, cp_7, cp_8, cp_9, cp_10, cp_11, cp_12, cp_13, cp_14, cp_15, cp_16, cp_17, cp_18, cp_19, cp_20, cp_21, cp_22, cp_23, cp_24, cp_25, cp_26, cp_27, cp_28, cp_29, cp_30, cp_31, cp_32, cp_33, cp_34, cp_35, cp_36, cp_37, cp_38, cp_39, cp_40, cp_41, cp_42, cp_43, cp_44, cp_45, cp_46, cp_47, cp_48, cp_49, cp_50, cp_51, cp_52, cp_53, cp_54, cp_55, cp_56, cp_57, hz.2.2.1]
  · rintro q i z hi ⟨h1, h2⟩
    obtain ⟨-, z2, z3, z4, z5, z6⟩ := h.fr h1
    have hlt : m - 1 - i < (ordR d m).length := by omega
    obtain ⟨a, hadef⟩ : ∃ a, a = (ordR d m)[m - 1 - i] := ⟨_, rfl⟩
    have ham : a < m := ordR_mem.mp (by rw [hadef]; exact List.getElem_mem hlt)
    have e3 : z.1 3 i = nI a := by
      rw [z5 i (by omega), hlen, List.getD_eq_getElem?_getD, List.getElem?_eq_getElem hlt, hadef]; rfl
    obtain ⟨e2, e2l⟩ := z4 a ham
    have hdrop : (ordR d m).drop (m - (i + 1)) = a :: (ordR d m).drop (m - i) := by
      rw [show m - (i + 1) = m - 1 - i by omega, List.drop_eq_getElem_cons hlt, hadef, show m - 1 - i + 1 = m - i by omega]
    rw [hdrop, foA_cons]
    by_cases c : d a ≤ D
    · have hcnt := foA_f (s := s) (d := d) (D := D) (l := (ordR d m).drop (m - i)) (fun b hb => (hok b (ordR_mem.mp (List.mem_of_mem_drop hb))).2.1)
      rw [List.length_drop, hlen] at hcnt
      obtain ⟨z7, z8, z9⟩ := z6 a ham
      obtain ⟨x', q1, q2, q3⟩ := l_wayC h2 (by omega) (by omega) z8 z7 z9
      refine .inr ⟨x', funext fun j => ?_, h1.trans q3, by rw [if_pos c]; exact q2⟩
      simp (disch := omega) only [f_X0_gather_L36, ↓nmk_e, ↓reduceIte, Option.bind_some, Option.map_some, lit, ofN, nI_add, pk_sub, pk_mul, nI_clamp, nI_leI, nI_ltI, nI_eq, pk_div, nI_an, nleT, nleF, nltT, nltF, neqT, neqF, or_false, false_or, or_self, or_true, true_or, and_self, and_true, true_and, and_false, false_and, not_true_eq_false, not_false_eq_true, f_X12_isSort, f_X12_isDay, f_X11_isSort, f_X11_isDay, inI, inP, f_X5_size, f_X5_isFull, f_X11_now, f_X2_isKind, f_X2_has, f_X3_has, f_X8_hasPage, f_X8_hasAllPages, f_X8_stands, f_X1_isPrinted, f_X1_rule, f_X9_has, f_X9_isFull, f_X12_isPage, f_X12_isVerse, sC_s, sC_n, sC_2, sN_1, sN_s, sN_n, sN_2, sS_1, sS_2, sS_s, sS_n, upd_s, upd_e, upd_n, rAt, rPut, rAdd, rSwap, rPush, rNumber, cp_0, cp_1, cp_2, cp_3, cp_4, cp_5, cp_6, cp_7, cp_8, cp_9, cp_10, cp_11, cp_12, cp_13, cp_14, cp_15, cp_16, cp_17, cp_18, cp_19, cp_20, cp_21, cp_22, cp_23, cp_24, cp_25, cp_26, cp_27, cp_28, cp_29, cp_30, cp_31, cp_32, cp_33, cp_34, cp_35, cp_36, cp_37, cp_38, cp_39, cp_40, cp_41, cp_42, cp_43, cp_44, cp_45, cp_46, cp_47, cp_48, cp_49, cp_50, cp_51, cp_52, cp_53, cp_54, cp_55, cp_56, cp_57, z3, e3, e2, q1]
    · refine .inr ⟨z, funext fun j => ?_, h1, by rw [if_neg c]; exact h2⟩
      simp (disch := omega) only [f_X0_gather_L36, ↓nmk_e, ↓reduceIte, Option.bind_some, Option.map_some, lit, ofN, nI_add, pk_sub, pk_mul, nI_clamp, nI_leI, nI_ltI, nI_eq, pk_div, nI_an, nleT, nleF, nltT, nltF, neqT, neqF, or_false, false_or, or_self, or_true, true_or, and_self, and_true, true_and, and_false, false_and, not_true_eq_false, not_false_eq_true, f_X12_isSort, f_X12_isDay, f_X11_isSort, f_X11_isDay, inI, inP, f_X5_size, f_X5_isFull, f_X11_now, f_X2_isKind, f_X2_has, f_X3_has, f_X8_hasPage, f_X8_hasAllPages, f_X8_stands, f_X1_isPrinted, f_X1_rule, f_X9_has, f_X9_isFull, f_X12_isPage, f_X12_isVerse, sC_s, sC_n, sC_2, sN_1, sN_s, sN_n, sN_2, sS_1, sS_2, sS_s, sS_n, upd_s, upd_e, upd_n, rAt, rPut, rAdd, rSwap, rPush, rNumber, cp_0, cp_1, cp_2, cp_3, cp_4, cp_5, cp_6, cp_7, cp_8, cp_9, cp_10, cp_11, cp_12, cp_13, cp_14, cp_15, cp_16, cp_17, cp_18, cp_19, cp_20, cp_21, cp_22, cp_23, cp_24, cp_25, cp_26, cp_27, cp_28, cp_29, cp_30, cp_31, cp_32, cp_33, cp_34, cp_35, cp_36, cp_37, cp_38, cp_39, cp_40, cp_41, cp_42, cp_43, cp_44, cp_45, cp_46, cp_47, cp_48, cp_49, cp_50, cp_51, cp_52, cp_53, cp_54, cp_55, cp_56, cp_57, z3, e3, e2]
theorem l_lim {x : CW} {A : CA} (h : CQ2 x A) (hA : okA A) : ∀ y, y = sS (sS (sS x 1 (nI (colN A))) 2 (nI (leaN A))) 3 (nI (mosN A)) → CQ3 y A ∧ CFr x y := by
  rintro y rfl
  obtain ⟨h1, h2⟩ := h
  refine ⟨⟨?_, ?_, ?_, ?_, ?_, h2⟩, fun _ _ _ _ => rfl, fun _ _ => rfl, fun k hk => ?_⟩
  · simp (disch := omega) only [sC_s, sC_n, sC_2, sN_1, sN_s, sN_n, sN_2, sS_1, sS_2, sS_s, sS_n, upd_s, upd_e, upd_n]
  · simp (disch := omega) only [sC_s, sC_n, sC_2, sN_1, sN_s, sN_n, sN_2, sS_1, sS_2, sS_s, sS_n, upd_s, upd_e, upd_n]
  · simp (disch := omega) only [sC_s, sC_n, sC_2, sN_1, sN_s, sN_n, sN_2, sS_1, sS_2, sS_s, sS_n, upd_s, upd_e, upd_n]
  · simp (disch := omega) only [sC_s, sC_n, sC_2, sN_1, sN_s, sN_n, sN_2, sS_1, sS_2, sS_s, sS_n, upd_s, upd_e, upd_n]; exact h1 4 (by decide) (by decide)
  · simp (disch := omega) only [sC_s, sC_n, sC_2, sN_1, sN_s, sN_n, sN_2, sS_1, sS_2, sS_s, sS_n, upd_s, upd_e, upd_n]; exact h1 5 (by decide) (by decide)
  · simp (disch := omega) only [sC_s, sC_n, sC_2, sN_1, sN_s, sN_n, sN_2, sS_1, sS_2, sS_s, sS_n, upd_s, upd_e, upd_n]
theorem okA.v {A : CA} (h : okA A) {j : Nat} (h1 : 2 ≤ j) (h2 : j < 5) : A.1 j = nI (tN (A.1 j)) ∧ tN (A.1 j) ≤ 99 := bdt (by decide) (h.1 j h1 h2)
theorem colN_b (A : CA) : 10 ≤ colN A ∧ colN A ≤ 40 := by unfold colN; omega
theorem leaN_b (A : CA) : 1 ≤ leaN A ∧ leaN A ≤ 9 := by unfold leaN; omega
theorem mosN_b (A : CA) : leaN A ≤ mosN A ∧ mosN A ≤ 9 := by have := leaN_b A; unfold mosN; omega
/-- gather, without the trial -/
theorem l_gather {x : CW} {s : Nat → Int32} {d : Nat → Nat} {m D : Nat} (h : WC x s d m) (hok : ∀ a, a < m → okW s a) (hD : D ≤ 999) : ∃ x', f_X0_gather x (nI D) (nI 0) = some x' ∧ CFr x x' ∧ CQ3 x' (foA s d D (ordR d m)) := by
  obtain ⟨x1, e1, e2, e3⟩ := l_gath h hok hD
  have hA : okA (foA s d D (ordR d m)) := foA_ok fun a ha => hok a (ordR_mem.mp ha)
  generalize foA s d D (ordR d m) = A at *
  obtain ⟨q1, q2⟩ := l_lim e3 hA _ rfl
  refine ⟨_, ?_, e2.trans q2, q1⟩
  obtain ⟨v2, w2⟩ := hA.v (j := 2) (by decide) (by decide)
  obtain ⟨v3, w3⟩ := hA.v (j := 3) (by decide) (by decide)
  obtain ⟨v4, w4⟩ := hA.v (j := 4) (by decide) (by decide)
  have u1 := (e3.1 1 (by decide) (by decide)).trans v2
  have u2 := (e3.1 2 (by decide) (by decide)).trans v3
  have u3 := (e3.1 3 (by decide) (by decide)).trans v4
  have b1 : max 10 (min (tN (A.1 2)) 40) = colN A := rfl
  have b2 : max 1 (min (tN (A.1 3)) 9) = leaN A := rfl
  have b3 := leaN_b A
  have b4 := mosN_b A
  have b5 : mosN A = max (leaN A) (min (tN (A.1 4)) 9) := rfl
  unfold f_X0_gather
  simp (disch := omega) only [↓nmk_e, ↓reduceIte, lit, e1, u1, u2, u3, sC_s, sC_n, sC_2, sN_1, sN_s, sN_n, sN_2, sS_1, sS_2, sS_s, sS_n, upd_s, upd_e, upd_n, within_e, b1, b2]
  by_cases c : leaN A < max 1 (min (tN (A.1 4)) 9)
  · rw [if_pos (nI_lt c (by omega))]
    congr 3; omega
  · rw [if_neg (nI_nlt (by omega) (by omega))]
    congr 3; omega
