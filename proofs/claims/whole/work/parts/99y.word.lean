/-! readers: words -/
def lcp (B : Nat → Int32) : List Nat → Nat → Nat
  | [], _ => 0
  | c :: l, q => if B q = nI c then lcp B l (q + 1) + 1 else 0
theorem lcp_le (B : Nat → Int32) : ∀ l q, lcp B l q ≤ l.length := by
  intro l
  induction l with
  | nil => intro q; exact Nat.le_refl _
  | cons c l ih =>
    intro q
    unfold lcp
    by_cases h : B q = nI c
    · rw [if_pos h, List.length_cons]; exact Nat.succ_le_succ (ih (q + 1))
    · rw [if_neg h]; exact Nat.zero_le _
theorem lcp_snoc (B : Nat → Int32) (c : Nat) : ∀ l q, lcp B (l ++ [c]) q = if lcp B l q = l.length then (l.length + if B (q + l.length) = nI c then 1 else 0) else lcp B l q := by
  intro l
  induction l with
  | nil =>
    intro q
    show (if B q = nI c then 0 + 1 else 0) = if (0 : Nat) = 0 then (0 + if B (q + 0) = nI c then 1 else 0) else 0
    rw [if_pos rfl, Nat.zero_add, Nat.zero_add, Nat.add_zero]
  | cons d l ih =>
    intro q
    show (if B q = nI d then lcp B (l ++ [c]) (q + 1) + 1 else 0) = if (if B q = nI d then lcp B l (q + 1) + 1 else 0) = l.length + 1 then (l.length + 1 + if B (q + (l.length + 1)) = nI c then 1 else 0) else (if B q = nI d then lcp B l (q + 1) + 1 else 0)
    by_cases h : B q = nI d
    · rw [if_pos h, if_pos h, ih, show q + (l.length + 1) = q + 1 + l.length by omega]
      by_cases h2 : lcp B l (q + 1) = l.length
      · rw [if_pos h2, if_pos (show lcp B l (q + 1) + 1 = l.length + 1 by omega)]; omega
      · rw [if_neg h2, if_neg (show ¬ lcp B l (q + 1) + 1 = l.length + 1 by omega)]
    · rw [if_neg h, if_neg h, if_neg (by omega)]
theorem lcp_n {B : Nat → Int32} {n : Nat} (hB : Tx B n) : ∀ l q, (∀ c, c ∈ l → c < 256) → q ≤ n → q + lcp B l q ≤ n := by
  intro l
  induction l with
  | nil => intro q _ hq; exact hq
  | cons c l ih =>
    intro q hc hq
    unfold lcp
    by_cases h : B q = nI c
    · have h1 := hB.lt (by have := hc c List.mem_cons_self; omega) h
      have := ih (q + 1) (fun d hd => hc d (List.mem_cons_of_mem _ hd)) (by omega)
      rw [if_pos h]; omega
    · rw [if_neg h]; exact hq
def wl (t : Nat) : List Nat := (gByt.getD t []).map fun z : Int32 => z.toNatClampNeg
theorem wl_cc : ∀ t, t < 16 → ∀ i, i < gLen.getD t 0 → scc t (nI i) = nI ((wl t).getD i 0) := by decide +kernel
theorem wl_len : ∀ t, t < 16 → (wl t).length = gLen.getD t 0 ∧ gLen.getD t 0 ≤ 7 ∧ ∀ c, c ∈ wl t → c < 256 := by decide +kernel
theorem wl_drop {t i : Nat} (hi : i < (wl t).length) : (wl t).drop i = (wl t).getD i 0 :: (wl t).drop (i + 1) := by
  rw [List.drop_eq_getElem_cons hi, List.getD_eq_getElem?_getD, List.getElem?_eq_getElem hi]; rfl
theorem wl_at {t i : Nat} (ht : t < 16) (hi : i < (wl t).length) : f_J0_charAt t (nI i) = some (nI ((wl t).getD i 0)) ∧ (wl t).getD i 0 < 256 := by
  obtain ⟨h1, h2, h3⟩ := wl_len t ht
  refine ⟨?_, h3 _ ?_⟩
  · unfold f_J0_charAt
    rw [nI_clamp (by omega), if_neg (by rintro (z | z); exact nI_pos (by omega) z; omega), wl_cc t ht i (by omega)]
  · rw [List.getD_eq_getElem?_getD, List.getElem?_eq_getElem hi]
    exact List.getElem_mem hi
theorem l_same {x : CW} {B : Nat → Int32} {n p t : Nat} (hB : Tx B n) (hC : CAt x B n p) (ht : t < 16) : f_X10_sameBytes x t = some (nI (lcp B (wl t) p)) := by
  obtain ⟨k1, k2, k3⟩ := wl_len t ht
  obtain ⟨c1, c2, c3, c4⟩ := hC
  have hn := hB.1
  have eN : f_J0_length t = nI (wl t).length := by rw [k1]; rfl
  have hw : ∀ i, i < (wl t).length → _ := fun i hi => wl_at ht hi
  have hd : ∀ i, i < (wl t).length → _ := fun i hi => wl_drop (t := t) hi
  rw [← k1] at k2
  unfold f_X10_sameBytes
  rw [nmk_e]
  refine run1 (fun q i (_ : Unit) => f_X10_sameBytes_L2 x t (fun _ => some (f_J0_length t)) q i) (fun i _ => lcp B (wl t) p = i + lcp B ((wl t).drop i) (p + i)) (wl t).length (fun r => r = some (nI (lcp B (wl t) p))) ?_ ?_ FU 0 () (Nat.zero_le _) (by unfold FU; omega) (by rw [List.drop_zero, Nat.zero_add, Nat.add_zero])
  · rintro q _ hI
    rw [List.drop_length] at hI
    have hI : lcp B (wl t) p = (wl t).length := hI
    rw [hI]
    simp (disch := omega) only [f_X10_sameBytes_L2, ↓nmk_e, ↓reduceIte, Option.bind_some, Option.map_some, lit, ofN, nI_add, pk_sub, pk_mul, nI_clamp, nI_leI, nI_ltI, nI_eq, pk_div, nI_an, nleT, nleF, nltT, nltF, neqT, neqF, or_false, false_or, or_self, or_true, true_or, and_self, and_true, true_and, and_false, false_and, not_true_eq_false, not_false_eq_true, eN]
  · rintro q i _ hi hI
    obtain ⟨w1, w2⟩ := hw i hi
    rw [hd i hi] at hI
    generalize (wl t).getD i 0 = c at *
    have hI : lcp B (wl t) p = i + (if B (p + i) = nI c then lcp B ((wl t).drop (i + 1)) (p + i + 1) + 1 else 0) := hI
    have eq : (q + 1 : Nat) = q + 1 := rfl
    by_cases cn : p + i < n
    · have c3 := c3 (p + i) cn
      by_cases cc : B (p + i) = nI c
      · rw [if_pos cc] at hI
        refine .inr ⟨(), ?_, by rw [hI, show p + (i + 1) = p + i + 1 by omega]; omega⟩
        simp (disch := omega) only [f_X10_sameBytes_L2, ↓nmk_e, ↓reduceIte, Option.bind_some, Option.map_some, lit, ofN, nI_add, pk_sub, pk_mul, nI_clamp, nI_leI, nI_ltI, nI_eq, pk_div, nI_an, nleT, nleF, nltT, nltF, neqT, neqF, or_false, false_or, or_self, or_true, true_or, and_self, and_true, true_and, and_false, false_and, not_true_eq_false, not_false_eq_true, f_X12_isSort, f_X12_isDay, f_X11_isSort, f_X11_isDay, inI, inP, f_X5_size, f_X5_isFull, f_X11_now, f_X2_isKind, f_X2_has, f_X3_has, f_X8_hasPage, f_X8_hasAllPages, f_X8_stands, f_X1_isPrinted, f_X1_rule, f_X9_has, f_X9_isFull, f_X12_isPage, f_X12_isVerse, sC_s, sC_n, sC_2, sN_1, sN_s, sN_n, sN_2, sS_1, sS_2, sS_s, sS_n, upd_s, upd_e, upd_n, rAt, rPut, rAdd, rSwap, rPush, rNumber, cp_0, cp_1, cp_2, cp_3, cp_4, cp_5, cp_6, cp_7, cp_8, cp_9, cp_10, cp_11, cp_12, cp_13, cp_14, cp_15, cp_16, cp_17, cp_18, cp_19, cp_20, cp_21, cp_22, cp_23, cp_24, cp_25, cp_26, cp_27, cp_28, cp_29, cp_30, cp_31, cp_32, cp_33, cp_34, cp_35, cp_36, cp_37, cp_38, cp_39, cp_40, cp_41, cp_42, cp_43, cp_44, cp_45, cp_46, cp_47, cp_48, cp_49, cp_50, cp_51, cp_52, cp_53, cp_54, cp_55, cp_56, cp_57, eN, c1, c2, c3, w1, cc]
      · rw [if_neg cc] at hI
        refine .inl ?_
        rw [hI]
        simp (disch := omega) only [f_X10_sameBytes_L2, ↓nmk_e, ↓reduceIte, Option.bind_some, Option.map_some, lit, ofN, nI_add, pk_sub, pk_mul, nI_clamp, nI_leI, nI_ltI, nI_eq, pk_div, nI_an, nleT, nleF, nltT, nltF, neqT, neqF, or_false, false_or, or_self, or_true, true_or, and_self, and_true, true_and, and_false, false_and, not_true_eq_false, not_false_eq_true, f_X12_isSort, f_X12_isDay, f_X11_isSort, f_X11_isDay, inI, inP, f_X5_size, f_X5_isFull, f_X11_now, f_X2_isKind, f_X2_has, f_X3_has, f_X8_hasPage, f_X8_hasAllPages, f_X8_stands, f_X1_isPrinted, f_X1_rule, f_X9_has, f_X9_isFull, f_X12_isPage, f_X12_isVerse, sC_s, sC_n, sC_2, sN_1, sN_s, sN_n, sN_2, sS_1, sS_2, sS_s, sS_n, upd_s, upd_e, upd_n, rAt, rPut, rAdd, rSwap, rPush, rNumber, cp_0, cp_1, cp_2, cp_3, cp_4, cp_5, cp_6, cp_7, cp_8, cp_9, cp_10, cp_11, cp_12, cp_13, cp_14, cp_15, cp_16, cp_17, cp_18, cp_19, cp_20, cp_21, cp_22, cp_23, cp_24, cp_25, cp_26, cp_27, cp_28, cp_29, cp_30, cp_31, cp_32, cp_33, cp_34, cp_35, cp_36, cp_37, cp_38, cp_39, cp_40, cp_41, cp_42, cp_43, cp_44, cp_45, cp_46, cp_47, cp_48, cp_49, cp_50, cp_51, cp_52, cp_53, cp_54, cp_55, cp_56, cp_57, eN, c1, c2, c3, w1, cc, Nat.add_zero]
    · have cc : ¬ B (p + i) = nI c := fun z => cn (hB.lt (by omega) z)
      rw [if_neg cc] at hI
      refine .inl ?_
      rw [hI]
      simp (disch := omega) only [f_X10_sameBytes_L2, ↓nmk_e, ↓reduceIte, Option.bind_some, Option.map_some, lit, ofN, nI_add, pk_sub, pk_mul, nI_clamp, nI_leI, nI_ltI, nI_eq, pk_div, nI_an, nleT, nleF, nltT, nltF, neqT, neqF, or_false, false_or, or_self, or_true, true_or, and_self, and_true, true_and, and_false, false_and, not_true_eq_false, not_false_eq_true, f_X12_isSort, f_X12_isDay, f_X11_isSort, f_X11_isDay, inI, inP, f_X5_size, f_X5_isFull, f_X11_now, f_X2_isKind, f_X2_has, f_X3_has, f_X8_hasPage, f_X8_hasAllPages, f_X8_stands, f_X1_isPrinted, f_X1_rule, f_X9_has, f_X9_isFull, f_X12_isPage, f_X12_isVerse, sC_s, sC_n, sC_2, sN_1, sN_s, sN_n, sN_2, sS_1, sS_2, sS_s, sS_n, upd_s, upd_e, upd_n, rAt, rPut, rAdd, rSwap, rPush, rNumber, cp_0, cp_1, cp_2, cp_3, cp_4, cp_5, cp_6, cp_7, cp_8, cp_9, cp_10, cp_11, cp_12, cp_13, cp_14, cp_15, cp_16, cp_17, cp_18, cp_19, cp_20, cp_21, cp_22, cp_23, cp_24, cp_25, cp_26, cp_27, cp_28, cp_29, cp_30, cp_31, cp_32, cp_33, cp_34, cp_35, cp_36, cp_37, cp_38, cp_39, cp_40, cp_41, cp_42, cp_43, cp_44, cp_45, cp_46, cp_47, cp_48, cp_49, cp_50, cp_51, cp_52, cp_53, cp_54, cp_55, cp_56, cp_57, eN, c1, c2, Nat.add_zero]
theorem l_spells {y : CW} {B : Nat → Int32} {m n p t : Nat} (hB : Tx B n) (hR : RAt y m B n p 0) (ht : t < 16) : f_X12_spells y t = some (mv y (if lcp B (wl t) p = (wl t).length then 0 else 1) (p + lcp B (wl t) p)) := by
  obtain ⟨k1, k2, k3⟩ := wl_len t ht
  have hp := hR.2.2.2.2.1
  have ey := mv_self hR.2.1 hR.2.2.1
  have eN : f_J0_length t = nI (wl t).length := by rw [k1]; rfl
  have hw : ∀ i, i < (wl t).length → _ := fun i hi => wl_at ht hi
  have hd : ∀ i, i < (wl t).length → _ := fun i hi => wl_drop (t := t) hi
  rw [← k1] at k2
  unfold f_X12_spells
  refine run1 (fun q i w => f_X12_spells_L2 t q i w) (fun i w => (w = mv y 0 (p + i) ∧ p + i ≤ n ∧ lcp B (wl t) p = i + lcp B ((wl t).drop i) (p + i)) ∨ (w = mv y 1 (p + lcp B (wl t) p) ∧ p + lcp B (wl t) p ≤ n ∧ lcp B (wl t) p < (wl t).length)) (wl t).length (fun r => r = some (mv y (if lcp B (wl t) p = (wl t).length then 0 else 1) (p + lcp B (wl t) p))) ?_ ?_ FU 0 y (Nat.zero_le _) (by unfold FU; omega) (.inl ⟨by rw [Nat.add_zero]; exact ey.symm, by omega, by rw [List.drop_zero, Nat.zero_add, Nat.add_zero]⟩)
  · rintro q w hI
    have e : f_X12_spells_L2 t (q + 1) (nI (wl t).length) w = some w := by
      simp (disch := omega) only [f_X12_spells_L2, ↓nmk_e, ↓reduceIte, Option.bind_some, Option.map_some, lit, ofN, nI_add, pk_sub, pk_mul, nI_clamp, nI_leI, nI_ltI, nI_eq, pk_div, nI_an, nleT, nleF, nltT, nltF, neqT, neqF, or_false, false_or, or_self, or_true, true_or, and_self, and_true, true_and, and_false, false_and, not_true_eq_false, not_false_eq_true, eN]
    show f_X12_spells_L2 t (q + 1) (nI (wl t).length) w = _
    rw [e]
    rcases hI with ⟨rfl, h1, h2⟩ | ⟨rfl, h1, h2⟩
    · rw [List.drop_length] at h2
      have h2 : lcp B (wl t) p = (wl t).length := h2
      rw [h2, if_pos rfl]
    · rw [if_neg (by omega)]
  · rintro q i w hi hI
    obtain ⟨w1, w2⟩ := hw i hi
    refine .inr ?_
    rcases hI with ⟨rfl, h1, h2⟩ | ⟨rfl, h1, h2⟩
    · have hR2 : RAt (mv y 0 (p + i)) m B n (p + i) 0 := hR.mv h1 (by decide)
      rw [hd i hi] at h2
      generalize (wl t).getD i 0 = c at *
      have h2 : lcp B (wl t) p = i + (if B (p + i) = nI c then lcp B ((wl t).drop (i + 1)) (p + i + 1) + 1 else 0) := h2
      by_cases cc : B (p + i) = nI c
      · rw [if_pos cc] at h2
        have e1 := l_must0 hB hR2 cc
        rw [mv_mv] at e1
        refine ⟨mv y 0 (p + i + 1), ?_, .inl ⟨rfl, hB.lt (by omega) cc, by rw [h2, show p + (i + 1) = p + i + 1 by omega]; omega⟩⟩
        simp (disch := omega) only [f_X12_spells_L2, ↓nmk_e, ↓reduceIte, Option.bind_some, Option.map_some, lit, ofN, nI_add, pk_sub, pk_mul, nI_clamp, nI_leI, nI_ltI, nI_eq, pk_div, nI_an, nleT, nleF, nltT, nltF, neqT, neqF, or_false, false_or, or_self, or_true, true_or, and_self, and_true, true_and, and_false, false_and, not_true_eq_false, not_false_eq_true, eN, w1, e1]
      · rw [if_neg cc] at h2
        have e1 := l_must1 hB hR2 cc
        rw [mv_mv] at e1
        have h2 : lcp B (wl t) p = i := h2
        refine ⟨mv y 1 (p + i), ?_, .inr ⟨by rw [h2], by omega, by omega⟩⟩
        simp (disch := omega) only [f_X12_spells_L2, ↓nmk_e, ↓reduceIte, Option.bind_some, Option.map_some, lit, ofN, nI_add, pk_sub, pk_mul, nI_clamp, nI_leI, nI_ltI, nI_eq, pk_div, nI_an, nleT, nleF, nltT, nltF, neqT, neqF, or_false, false_or, or_self, or_true, true_or, and_self, and_true, true_and, and_false, false_and, not_true_eq_false, not_false_eq_true, eN, w1, e1]
    · have hR2 : RAt (mv y 1 (p + lcp B (wl t) p)) m B n (p + lcp B (wl t) p) 1 := hR.mv h1 (by decide)
      have e1 := l_mustW hR2 (nI ((wl t).getD i 0))
      rw [mv_mv] at e1
      refine ⟨mv y 1 (p + lcp B (wl t) p), ?_, .inr ⟨rfl, h1, h2⟩⟩
      simp (disch := omega) only [f_X12_spells_L2, ↓nmk_e, ↓reduceIte, Option.bind_some, Option.map_some, lit, ofN, nI_add, pk_sub, pk_mul, nI_clamp, nI_leI, nI_ltI, nI_eq, pk_div, nI_an, nleT, nleF, nltT, nltF, neqT, neqF, or_false, false_or, or_self, or_true, true_or, and_self, and_true, true_and, and_false, false_and, not_true_eq_false, not_false_eq_true, eN, w1, e1]
theorem spell_e : ∀ k, k < 8 → f_X10_spellingOf (nI k) = k := by decide +kernel
theorem l_word {x : CW} {B : Nat → Int32} {n p ck : Nat} (hB : Tx B n) (hC : CAt x B n p) (hck : ck < 8) (h : ∀ j, j < 8 → j ≠ ck → lcp B (wl j) p ≤ lcp B (wl ck) p ∧ lcp B (wl j) p < (wl j).length) : f_X10_readWord x = if lcp B (wl ck) p = (wl ck).length then some (nI ck, cm x (p + (wl ck).length)) else some (-nI 1, cm x (p + lcp B (wl ck) p)) := by
  have hl : ∀ j, j < 8 → lcp B (wl j) p ≤ (wl j).length ∧ (wl j).length ≤ 7 ∧ f_J0_length j = nI (wl j).length ∧ f_X10_sameBytes x j = some (nI (lcp B (wl j) p)) := fun j hj => by
    obtain ⟨k1, k2, -⟩ := wl_len j (by omega)
    exact ⟨lcp_le B _ _, by omega, by rw [k1]; rfl, l_same hB hC (by omega)⟩
  obtain ⟨c1, -, -, c4⟩ := hC
  have hn := hB.1
  generalize hf : (fun j => lcp B (wl j) p) = f at *
  have ef : ∀ j, lcp B (wl j) p = f j := fun j => by rw [← hf]
  generalize hg : (fun j => (wl j).length) = g at *
  have eg : ∀ j, (wl j).length = g j := fun j => by rw [← hg]
  simp only [ef, eg] at h hl ⊢
  clear hf hg ef eg
  unfold f_X10_readWord
  rw [nmk_e]
  have s1 : ∀ q, sS x 0 (nI q) = cm x q := fun q => rfl
  refine run1 (fun q i s => f_X10_readWord_L4 x (fun (y57_1 : Int32) => (nmk (sS x 0 ((x.2.2 0) + y57_1)) fun w64 => (some ((-1), w64)))) q s i) (fun i s => ∃ mx, s = nI mx ∧ mx ≤ f ck ∧ (ck < i → mx = f ck ∧ f ck < g ck)) 8 (fun r => r = if f ck = g ck then some (nI ck, cm x (p + g ck)) else some (-nI 1, cm x (p + f ck))) ?_ ?_ FU 0 (nI 0) (Nat.zero_le _) (by unfold FU; omega) ⟨0, rfl, Nat.zero_le _, fun z => absurd z (Nat.not_lt_zero _)⟩
  · rintro q s ⟨mx, rfl, h1, h2⟩
    obtain ⟨h3, h4⟩ := h2 (by omega)
    have := (hl ck hck).2.1
    rw [if_neg (by omega), ← h3]
    simp (disch := omega) only [f_X10_readWord_L4, ↓nmk_e, ↓reduceIte, Option.bind_some, Option.map_some, lit, ofN, nI_add, pk_sub, pk_mul, nI_clamp, nI_leI, nI_ltI, nI_eq, pk_div, nI_an, nleT, nleF, nltT, nltF, neqT, neqF, or_false, false_or, or_self, or_true, true_or, and_self, and_true, true_and, and_false, false_and, not_true_eq_false, not_false_eq_true, c1, s1]
  · rintro q i s hi ⟨mx, rfl, h1, h2⟩
    obtain ⟨a1, a2, a3, a4⟩ := hl i hi
    have b2 := (hl ck hck).2.1
    have b1 := (hl ck hck).1
    have e1 := spell_e i hi
    by_cases cf : f i = g i
    · have : i = ck := Decidable.byContradiction fun z => by have := (h i hi z).2; omega
      subst this
      refine .inl ?_
      rw [if_pos cf]
      simp (disch := omega) only [f_X10_readWord_L4, ↓nmk_e, ↓reduceIte, Option.bind_some, Option.map_some, lit, ofN, nI_add, pk_sub, pk_mul, nI_clamp, nI_leI, nI_ltI, nI_eq, pk_div, nI_an, nleT, nleF, nltT, nltF, neqT, neqF, or_false, false_or, or_self, or_true, true_or, and_self, and_true, true_and, and_false, false_and, not_true_eq_false, not_false_eq_true, e1, a3, a4, cf, c1, s1]
    · by_cases cl : mx < f i
      · refine .inr ⟨nI (f i), ?_, f i, rfl, ?_, fun z => ?_⟩
        · simp (disch := omega) only [f_X10_readWord_L4, ↓nmk_e, ↓reduceIte, Option.bind_some, Option.map_some, lit, ofN, nI_add, pk_sub, pk_mul, nI_clamp, nI_leI, nI_ltI, nI_eq, pk_div, nI_an, nleT, nleF, nltT, nltF, neqT, neqF, or_false, false_or, or_self, or_true, true_or, and_self, and_true, true_and, and_false, false_and, not_true_eq_false, not_false_eq_true, e1, a3, a4, cf]
        · by_cases z : i = ck
          · rw [z]; exact Nat.le_refl _
          · exact (h i hi z).1
        · by_cases z2 : i = ck
          · rw [z2] at cf ⊢; exact ⟨rfl, by omega⟩
          · have := h2 (by omega)
            have := (h i hi z2).1
            omega
      · refine .inr ⟨nI mx, ?_, mx, rfl, h1, fun z => ?_⟩
        · simp (disch := omega) only [f_X10_readWord_L4, ↓nmk_e, ↓reduceIte, Option.bind_some, Option.map_some, lit, ofN, nI_add, pk_sub, pk_mul, nI_clamp, nI_leI, nI_ltI, nI_eq, pk_div, nI_an, nleT, nleF, nltT, nltF, neqT, neqF, or_false, false_or, or_self, or_true, true_or, and_self, and_true, true_and, and_false, false_and, not_true_eq_false, not_false_eq_true, e1, a3, a4, cf]
        · by_cases z2 : i = ck
          · rw [z2] at cf cl; exact ⟨by omega, by omega⟩
          · exact h2 (by omega)
