/-! the class sets a verse; both agree -/
theorem c_find {u : CW} {z : Nat} {ch WD : Nat → Nat} {A : CA} (h : EnvC u z ch WD A) : ∃ u1, SFr u u1 ∧ StC u1 z ch WD A ∧ u1.2.2 7 = nI (TC u1 0 0 0) ∧ ((TC u1 0 0 0 < EE ∧ f_X6_find u = Option.bind (f_X6_setOut u1) fun q => some (1, q)) ∨ (¬ TC u1 0 0 0 < EE ∧ f_X6_find u = some (nI 0, u1))) := by
  have hEE : EE = 1000000 := rfl
  obtain ⟨x1, e1, e2, e3, e4, e5⟩ := l_find h
  have hE1 := h.f e2
  have h40 := hE1.2.2.1
  obtain ⟨x2, f1, f2, f3, f4⟩ := l_tabC hE1 e3
  have hF2 : Fnd x2 z ch A z := fun j hj => by
    obtain ⟨g1, g2⟩ := e3 j hj
    rw [f3 41 (by decide), f3 42 (by decide)]
    exact ⟨g1.f f2, g2.f f2⟩
  obtain ⟨t1, t2⟩ := f4.1 0 (Nat.zero_le _) (Nat.zero_le _) 0 (Nat.zero_le _) 0 (by decide)
  have t1 : x2.1 46 0 = nI (TC x2 0 0 0) := t1
  have hs : SFr x2 (sS x2 7 (nI (TC x2 0 0 0))) := ⟨fun _ _ => rfl, fun _ _ => rfl, fun k hk => by simp (disch := omega) only [sC_s, sC_n, sC_2, sN_1, sN_s, sN_n, sN_2, sS_1, sS_2, sS_s, sS_n, upd_s, upd_e, upd_n]⟩
  have hta : TC (sS x2 7 (nI (TC x2 0 0 0))) = TC x2 := rfl
  have hS : StC (sS x2 7 (nI (TC x2 0 0 0))) z ch WD A := ⟨(hE1.f f2).f hs, fun j hj => ⟨(hF2 j hj).1.f hs, (hF2 j hj).2.f hs⟩, f4⟩
  have head : ∀ R, ((if (sS x2 7 (nI (TC x2 0 0 0))).2.2 7 < 1000000 then R else some (0, sS x2 7 (nI (TC x2 0 0 0)))) : Option (Int32 × CW)) = (if TC x2 0 0 0 < EE then R else some (nI 0, sS x2 7 (nI (TC x2 0 0 0)))) := fun R => by
    rw [sS_s]
    by_cases c : TC x2 0 0 0 < EE
    · rw [if_pos c, if_pos (show nI (TC x2 0 0 0) < (1000000 : Int32) from nI_lt (b := 1000000) c (by decide))]
    · rw [if_neg c, if_neg (show ¬ nI (TC x2 0 0 0) < (1000000 : Int32) from (show ¬ nI (TC x2 0 0 0) < nI 1000000 from nI_nlt (by omega) (by omega)))]; rfl
  have e46 : rAt x2 46 0 = nI (TC x2 0 0 0) := by
    rw [← t1]
    show rAt x2 46 (nI 0) = _
    simp (disch := omega) only [↓nmk_e, ↓reduceIte, Option.bind_some, Option.map_some, lit, ofN, nI_add, pk_sub, pk_mul, nI_clamp, nI_leI, nI_ltI, nI_eq, pk_div, nI_an, nleT, nleF, nltT, nltF, neqT, neqF, or_false, false_or, or_self, or_true, true_or, and_self, and_true, true_and, and_false, false_and, not_true_eq_false, not_false_eq_true, f_X12_isSort, f_X12_isDay, f_X11_isSort, f_X11_isDay, inI, inP, f_X5_size, f_X5_isFull, f_X11_now, f_X2_isKind, f_X2_has, f_X3_has, f_X8_hasPage, f_X8_hasAllPages, f_X8_stands, f_X1_isPrinted, f_X1_rule, f_X9_has, f_X9_isFull, f_X12_isPage, f_X12_isVerse, sC_s, sC_n, sC_2, sN_1, sN_s, sN_n, sN_2, sS_1, sS_2, sS_s, sS_n, upd_s, upd_e, upd_n, rAt, rPut, rAdd, rSwap, rPush, rNumber, cp_0, cp_1, cp_2, cp_3, cp_4, cp_5, cp_6, cp_7, cp_8, cp_9, cp_10, cp_11, cp_12, cp_13, cp_14, cp_15, cp_16, cp_17, cp_18, cp_19, cp_20, cp_21, cp_22, cp_23, cp_24, cp_25, cp_26, cp_27, cp_28, cp_29, cp_30, cp_31, cp_32, cp_33, cp_34, cp_35, cp_36, cp_37, cp_38, cp_39, cp_40, cp_41, cp_42, cp_43, cp_44, cp_45, cp_46, cp_47, cp_48, cp_49, cp_50, cp_51, cp_52, cp_53, cp_54, cp_55, cp_56, cp_57]
  have hsz : f_X5_size x1 40 = nI z := h40
  refine ⟨_, (e2.trans f2).trans hs, hS, by rw [hta, sS_s], ?_⟩
  rw [hta]
  by_cases c : TC x2 0 0 0 < EE
  · refine .inl ⟨c, ?_⟩
    unfold f_X6_find
    rw [e1, Option.bind_some, nmk_e, hsz, nmk_e]
    refine (f1 _).trans ?_
    try dsimp only
    rw [e46, nmk_e, head, if_pos c]
  · refine .inr ⟨c, ?_⟩
    unfold f_X6_find
    rw [e1, Option.bind_some, nmk_e, hsz, nmk_e]
    refine (f1 _).trans ?_
    try dsimp only
    rw [e46, nmk_e, head, if_neg c]
/-- the class finds what the reference sets -/
theorem l_both {u v y0 : CW} {a2 : Int32} {x z : Nat} {ch WD : Nat → Nat} {A : CA} (hC : EnvC u z ch WD A) (hl : f_X12_looks v a2 = some y0) (hR : EnvR y0 x z ch WD A) : ∃ b u' y', f_X6_find u = some (nI b, u') ∧ f_X12_sets v (nI x) a2 = some (nI b, y') ∧ SFr u u' ∧ (∀ a, a < 8 ∨ 11 < a → y'.1 a = y0.1 a) ∧ (∀ a, a < 18 ∨ 21 < a → y'.2.2 a = y0.2.2 a) ∧ (b = 0 ∨ (b = 1 ∧ u'.2.2 7 = y'.2.2 21 ∧ StC u' z ch WD A ∧ EnvR y' x z ch WD A ∧ ∃ L, Outs u' y' z L)) := by
  have hEE : EE = 1000000 := rfl
  obtain ⟨u1, c1, c2, c3, c4⟩ := c_find hC
  obtain ⟨y1, r1, r2, r3, r4, r5, r6, r7⟩ := r_sets hl hR
  have hz := hC.2.1
  have hP := (hC.2.2.2.2.2.1.ok z ch WD).1
  have hd := (dp' hP r5.isA c2.tab.isC (k := 0) (w := 0) (Nat.zero_le _) (Nat.zero_le _)).1
  unfold ap at hd
  rcases c4 with ⟨d1, d2⟩ | ⟨d1, d2⟩
  · rcases r7 with ⟨g1, y5, g2, g3, g4⟩ | ⟨g1, g2⟩
    · obtain ⟨w1, w2, w3, w4, w5, w6⟩ := l_anew u1
      obtain ⟨s1, s2, s3, s4, s5, s6⟩ := g3
      have heq : TC u1 0 0 0 = TA y1 0 0 0 := by omega
      have hI : AtK (PA z A WD) (ltF z ch) (TA y5) (TC (f_X6_startAnew u1)) 0 0 0 0 := by
        rw [g2.ta, w1.tc]
        exact ⟨Nat.zero_le _, Nat.zero_le _, by decide, by decide, g1, heq, fun _ => .inl ⟨rfl, rfl⟩⟩
      have hO : Outs (f_X6_startAnew u1) y5 0 1 := by
        refine ⟨w2, s1, by decide, by decide, fun i hi => ?_, by rw [w3, s2], fun c hc => by rw [w5 c hc, s5 c hc], by rw [s3, s5 26 (by decide)], fun i hi => ?_, fun i _ hi => s6 i hi⟩
        · have : i = 0 := by omega
          subst this
          rw [w4, s4]
        · rw [w6 i hi, s6 i (by omega)]; rfl
      obtain ⟨u', y', L, f1, f2, f3, f4, f5⟩ := l_set (x := x) z 0 0 0 0 0 1 FU FU (f_X6_startAnew u1) y5 (by omega) (w1.st c2) (g2.env r4) (g2.tab r5) hI hO (by omega) (by unfold FU; omega) (by unfold FU; omega)
      refine ⟨1, u', y', ?_, g4.trans f2, (c1.trans w1.1).trans f3.1, fun a ha => ?_, fun a ha => ?_, .inr ⟨rfl, ?_, f3.st (w1.st c2), f4.env (g2.env r4), L, f5⟩⟩
      · rw [d2]
        have : f_X6_setOut u1 = some u' := by
          unfold f_X6_setOut
          rw [nmk_e]; exact f1
        rw [this]; rfl
      · rw [f4.1 a (by omega), g2.1 a (by omega), r1 a (by omega)]
      · rw [f4.2 a (by omega), g2.2 a (by omega), r3 a (by omega)]
      · rw [f3.2.2.2, w1.2.2.2, c3, f4.2 21 (by decide), g2.2 21 (by decide), r6, heq]
    · omega
  · rcases r7 with ⟨g1, -⟩ | ⟨g1, g2⟩
    · omega
    · exact ⟨0, u1, y1, d2, g2, c1, fun a ha => r1 a (by omega), fun a ha => r3 a (by omega), .inl rfl⟩
