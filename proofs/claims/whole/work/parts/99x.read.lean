/-! readers: the letters of a form -/
theorem L4_1 {x : CW} {B : Nat → Int32} {n p a v i : Nat} (hB : Tx B n) (hC : CAt x B n p) (eB : B p = nI (97 + a)) (eL : f_X10_isLetter (B p) = nI 1) (ha : a < 26) (hv : v < 26) (hi : i < 2) (J : Int32 → CW → Option (Int32 × CW)) (q : Nat) : f_X10_readLetters_L4 J (q + 1) (nI v) (nI i) x = f_X10_readLetters_L4 J q (nI (100 * v + a)) (nI (i + 1)) (cm x (p + 1)) := by
  have e : v * 100 + (97 + a) - 97 = 100 * v + a := by omega
  have e1 := l_next hB hC
  have s1 : sS x 0 (nI (p + 1)) = cm x (p + 1) := rfl
  rw [eB] at eL e1
  simp (disch := omega) only [f_X10_readLetters_L4, ↓nmk_e, ↓reduceIte, Option.bind_some, Option.map_some, lit, ofN, nI_add, pk_sub, pk_mul, nI_clamp, nI_leI, nI_ltI, nI_eq, pk_div, nI_an, nleT, nleF, nltT, nltF, neqT, neqF, or_false, false_or, or_self, or_true, true_or, and_self, and_true, true_and, and_false, false_and, not_true_eq_false, not_false_eq_true, e1, eL, hC.1, s1, e]
theorem L4_0 {x : CW} {B : Nat → Int32} {n p i : Nat} (hB : Tx B n) (hC : CAt x B n p) (eL : f_X10_isLetter (B p) = nI 0) (hi : i < 2) (v : Int32) (J : Int32 → CW → Option (Int32 × CW)) (q : Nat) : f_X10_readLetters_L4 J (q + 1) v (nI i) x = some (nI 0, cm x p) := by
  have e1 := l_next hB hC
  rw [cm_self hC.1, f_X10_readLetters_L4, if_neg (show ¬ (2 : Int32) ≤ nI i from of_eq_true (by simp (disch := omega) only [↓nmk_e, ↓reduceIte, Option.bind_some, Option.map_some, lit, ofN, nI_add, pk_sub, pk_mul, nI_clamp, nI_leI, nI_ltI, nI_eq, pk_div, nI_an, nleT, nleF, nltT, nltF, neqT, neqF, or_false, false_or, or_self, or_true, true_or, and_self, and_true, true_and, and_false, false_and, not_true_eq_false, not_false_eq_true])), e1, eL, if_pos (show nI 0 = (0 : Int32) from rfl)]
  rfl
def jLet (i : Nat) : Int32 → CW → Option (Int32 × CW) := fun y50_2 w50_ => nmk (fun (y81_3 : Int32) (w81_ : CW) => (nmk (rPut w81_ 7 (nI i) ((y50_2 * 100) + y81_3)) fun q92 => (some (1, q92)))) fun j81 => (if (f_X10_isLetter (f_X10_next w50_)) = 0 then (j81 99 w50_) else (nmk ((f_X10_next w50_) - 97) fun (x70 : Int32) => (nmk (sS w50_ 0 ((w50_.2.2 0) + 1)) fun w78 => (j81 x70 w78))))
theorem l_lets {x y : CW} {B : Nat → Int32} {m n p i : Nat} (hB : Tx B n) (hC : CAt x B n p) (hR : RAt y m B n p 0) (hi : i < 72) : (∃ a b c p', a < 26 ∧ b < 26 ∧ (c < 26 ∨ c = 99) ∧ p' ≤ n ∧ f_X10_readLetters x (nI i) = some (nI 1, cm (sC x 7 i (nI (10000 * a + 100 * b + c))) p') ∧ f_X12_letters y = some (nI (10000 * a + 100 * b + c), mv y 0 p')) ∨ (∃ p', p' ≤ n ∧ f_X10_readLetters x (nI i) = some (nI 0, cm x p') ∧ ∃ q, f_X12_letters y = some (q, mv y 1 p')) := by
  have hFU : FU = 9997 + 1 + 1 + 1 := rfl
  have h5 := hR.2.2.2.2.1
  have eC : f_X10_readLetters x (nI i) = f_X10_readLetters_L4 (jLet i) FU (nI 0) (nI 0) x := by
    unfold f_X10_readLetters
    rw [nmk_e]
    rfl
  rw [eC, hFU]
  unfold f_X12_letters
  rcases l_let hB hR with ⟨a, ha, hp, eB, eL, eI, r1⟩ | ⟨eL, eI, q, r1⟩
  · rw [L4_1 hB hC eB eL ha (by decide) (by decide), r1, Option.bind_some]
    have hC2 : CAt (cm x (p + 1)) B n (p + 1) := hC.cm (by omega)
    have hR2 : RAt (mv y 0 (p + 1)) m B n (p + 1) 0 := hR.mv (by omega) (by decide)
    rcases l_let hB hR2 with ⟨b, hb, hp2, eB2, eL2, eI2, r2⟩ | ⟨eL2, eI2, q, r2⟩
    · rw [L4_1 hB hC2 eB2 eL2 hb (show 100 * 0 + a < 26 by omega) (by decide), r2, Option.bind_some, mv_mv, cm_cm]
      have hC3 : CAt (cm x (p + 1 + 1)) B n (p + 1 + 1) := hC.cm (by omega)
      have hR3 : RAt (mv y 0 (p + 1 + 1)) m B n (p + 1 + 1) 0 := hR.mv (by omega) (by decide)
      have f3 := l_here hB hR3
      have g3 := l_next hB hC3
      have eJ : f_X10_readLetters_L4 (jLet i) (9997 + 1) (nI (100 * (100 * 0 + a) + b)) (nI (0 + 1 + 1)) (cm x (p + 1 + 1)) = jLet i (nI (100 * (100 * 0 + a) + b)) (cm x (p + 1 + 1)) := by
        simp (disch := omega) only [f_X10_readLetters_L4, ↓nmk_e, ↓reduceIte, Option.bind_some, Option.map_some, lit, ofN, nI_add, pk_sub, pk_mul, nI_clamp, nI_leI, nI_ltI, nI_eq, pk_div, nI_an, nleT, nleF, nltT, nltF, neqT, neqF, or_false, false_or, or_self, or_true, true_or, and_self, and_true, true_and, and_false, false_and, not_true_eq_false, not_false_eq_true]
      rw [eJ]
      unfold jLet
      rcases l_let hB hR3 with ⟨c, hc, hp3, eB3, eL3, eI3, r3⟩ | ⟨eL3, eI3, q, r3⟩
      · refine .inl ⟨a, b, c, p + 3, ha, hb, .inl hc, by omega, ?_, ?_⟩
        · have s1 : sS (cm x (p + 1 + 1)) 0 (nI (p + 1 + 1 + 1)) = cm x (p + 3) := cm_0 x _ _
          have e1 : (100 * (100 * 0 + a) + b) * 100 + (97 + c - 97) = 10000 * a + 100 * b + c := by omega
          rw [eB3] at g3 eL3
          have s2 : rPut (cm x (p + 3)) 7 (nI i) (nI (10000 * a + 100 * b + c)) = cm (sC x 7 i (nI (10000 * a + 100 * b + c))) (p + 3) := pT _ (by omega) (by rw [cp_7]; omega) _
          simp (disch := omega) only [↓nmk_e, ↓reduceIte, Option.bind_some, Option.map_some, lit, ofN, nI_add, pk_sub, pk_mul, nI_clamp, nI_leI, nI_ltI, nI_eq, pk_div, nI_an, nleT, nleF, nltT, nltF, neqT, neqF, or_false, false_or, or_self, or_true, true_or, and_self, and_true, true_and, and_false, false_and, not_true_eq_false, not_false_eq_true, g3, eL3, cm_g, s1, e1, s2]
        · have e1 : mv (mv y 0 (p + 1 + 1)) 0 (p + 1 + 1 + 1) = mv y 0 (p + 3) := mv_mv _ _ _ _ _
          rw [e1] at r3
          simp (disch := omega) only [↓nmk_e, ↓reduceIte, Option.bind_some, Option.map_some, lit, ofN, nI_add, pk_sub, pk_mul, nI_clamp, nI_leI, nI_ltI, nI_eq, pk_div, nI_an, nleT, nleF, nltT, nltF, neqT, neqF, or_false, false_or, or_self, or_true, true_or, and_self, and_true, true_and, and_false, false_and, not_true_eq_false, not_false_eq_true, mv_g6, f3, eI3, r3]
      · refine .inl ⟨a, b, 99, p + 2, ha, hb, .inr rfl, by omega, ?_, ?_⟩
        · have e1 : (100 * (100 * 0 + a) + b) * 100 + 99 = 10000 * a + 100 * b + 99 := by omega
          have s2 : rPut (cm x (p + 1 + 1)) 7 (nI i) (nI (10000 * a + 100 * b + 99)) = cm (sC x 7 i (nI (10000 * a + 100 * b + 99))) (p + 2) := pT _ (by omega) (by rw [cp_7]; omega) _
          simp (disch := omega) only [↓nmk_e, ↓reduceIte, Option.bind_some, Option.map_some, lit, ofN, nI_add, pk_sub, pk_mul, nI_clamp, nI_leI, nI_ltI, nI_eq, pk_div, nI_an, nleT, nleF, nltT, nltF, neqT, neqF, or_false, false_or, or_self, or_true, true_or, and_self, and_true, true_and, and_false, false_and, not_true_eq_false, not_false_eq_true, g3, eL3, e1, s2]
        · simp (disch := omega) only [↓nmk_e, ↓reduceIte, Option.bind_some, Option.map_some, lit, ofN, nI_add, pk_sub, pk_mul, nI_clamp, nI_leI, nI_ltI, nI_eq, pk_div, nI_an, nleT, nleF, nltT, nltF, neqT, neqF, or_false, false_or, or_self, or_true, true_or, and_self, and_true, true_and, and_false, false_and, not_true_eq_false, not_false_eq_true, mv_g6, f3, eI3]
    · refine .inr ⟨p + 1, by omega, ?_, ?_, ?_⟩
      · rw [L4_0 hB hC2 eL2 (by decide), cm_cm]
      rotate_left
      · rw [r2, Option.bind_some, mv_mv]
        simp (disch := omega) only [↓nmk_e, ↓reduceIte, Option.bind_some, Option.map_some, lit, ofN, nI_add, pk_sub, pk_mul, nI_clamp, nI_leI, nI_ltI, nI_eq, pk_div, nI_an, nleT, nleF, nltT, nltF, neqT, neqF, or_false, false_or, or_self, or_true, true_or, and_self, and_true, true_and, and_false, false_and, not_true_eq_false, not_false_eq_true, mv_g6]
        rfl
  · obtain ⟨q2, r2⟩ := l_letW hB (hR.mv h5 (show 1 ≤ 1 by decide))
    refine .inr ⟨p, h5, ?_, ?_, ?_⟩
    · exact L4_0 hB hC eL (by decide) _ _ _
    rotate_left
    · rw [r1, Option.bind_some]
      rw [r2, Option.bind_some, mv_mv]
      simp (disch := omega) only [↓nmk_e, ↓reduceIte, Option.bind_some, Option.map_some, lit, ofN, nI_add, pk_sub, pk_mul, nI_clamp, nI_leI, nI_ltI, nI_eq, pk_div, nI_an, nleT, nleF, nltT, nltF, neqT, neqF, or_false, false_or, or_self, or_true, true_or, and_self, and_true, true_and, and_false, false_and, not_true_eq_false, not_false_eq_true, mv_g6]
      rfl
theorem l_letsW {y : CW} {B : Nat → Int32} {m n p : Nat} (hB : Tx B n) (hR : RAt y m B n p 1) : ∃ q, f_X12_letters y = some (q, mv y 1 p) := by
  have h5 := hR.2.2.2.2.1
  obtain ⟨q1, r1⟩ := l_letW hB hR
  obtain ⟨q2, r2⟩ := l_letW hB (hR.mv h5 (show 1 ≤ 1 by decide))
  refine ⟨?_, ?_⟩
  rotate_left
  · unfold f_X12_letters
    rw [r1, Option.bind_some, r2, Option.bind_some, mv_mv]
    simp (disch := omega) only [↓nmk_e, ↓reduceIte, Option.bind_some, Option.map_some, lit, ofN, nI_add, pk_sub, pk_mul, nI_clamp, nI_leI, nI_ltI, nI_eq, pk_div, nI_an, nleT, nleF, nltT, nltF, neqT, neqF, or_false, false_or, or_self, or_true, true_or, and_self, and_true, true_and, and_false, false_and, not_true_eq_false, not_false_eq_true, mv_g6]
    rfl
