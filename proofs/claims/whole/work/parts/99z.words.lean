/-! readers: a word with its blank, in both worlds -/
def wB (B : Nat → Int32) (p k : Nat) : Nat := lcp B (wl k ++ [32]) p
theorem l_joinW {x y : CW} {B : Nat → Int32} {m n p ck : Nat} (hB : Tx B n) (hC : CAt x B n p) (hck : ck < 8) (h : ∀ j, j < 8 → j ≠ ck → lcp B (wl j) p ≤ lcp B (wl ck) p ∧ lcp B (wl j) p < (wl j).length) (hr : f_X12_word y = some (nI ((ck + 2) % 8), mv y (if wB B p ck = (wl ck).length + 1 then 0 else 1) (p + wB B p ck))) : (∃ k p', k < 8 ∧ p' + 1 ≤ n ∧ f_X10_readWord x = some (nI k, cm x p') ∧ f_X10_readBlank (cm x p') = (nI 1, cm x (p' + 1)) ∧ f_X12_word y = some (nI ((k + 2) % 8), mv y 0 (p' + 1))) ∨ (∃ p', p' ≤ n ∧ (f_X10_readWord x = some (-nI 1, cm x p') ∨ ∃ k, k < 8 ∧ f_X10_readWord x = some (nI k, cm x p') ∧ f_X10_readBlank (cm x p') = (nI 0, cm x p')) ∧ ∃ q, q < 8 ∧ f_X12_word y = some (nI q, mv y 1 p')) := by
  have e1 := l_word hB hC hck h
  obtain ⟨k1, k2, k3⟩ := wl_len ck (by omega)
  have e2 := lcp_snoc B 32 (wl ck) p
  have e3 := lcp_n hB (wl ck) p k3 hC.2.2.2
  have hw : wB B p ck = lcp B (wl ck ++ [32]) p := rfl
  rw [hw, e2] at hr
  have hle := lcp_le B (wl ck) p
  by_cases c : lcp B (wl ck) p = (wl ck).length
  · rw [if_pos c] at e1 hr
    rw [c] at e3
    have hC2 : CAt (cm x (p + (wl ck).length)) B n (p + (wl ck).length) := hC.cm e3
    have g1 := l_next hB hC2
    by_cases c2 : B (p + (wl ck).length) = nI 32
    · rw [if_pos c2, if_pos rfl] at hr
      have hlt := hB.lt (by decide) c2
      refine .inl ⟨ck, p + (wl ck).length, hck, hlt, e1, ?_, hr⟩
      unfold f_X10_readBlank
      have s1 : sS (cm x (p + (wl ck).length)) 0 (nI (p + (wl ck).length + 1)) = cm x (p + (wl ck).length + 1) := cm_0 _ _ _
      have hn := hB.1
      simp (disch := omega) only [↓nmk_e, ↓reduceIte, Option.bind_some, Option.map_some, lit, ofN, nI_add, pk_sub, pk_mul, nI_clamp, nI_leI, nI_ltI, nI_eq, pk_div, nI_an, nleT, nleF, nltT, nltF, neqT, neqF, or_false, false_or, or_self, or_true, true_or, and_self, and_true, true_and, and_false, false_and, not_true_eq_false, not_false_eq_true, g1, c2, cm_g, s1]
    · rw [if_neg c2, if_neg (by omega)] at hr
      refine .inr ⟨p + (wl ck).length, e3, .inr ⟨ck, hck, e1, ?_⟩, (ck + 2) % 8, by omega, hr⟩
      unfold f_X10_readBlank
      simp (disch := omega) only [↓nmk_e, ↓reduceIte, Option.bind_some, Option.map_some, lit, ofN, nI_add, pk_sub, pk_mul, nI_clamp, nI_leI, nI_ltI, nI_eq, pk_div, nI_an, nleT, nleF, nltT, nltF, neqT, neqF, or_false, false_or, or_self, or_true, true_or, and_self, and_true, true_and, and_false, false_and, not_true_eq_false, not_false_eq_true, g1, c2]
  · rw [if_neg c] at e1 hr
    rw [if_neg (by omega)] at hr
    exact .inr ⟨_, e3, .inl e1, _, by omega, hr⟩
theorem wls : wl 0 = [99, 111, 108, 117, 109, 110] ∧ wl 1 = [108, 101, 97, 115, 116] ∧ wl 2 = [109, 111, 115, 116] ∧ wl 3 = [98, 114, 101, 97, 107] ∧ wl 4 = [119, 105, 100, 101] ∧ wl 5 = [102, 101, 97, 115, 116] ∧ wl 6 = [102, 111, 114, 109] ∧ wl 7 = [98, 97, 114] := by decide +kernel
theorem wlt : wl 0 ++ [32] = wl 12 ∧ wl 1 ++ [32] = wl 13 ∧ wl 2 ++ [32] = wl 14 ∧ wl 3 ++ [32] = 98 :: wl 11 ∧ wl 4 ++ [32] = wl 15 ∧ wl 5 ++ [32] = 102 :: wl 9 ∧ wl 6 ++ [32] = 102 :: wl 8 ∧ wl 7 ++ [32] = 98 :: wl 10 := by decide +kernel
theorem wl0 {B : Nat → Int32} {p c : Nat} (j : Nat) (hj : j < 8) (h : ¬ B p = nI ((wl j).getD 0 0)) : lcp B (wl j) p = 0 := by
  obtain ⟨w0, w1, w2, w3, w4, w5, w6, w7⟩ := wls
  have : j = 0 ∨ j = 1 ∨ j = 2 ∨ j = 3 ∨ j = 4 ∨ j = 5 ∨ j = 6 ∨ j = 7 := by omega
  rcases this with rfl | rfl | rfl | rfl | rfl | rfl | rfl | rfl
  · rw [w0] at h ⊢; exact if_neg h
  · rw [w1] at h ⊢; exact if_neg h
  · rw [w2] at h ⊢; exact if_neg h
  · rw [w3] at h ⊢; exact if_neg h
  · rw [w4] at h ⊢; exact if_neg h
  · rw [w5] at h ⊢; exact if_neg h
  · rw [w6] at h ⊢; exact if_neg h
  · rw [w7] at h ⊢; exact if_neg h
theorem l_wordR {y : CW} {B : Nat → Int32} {m n p : Nat} (hB : Tx B n) (hR : RAt y m B n p 0) : ∃ ck, ck < 8 ∧ (∀ j, j < 8 → j ≠ ck → lcp B (wl j) p ≤ lcp B (wl ck) p ∧ lcp B (wl j) p < (wl j).length) ∧ f_X12_word y = some (nI ((ck + 2) % 8), mv y (if wB B p ck = (wl ck).length + 1 then 0 else 1) (p + wB B p ck)) := by
  obtain ⟨w0, w1, w2, w3, w4, w5, w6, w7⟩ := wls
  obtain ⟨t0, t1, t2, t3, t4, t5, t6, t7⟩ := wlt
  have hn := hB.1
  have hp := hR.2.2.2.2.1
  have ey := mv_self hR.2.1 hR.2.2.1
  have f0 := l_here hB hR
  have h5 := hR.2.1
  have hlen : ∀ j, j < 8 → 3 ≤ (wl j).length := fun j hj => by
    have : j = 0 ∨ j = 1 ∨ j = 2 ∨ j = 3 ∨ j = 4 ∨ j = 5 ∨ j = 6 ∨ j = 7 := by omega
    rcases this with rfl | rfl | rfl | rfl | rfl | rfl | rfl | rfl
    · rw [w0]; decide
    · rw [w1]; decide
    · rw [w2]; decide
    · rw [w3]; decide
    · rw [w4]; decide
    · rw [w5]; decide
    · rw [w6]; decide
    · rw [w7]; decide
  have hfirst : ∀ (b ck : Nat), (∀ j, j < 8 → j ≠ ck → ¬ b = (wl j).getD 0 0 ∧ (wl j).getD 0 0 < 256) → b < 256 → B p = nI b → ∀ j, j < 8 → j ≠ ck → lcp B (wl j) p ≤ lcp B (wl ck) p ∧ lcp B (wl j) p < (wl j).length := fun b ck hx hb eB j hj hjc => by
    obtain ⟨q1, q2⟩ := hx j hj hjc
    have := hlen j hj
    rw [wl0 (c := 0) j hj (by rw [eB]; exact fun z => q1 ((nI_eq (by omega) (by omega)).mp z))]
    exact ⟨Nat.zero_le _, by omega⟩
  have s1 : sS y 5 (nI (p + 1)) = mv y 0 (p + 1) := by
    have := mv_5 y 0 p (p + 1)
    rw [ey] at this; exact this
  rcases hB.or p with eB | ⟨b, hb, eB⟩
  · refine ⟨6, by decide, fun j hj _ => ?_, ?_⟩
    · have := hlen j hj
      have hz : ¬ B p = nI ((wl j).getD 0 0) := by
        have : j = 0 ∨ j = 1 ∨ j = 2 ∨ j = 3 ∨ j = 4 ∨ j = 5 ∨ j = 6 ∨ j = 7 := by omega
        rw [eB]
        rcases this with rfl | rfl | rfl | rfl | rfl | rfl | rfl | rfl
        · rw [w0]; decide
        · rw [w1]; decide
        · rw [w2]; decide
        · rw [w3]; decide
        · rw [w4]; decide
        · rw [w5]; decide
        · rw [w6]; decide
        · rw [w7]; decide
      rw [wl0 (c := 0) j hj hz]
      exact ⟨Nat.zero_le _, by omega⟩
    · have hz : wB B p 6 = 0 := by
        unfold wB; rw [t6]; exact if_neg (by rw [eB]; decide)
      rw [hz, if_neg (by rw [w6]; decide), ← ey]
      unfold f_X12_word
      rw [show f_X12_here (mv y 0 p) = some (B p) by rw [ey]; exact f0, Option.bind_some, eB, if_neg (by decide), if_neg (by decide), if_neg (by decide), if_neg (by decide), if_neg (by decide), if_neg (by decide), nmk_e, show (1 : Int32) = nI 1 from rfl, mv_6, mv_mv]
      rfl
  · have hne : ∀ c, c < 256 → b ≠ c → ¬ nI b = nI c := fun c hc h z => h ((nI_eq (by omega) (by omega)).mp z)
    by_cases c98 : b = 98
    · subst c98
      have hp1 := hB.lt (by decide) eB
      have hR2 : RAt (mv y 0 (p + 1)) m B n (p + 1) 0 := hR.mv (by omega) (by decide)
      have f2 := l_here hB hR2
      by_cases c2 : B (p + 1) = nI 97
      · have e1 := l_spells hB hR2 (show 10 < 16 by decide)
        have ez : wB B p 7 = lcp B (wl 10) (p + 1) + 1 := by unfold wB; rw [t7]; exact if_pos eB
        have el : (wl 7).length = (wl 10).length := by decide +kernel
        refine ⟨7, by decide, fun j hj hj7 => ?_, ?_⟩
        · by_cases j3 : j = 3
          · subst j3
            have a1 : lcp B (wl 3) p = 1 := by
              rw [w3]; show (if B p = nI 98 then (if B (p + 1) = nI 114 then _ else 0) + 1 else 0) = 1
              rw [if_pos eB, if_neg (by rw [c2]; decide)]
            have a2 : lcp B (wl 7) p = lcp B [97, 114] (p + 1) + 1 := by
              rw [w7]; exact if_pos eB
            rw [a1, a2, w3]
            exact ⟨by omega, by decide⟩
          · have h0 : lcp B (wl j) p = 0 := wl0 (c := 0) j hj (by
              have : j = 0 ∨ j = 1 ∨ j = 2 ∨ j = 4 ∨ j = 5 ∨ j = 6 := by omega
              rw [eB]
              rcases this with rfl | rfl | rfl | rfl | rfl | rfl
              · rw [w0]; decide
              · rw [w1]; decide
              · rw [w2]; decide
              · rw [w4]; decide
              · rw [w5]; decide
              · rw [w6]; decide)
            have := hlen j hj
            rw [h0]; exact ⟨Nat.zero_le _, by omega⟩
        · unfold f_X12_word
          rw [f0, Option.bind_some, eB, if_pos (show nI 98 = (98 : Int32) from rfl), h5, show nI p + 1 = nI (p + 1) by simp (disch := omega) only [↓nmk_e, ↓reduceIte, Option.bind_some, Option.map_some, lit, ofN, nI_add, pk_sub, pk_mul, nI_clamp, nI_leI, nI_ltI, nI_eq, pk_div, nI_an, nleT, nleF, nltT, nltF, neqT, neqF, or_false, false_or, or_self, or_true, true_or, and_self, and_true, true_and, and_false, false_and, not_true_eq_false, not_false_eq_true], s1, nmk_e, f2, Option.bind_some, if_pos (show B (p + 1) = (97 : Int32) from c2), e1, Option.bind_some, ez, el, mv_mv, show p + 1 + lcp B (wl 10) (p + 1) = p + (lcp B (wl 10) (p + 1) + 1) by omega]
          by_cases c3 : lcp B (wl 10) (p + 1) = (wl 10).length
          · rw [if_pos c3, if_pos (by omega)]; rfl
          · rw [if_neg c3, if_neg (by omega)]; rfl
      · have e1 := l_spells hB hR2 (show 11 < 16 by decide)
        have ez : wB B p 3 = lcp B (wl 11) (p + 1) + 1 := by unfold wB; rw [t3]; exact if_pos eB
        have el : (wl 3).length = (wl 11).length := by decide +kernel
        refine ⟨3, by decide, fun j hj hj7 => ?_, ?_⟩
        · by_cases j3 : j = 7
          · subst j3
            have a1 : lcp B (wl 7) p = 1 := by
              rw [w7]; show (if B p = nI 98 then (if B (p + 1) = nI 97 then _ else 0) + 1 else 0) = 1
              rw [if_pos eB, if_neg c2]
            have a2 : lcp B (wl 3) p = lcp B [114, 101, 97, 107] (p + 1) + 1 := by
              rw [w3]; exact if_pos eB
            rw [a1, a2, w7]
            exact ⟨by omega, by decide⟩
          · have h0 : lcp B (wl j) p = 0 := wl0 (c := 0) j hj (by
              have : j = 0 ∨ j = 1 ∨ j = 2 ∨ j = 4 ∨ j = 5 ∨ j = 6 := by omega
              rw [eB]
              rcases this with rfl | rfl | rfl | rfl | rfl | rfl
              · rw [w0]; decide
              · rw [w1]; decide
              · rw [w2]; decide
              · rw [w4]; decide
              · rw [w5]; decide
              · rw [w6]; decide)
            have := hlen j hj
            rw [h0]; exact ⟨Nat.zero_le _, by omega⟩
        · unfold f_X12_word
          rw [f0, Option.bind_some, eB, if_pos (show nI 98 = (98 : Int32) from rfl), h5, show nI p + 1 = nI (p + 1) by simp (disch := omega) only [↓nmk_e, ↓reduceIte, Option.bind_some, Option.map_some, lit, ofN, nI_add, pk_sub, pk_mul, nI_clamp, nI_leI, nI_ltI, nI_eq, pk_div, nI_an, nleT, nleF, nltT, nltF, neqT, neqF, or_false, false_or, or_self, or_true, true_or, and_self, and_true, true_and, and_false, false_and, not_true_eq_false, not_false_eq_true], s1, nmk_e, f2, Option.bind_some, if_neg (show ¬ B (p + 1) = (97 : Int32) from c2), e1, Option.bind_some, ez, el, mv_mv, show p + 1 + lcp B (wl 11) (p + 1) = p + (lcp B (wl 11) (p + 1) + 1) by omega]
          by_cases c3 : lcp B (wl 11) (p + 1) = (wl 11).length
          · rw [if_pos c3, if_pos (by omega)]; rfl
          · rw [if_neg c3, if_neg (by omega)]; rfl
    by_cases c102 : b = 102
    · subst c102
      have hp1 := hB.lt (by decide) eB
      have hR2 : RAt (mv y 0 (p + 1)) m B n (p + 1) 0 := hR.mv (by omega) (by decide)
      have f2 := l_here hB hR2
      by_cases c2 : B (p + 1) = nI 111
      · have e1 := l_spells hB hR2 (show 8 < 16 by decide)
        have ez : wB B p 6 = lcp B (wl 8) (p + 1) + 1 := by unfold wB; rw [t6]; exact if_pos eB
        have el : (wl 6).length = (wl 8).length := by decide +kernel
        refine ⟨6, by decide, fun j hj hj7 => ?_, ?_⟩
        · by_cases j3 : j = 5
          · subst j3
            have a1 : lcp B (wl 5) p = 1 := by
              rw [w5]; show (if B p = nI 102 then (if B (p + 1) = nI 101 then _ else 0) + 1 else 0) = 1
              rw [if_pos eB, if_neg (by rw [c2]; decide)]
            have a2 : lcp B (wl 6) p = lcp B [111, 114, 109] (p + 1) + 1 := by
              rw [w6]; exact if_pos eB
            rw [a1, a2, w5]
            exact ⟨by omega, by decide⟩
          · have h0 : lcp B (wl j) p = 0 := wl0 (c := 0) j hj (by
              have : j = 0 ∨ j = 1 ∨ j = 2 ∨ j = 3 ∨ j = 4 ∨ j = 7 := by omega
              rw [eB]
              rcases this with rfl | rfl | rfl | rfl | rfl | rfl
              · rw [w0]; decide
              · rw [w1]; decide
              · rw [w2]; decide
              · rw [w3]; decide
              · rw [w4]; decide
              · rw [w7]; decide)
            have := hlen j hj
            rw [h0]; exact ⟨Nat.zero_le _, by omega⟩
        · unfold f_X12_word
          rw [f0, Option.bind_some, eB, if_neg (show ¬ nI 102 = (98 : Int32) by decide), if_neg (show ¬ nI 102 = (99 : Int32) by decide), if_pos (show nI 102 = (102 : Int32) from rfl), h5, show nI p + 1 = nI (p + 1) by simp (disch := omega) only [↓nmk_e, ↓reduceIte, Option.bind_some, Option.map_some, lit, ofN, nI_add, pk_sub, pk_mul, nI_clamp, nI_leI, nI_ltI, nI_eq, pk_div, nI_an, nleT, nleF, nltT, nltF, neqT, neqF, or_false, false_or, or_self, or_true, true_or, and_self, and_true, true_and, and_false, false_and, not_true_eq_false, not_false_eq_true], s1, nmk_e, f2, Option.bind_some, if_pos (show B (p + 1) = (111 : Int32) from c2), e1, Option.bind_some, ez, el, mv_mv, show p + 1 + lcp B (wl 8) (p + 1) = p + (lcp B (wl 8) (p + 1) + 1) by omega]
          by_cases c3 : lcp B (wl 8) (p + 1) = (wl 8).length
          · rw [if_pos c3, if_pos (by omega)]; rfl
          · rw [if_neg c3, if_neg (by omega)]; rfl
      · have e1 := l_spells hB hR2 (show 9 < 16 by decide)
        have ez : wB B p 5 = lcp B (wl 9) (p + 1) + 1 := by unfold wB; rw [t5]; exact if_pos eB
        have el : (wl 5).length = (wl 9).length := by decide +kernel
        refine ⟨5, by decide, fun j hj hj7 => ?_, ?_⟩
        · by_cases j3 : j = 6
          · subst j3
            have a1 : lcp B (wl 6) p = 1 := by
              rw [w6]; show (if B p = nI 102 then (if B (p + 1) = nI 111 then _ else 0) + 1 else 0) = 1
              rw [if_pos eB, if_neg c2]
            have a2 : lcp B (wl 5) p = lcp B [101, 97, 115, 116] (p + 1) + 1 := by
              rw [w5]; exact if_pos eB
            rw [a1, a2, w6]
            exact ⟨by omega, by decide⟩
          · have h0 : lcp B (wl j) p = 0 := wl0 (c := 0) j hj (by
              have : j = 0 ∨ j = 1 ∨ j = 2 ∨ j = 3 ∨ j = 4 ∨ j = 7 := by omega
              rw [eB]
              rcases this with rfl | rfl | rfl | rfl | rfl | rfl
              · rw [w0]; decide
              · rw [w1]; decide
              · rw [w2]; decide
              · rw [w3]; decide
              · rw [w4]; decide
              · rw [w7]; decide)
            have := hlen j hj
            rw [h0]; exact ⟨Nat.zero_le _, by omega⟩
        · unfold f_X12_word
          rw [f0, Option.bind_some, eB, if_neg (show ¬ nI 102 = (98 : Int32) by decide), if_neg (show ¬ nI 102 = (99 : Int32) by decide), if_pos (show nI 102 = (102 : Int32) from rfl), h5, show nI p + 1 = nI (p + 1) by simp (disch := omega) only [↓nmk_e, ↓reduceIte, Option.bind_some, Option.map_some, lit, ofN, nI_add, pk_sub, pk_mul, nI_clamp, nI_leI, nI_ltI, nI_eq, pk_div, nI_an, nleT, nleF, nltT, nltF, neqT, neqF, or_false, false_or, or_self, or_true, true_or, and_self, and_true, true_and, and_false, false_and, not_true_eq_false, not_false_eq_true], s1, nmk_e, f2, Option.bind_some, if_neg (show ¬ B (p + 1) = (111 : Int32) from c2), e1, Option.bind_some, ez, el, mv_mv, show p + 1 + lcp B (wl 9) (p + 1) = p + (lcp B (wl 9) (p + 1) + 1) by omega]
          by_cases c3 : lcp B (wl 9) (p + 1) = (wl 9).length
          · rw [if_pos c3, if_pos (by omega)]; rfl
          · rw [if_neg c3, if_neg (by omega)]; rfl
    have hone : ∀ (ck t : Nat), ck < 8 → t < 16 → wl ck ++ [32] = wl t → f_X12_word y = Option.bind (f_X12_spells y t) (fun q => some (nI ((ck + 2) % 8), q)) → f_X12_word y = some (nI ((ck + 2) % 8), mv y (if wB B p ck = (wl ck).length + 1 then 0 else 1) (p + wB B p ck)) := fun ck t hc ht ht2 he => by
      have e1 := l_spells hB hR ht
      have el : (wl t).length = (wl ck).length + 1 := by rw [← ht2, List.length_append]; rfl
      have ez : wB B p ck = lcp B (wl t) p := by unfold wB; rw [ht2]
      rw [he, e1, Option.bind_some, ez, el]
    have hfs : ∀ (ck : Nat), (∀ j, j < 8 → j ≠ ck → ¬ b = (wl j).getD 0 0 ∧ (wl j).getD 0 0 < 256) → _ := fun ck hx => hfirst b ck hx (by omega) eB
    have hgen : ∀ ck : Nat, (∀ j, j < 8 → j = ck ∨ ¬ b = (wl j).getD 0 0) → ∀ j, j < 8 → j ≠ ck → ¬ b = (wl j).getD 0 0 ∧ (wl j).getD 0 0 < 256 := fun ck hx j hj hjc => by
      refine ⟨(hx j hj).resolve_left hjc, ?_⟩
      have : ∀ j, j < 8 → (wl j).getD 0 0 < 256 := by decide +kernel
      exact this j hj
    by_cases c99 : b = 99
    · subst c99
      refine ⟨0, by decide, hfs 0 (hgen 0 (by decide +kernel)), hone 0 12 (by decide) (by decide) t0 ?_⟩
      unfold f_X12_word
      rw [f0, Option.bind_some, eB, if_neg (by decide), if_pos (by decide)]
      rfl
    by_cases c108 : b = 108
    · subst c108
      refine ⟨1, by decide, hfs 1 (hgen 1 (by decide +kernel)), hone 1 13 (by decide) (by decide) t1 ?_⟩
      unfold f_X12_word
      rw [f0, Option.bind_some, eB, if_neg (by decide), if_neg (by decide), if_neg (by decide), if_pos (by decide)]
      rfl
    by_cases c109 : b = 109
    · subst c109
      refine ⟨2, by decide, hfs 2 (hgen 2 (by decide +kernel)), hone 2 14 (by decide) (by decide) t2 ?_⟩
      unfold f_X12_word
      rw [f0, Option.bind_some, eB, if_neg (by decide), if_neg (by decide), if_neg (by decide), if_neg (by decide), if_pos (by decide)]
      rfl
    by_cases c119 : b = 119
    · subst c119
      refine ⟨4, by decide, hfs 4 (hgen 4 (by decide +kernel)), hone 4 15 (by decide) (by decide) t4 ?_⟩
      unfold f_X12_word
      rw [f0, Option.bind_some, eB, if_neg (by decide), if_neg (by decide), if_neg (by decide), if_neg (by decide), if_neg (by decide), if_pos (by decide)]
      rfl
    have hfl : ∀ j, j < 8 → ¬ b = (wl j).getD 0 0 := by
      have : ∀ j, j < 8 → (wl j).getD 0 0 = 98 ∨ (wl j).getD 0 0 = 102 ∨ (wl j).getD 0 0 = 99 ∨ (wl j).getD 0 0 = 108 ∨ (wl j).getD 0 0 = 109 ∨ (wl j).getD 0 0 = 119 := by decide +kernel
      intro j hj
      have := this j hj
      omega
    refine ⟨6, by decide, hfs 6 (hgen 6 fun j hj => .inr (hfl j hj)), ?_⟩
    have hz : wB B p 6 = 0 := by
      unfold wB; rw [t6]; exact if_neg (by rw [eB]; exact hne 102 (by decide) c102)
    have s6 : sS y 6 (nI 1) = mv y 1 p := by
      have := mv_6 (y := y) (e := 0) (p := p) (f := 1)
      rw [ey] at this; exact this
    rw [hz, if_neg (by rw [w6]; decide)]
    unfold f_X12_word
    rw [f0, Option.bind_some, eB, if_neg (show ¬ nI b = (98 : Int32) from hne 98 (by decide) c98), if_neg (show ¬ nI b = (99 : Int32) from hne 99 (by decide) c99), if_neg (show ¬ nI b = (102 : Int32) from hne 102 (by decide) c102), if_neg (show ¬ nI b = (108 : Int32) from hne 108 (by decide) c108), if_neg (show ¬ nI b = (109 : Int32) from hne 109 (by decide) c109), if_neg (show ¬ nI b = (119 : Int32) from hne 119 (by decide) c119), nmk_e, show (1 : Int32) = nI 1 from rfl, s6]
    rfl
