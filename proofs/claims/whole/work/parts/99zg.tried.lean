/-! tried -/
/-- gather, with the trial -/
theorem l_gatherT {x : CW} {s : Nat → Int32} {d : Nat → Nat} {m D : Nat} (h : WC x s d m) (hok : ∀ a, a < m → okW s a) (hD : D ≤ 999) (h5 : x.1 5 m = nI (wayN s m)) (hn : wayN s m ≤ 8) (hc : ∀ k, k < wayN s m → cClause x.1 s (8 * m + k)) (hokm : okW s m) : ∃ x', f_X0_gather x (nI D) (nI 1) = some x' ∧ CFr x x' ∧ CQ3 x' (wayF s m (foA s d D (ordR d m))) := by
  obtain ⟨x1, e1, e2, e3⟩ := l_gath h hok hD
  have h8 := h.1
  have hA0 : okA (foA s d D (ordR d m)) := foA_ok fun a ha => hok a (ordR_mem.mp ha)
  have hcnt := foA_f (s := s) (d := d) (D := D) (l := ordR d m) (fun b hb => (hok b (ordR_mem.mp hb)).2.1)
  rw [ordR_len] at hcnt
  obtain ⟨x2, t1, t2, t3⟩ := l_wayC (a := m) e3 (by omega) (by omega) hn (by rw [e2.1 5 (by decide) (by decide) (by decide)]; exact h5) (fun k hk => (hc k hk).cg (fun q q1 q2 => by rw [e2.1 q (by omega) (by omega) (by omega)]) rfl rfl rfl rfl)
  have hA : okA (wayF s m (foA s d D (ordR d m))) := hA0.way _ _ hokm.2.2
  generalize wayF s m (foA s d D (ordR d m)) = A at *
  obtain ⟨q1, q2⟩ := l_lim t2 hA _ rfl
  refine ⟨_, ?_, (e2.trans t3).trans q2, q1⟩
  obtain ⟨v2, w2⟩ := hA.v (j := 2) (by decide) (by decide)
  obtain ⟨v3, w3⟩ := hA.v (j := 3) (by decide) (by decide)
  obtain ⟨v4, w4⟩ := hA.v (j := 4) (by decide) (by decide)
  have u1 := (t2.1 1 (by decide) (by decide)).trans v2
  have u2 := (t2.1 2 (by decide) (by decide)).trans v3
  have u3 := (t2.1 3 (by decide) (by decide)).trans v4
  have b1 : max 10 (min (tN (A.1 2)) 40) = colN A := rfl
  have b2 : max 1 (min (tN (A.1 3)) 9) = leaN A := rfl
  have b3 := leaN_b A
  have b4 := mosN_b A
  have b5 : mosN A = max (leaN A) (min (tN (A.1 4)) 9) := rfl
  have en : f_X10_nextSlot x1 = nI m := by
    unfold f_X10_nextSlot
    rw [show f_X5_size x1 2 = x1.2.1 2 from rfl, e2.2.1 2 (by decide)]; exact h.2.1
  have e01 : (nI 1 = nI 0) = False := by decide
  unfold f_X0_gather
  simp (disch := omega) only [↓nmk_e, ↓reduceIte, lit, e1, e01, en, t1, Option.bind_some, u1, u2, u3, sC_s, sC_n, sC_2, sN_1, sN_s, sN_n, sN_2, sS_1, sS_2, sS_s, sS_n, upd_s, upd_e, upd_n, within_e, b1, b2]
  by_cases c : leaN A < max 1 (min (tN (A.1 4)) 9)
  · rw [if_pos (nI_lt c (by omega))]
    congr 3; omega
  · rw [if_neg (nI_nlt (by omega) (by omega))]
    congr 3; omega
/-- both set, from what gather and looks found -/
theorem l_isCore {w w1 v y0 : CW} {A : CA} {x z D : Nat} {tr : Int32} (q1 : f_X0_gather w (nI D) tr = some w1) (q2 : CFr w w1) (k3 : CQ3 w1 A) (e1 : f_X12_looks v (nI D) = some y0) (e2 : RFr v y0) (e3 : RQ3 y0 A) (e5 : okA A) (hx : x < 10) (z1 : 1 ≤ z) (z2 : z ≤ 60) (z3 : w.1 10 x = nI z) (z4 : v.1 0 (1660 + x) = nI z) (z5 : ∀ i, i < z → (w.1 11 (x * 60 + i) = -1 ∧ v.1 0 (1670 + 60 * x + i) = nI 32) ∨ ∃ c, c < 26 ∧ w.1 11 (x * 60 + i) = nI c ∧ v.1 0 (1670 + 60 * x + i) = nI (97 + c)) (g4 : ∀ i, i < 27 → w.1 12 i = v.1 0 (20 + i) ∧ Br (v.1 0 (20 + i)) 1 9) : ∃ b w' v', f_X11_isSet w (nI x) (nI D) tr = some (nI b, w') ∧ f_X12_sets v (nI x) (nI D) = some (nI b, v') ∧ ((∀ k, 58 ≤ k ∨ k < 37 → w'.1 k = w.1 k ∧ w'.2.1 k = w.2.1 k) ∧ w'.2.2 10 = w.2.2 10 ∧ v'.1 0 = v.1 0 ∧ v'.1 1 = v.1 1 ∧ v'.2.2 3 = v.2.2 3) ∧ (b = 0 ∨ (b = 1 ∧ w'.2.2 7 = v'.2.2 21 ∧ ∃ L, Outs w' v' z L)) := by
  obtain ⟨u, c1, c2, c3, c4, c5, c6⟩ := l_copy (u := w1) (x := x) hx z2 (by rw [q2.1 10 (by decide) (by decide) (by decide)]; exact z3)
  have hch : ∀ i, i < z → v.1 0 (1670 + 60 * x + i) = nI (tN (v.1 0 (1670 + 60 * x + i))) ∧ (tN (v.1 0 (1670 + 60 * x + i)) = 32 ∨ (97 ≤ tN (v.1 0 (1670 + 60 * x + i)) ∧ tN (v.1 0 (1670 + 60 * x + i)) ≤ 122)) ∧ w.1 11 (x * 60 + i) = (if 97 ≤ tN (v.1 0 (1670 + 60 * x + i)) then nI (tN (v.1 0 (1670 + 60 * x + i)) - 97) else -nI 1) := fun i hi => by
    rcases z5 i hi with ⟨a1, a2⟩ | ⟨c, hc, a1, a2⟩
    · have e : tN (v.1 0 (1670 + 60 * x + i)) = 32 := by rw [a2]; exact nI_clamp (by omega)
      rw [e]
      exact ⟨a2, .inl rfl, a1⟩
    · have e : tN (v.1 0 (1670 + 60 * x + i)) = 97 + c := by rw [a2]; exact nI_clamp (by omega)
      rw [e]
      refine ⟨a2, .inr ⟨by omega, by omega⟩, ?_⟩
      rw [if_pos (by omega), a1, Nat.add_sub_cancel_left]
  have hW : ∀ c, c < 27 → v.1 0 (20 + c) = nI (tN (v.1 0 (20 + c))) ∧ 1 ≤ tN (v.1 0 (20 + c)) ∧ tN (v.1 0 (20 + c)) ≤ 9 := fun c hc => brt (by decide) (g4 c hc).2
  have hER : EnvR y0 x z (fun i => tN (v.1 0 (1670 + 60 * x + i))) (fun c => tN (v.1 0 (20 + c))) A := by
    refine ⟨?_, e3, e5, ?_⟩
    · rw [e2.1 0 (by decide)]
      exact ⟨hx, z1, z2, z4, fun i hi => ⟨(hch i hi).1, (hch i hi).2.1⟩⟩
    · rw [e2.1 0 (by decide)]; exact hW
  have hEC : EnvC u z (fun i => tN (v.1 0 (1670 + 60 * x + i))) (fun c => tN (v.1 0 (20 + c))) A := by
    obtain ⟨k1, k2, k3, k4, k5, k6, k7, k8⟩ := k3
    refine ⟨z1, z2, c5, fun i hi => ⟨?_, (hch i hi).2.1⟩, ⟨?_, ?_, ?_, ?_, ?_, ?_, k7, ?_⟩, e5, fun c hc => ⟨?_, (hW c hc).2⟩⟩
    · rw [c6 i hi, q2.1 11 (by decide) (by decide) (by decide)]; exact (hch i hi).2.2
    · rw [c4]; exact k1
    · rw [c4]; exact k2
    · rw [c4]; exact k3
    · rw [c4]; exact k4
    · rw [c4]; exact k5
    · rw [c3 37 (by decide)]; exact k6
    · rw [c2 37 (by decide), c2 38 (by decide), c2 39 (by decide)]; exact k8
    · rw [c2 12 (by decide), q2.1 12 (by decide) (by decide) (by decide), (g4 c hc).1]; exact (hW c hc).1
  obtain ⟨b, u', y', f1, f2, f3, f4, f5, f6⟩ := l_both hEC e1 hER
  refine ⟨b, u', y', ?_, f2, ⟨fun k hk => ⟨?_, ?_⟩, ?_, ?_, ?_, ?_⟩, ?_⟩
  · unfold f_X11_isSet
    rw [q1, Option.bind_some, c1, Option.bind_some, f1]; rfl
  · rw [f3.1 k (by omega), c2 k (by omega), q2.1 k (by omega) (by omega) (by omega)]
  · rw [f3.2.1 k (by omega), c3 k (by omega), q2.2.1 k (by omega)]
  · rw [f3.2.2 10 (by decide), c4, q2.2.2 10 (by decide)]
  · rw [f4 0 (by decide), e2.1 0 (by decide)]
  · rw [f4 1 (by decide), e2.1 1 (by decide)]
  · rw [f5 3 (by decide), e2.2.2 3 (by decide)]
  · rcases f6 with f6 | ⟨f6, f7, f9, f10, L, f8⟩
    · exact .inl f6
    · exact .inr ⟨f6, f7, L, f8⟩
theorem foA_T {s : Nat → Int32} {d : Nat → Nat} {m D : Nat} (h : d m = D) : foA s d D (ordR d (m + 1)) = wayF s m (foA s d D (ordR d m)) := by
  unfold foA
  rw [show ordR d (m + 1) = insR d m (ordR d m) from rfl, ins_filter (by omega) (by omega)]
  rfl
theorem l_trial {w yF : CW} {x mv' m c D : Nat} (h : Sim w yF) (n2 : w.2.1 2 = nI m) (hm : m ≤ 8) (hv : yF.1 0 2 = nI mv') (hx : x < mv') (hmv : mv' ≤ 10) (hD : D ≤ 999) (hday : yF.1 0 (230 + m) = nI D) (hc1 : c ≤ 8) (h5 : w.1 5 m = nI c) (hW : WyK m c w yF) : ∃ b w' v', f_X11_isSet w (nI x) (nI D) (nI 1) = some (nI b, w') ∧ f_X12_sets (sC yF 0 1 (nI (m + 1))) (nI x) (nI D) = some (nI b, v') ∧ v'.1 0 = (sC yF 0 1 (nI (m + 1))).1 0 ∧ Sim w' (sC v' 0 1 (nI m)) ∧ (b = 0 ∨ (b = 1 ∧ w'.2.2 7 = v'.2.2 21 ∧ w'.2.2 8 = v'.2.2 18)) := by
  obtain ⟨m1, hC, hR, -⟩ := WC_of h
  have : m1 = m := (nI_eq (by have := hC.1; omega) (by omega)).mp (hC.2.1.symm.trans n2)
  subst this
  have y1 : yF.1 0 1 = nI m1 := hR.2.1
  have vn : ∀ j, j ≠ 1 → (sC yF 0 1 (nI (m1 + 1))).1 0 j = yF.1 0 j := fun j hj => by rw [sC_s, upd_n _ _ hj]
  obtain ⟨v2, hv2⟩ : ∃ v2, v2 = sC yF 0 1 (nI (m1 + 1)) := ⟨_, rfl⟩
  rw [← hv2] at vn ⊢
  have v21 : v2.1 0 1 = nI (m1 + 1) := by rw [hv2, sC_s, upd_s]
  have hwn : wayN (v2.1 0) m1 = c := by unfold wayN; rw [vn _ (by omega), hW.1]; exact nI_clamp (by omega)
  have hcl : ∀ k, k < c → cClause w.1 (v2.1 0) (8 * m1 + k) := fun k hk => (hW.2.1 k hk).cg (fun _ _ _ => rfl) (vn _ (by omega)) (vn _ (by omega)) (vn _ (by omega)) (vn _ (by omega))
  have hdm : dyF (v2.1 0) m1 = D := by unfold dyF; rw [vn _ (by omega), hday]; exact nI_clamp (by omega)
  have hd : ∀ a, a < m1 → dyF (v2.1 0) a = dyF (yF.1 0) a := fun a ha => by unfold dyF; rw [vn _ (by omega)]
  have okm : okW (v2.1 0) m1 := ⟨by rw [hwn, vn _ (by omega)]; exact hW.1, by omega, fun k hk => (hcl k (by omega)).ok.1⟩
  have hwa : ∀ a, wayN (v2.1 0) a = wayN (yF.1 0) a := fun a => by unfold wayN; rw [vn _ (by omega)]
  have hca : ∀ a k, a < m1 → k < wayN (yF.1 0) a → cClause w.1 (v2.1 0) (8 * a + k) := fun a k ha hk => ((hC.2.2.2.2.2 a ha).2.2 k hk).cg (fun _ _ _ => rfl) (vn _ (by omega)) (vn _ (by omega)) (vn _ (by omega)) (vn _ (by omega))
  have oka : ∀ a, a < m1 → okW (v2.1 0) a := fun a ha => by
    obtain ⟨o1, o2, o3, o4⟩ := hR.2.2 a ha
    refine ⟨by rw [hwa, vn _ (by omega)]; exact o4.1, by rw [hwa]; exact o4.2.1, fun k hk => (hca a k ha (by rw [← hwa]; exact hk)).ok.1⟩
  have hC2 : WC w (v2.1 0) (dyF (v2.1 0)) m1 := by
    obtain ⟨c1, c2, c3, c4, c5, c6⟩ := hC
    refine ⟨c1, c2, c3, fun a ha => by rw [hd a ha]; exact c4 a ha, by rw [ordR_congr hd]; exact c5, fun a ha => ?_⟩
    rw [hwa]
    exact ⟨(c6 a ha).1, (c6 a ha).2.1, fun k hk => hca a k ha hk⟩
  have hR2 : WR (v2.1 0) (dyF (v2.1 0)) (m1 + 1) := by
    refine ⟨by omega, v21, fun a ha => ?_⟩
    by_cases e : a = m1
    · subst e
      rw [hdm, vn _ (by omega)]
      exact ⟨hday, rfl, hD, okm⟩
    · obtain ⟨o1, o2, o3, o4⟩ := hR.2.2 a (by omega)
      rw [hd a (by omega), vn _ (by omega)]
      exact ⟨o1, rfl, o3, oka a (by omega)⟩
  obtain ⟨y0, e1, e2, e3, e4, e5⟩ := l_looks hR2 hD
  rw [foA_T hdm] at e3 e5
  obtain ⟨w1, q1, q2, q3⟩ := l_gatherT hC2 oka hD (by rw [hwn]; exact h5) (by rw [hwn]; exact hc1) (fun k hk => hcl k (by rw [← hwn]; exact hk)) okm
  obtain ⟨m2, hm2, a1, a2, g3⟩ := h.g3
  have : m2 = mv' := (nI_eq (by omega) (by omega)).mp (a2.symm.trans hv)
  subst this
  obtain ⟨z, z1, z2, z3, z4, z5⟩ := g3 x hx
  have g4 := h.g4
  obtain ⟨b, w', v', f1, f2, ⟨f3, f4, f5, f6, f7⟩, f8⟩ := l_isCore q1 q2 q3 e1 e2 e3 e5 (by omega) z1 z2 z3 (by rw [vn _ (by omega)]; exact z4) (fun i hi => by rw [vn _ (by omega)]; exact z5 i hi) (fun i hi => by rw [vn _ (by omega)]; exact ⟨(g4 i hi).1, (g4 i hi).2.1⟩)
  refine ⟨b, w', v', f1, f2, f5, Sim_scr h f3 f4 ?_ ?_ ?_, ?_⟩
  · rw [sC_s, f5]
    funext j
    by_cases e : j = 1
    · subst e; rw [upd_s]; exact y1.symm
    · rw [upd_n _ _ e, vn _ e]
  · rw [sC_n _ _ _ (by decide), f6, hv2, sC_n _ _ _ (by decide)]
  · show v'.2.2 3 = _
    rw [f7, hv2]; rfl
  · rcases f8 with f8 | ⟨f8, f9, L, o1, o2, -⟩
    · exact .inl f8
    · exact .inr ⟨f8, f9, o1.trans o2.symm⟩
theorem s_tried {w v : CW} (h : Sim w v) (a b : Int32) : Same w v (f_X11_tried w a b) (f_X12_tried v a b) := by
  unfold f_X11_tried f_X12_tried
  rcases l_verse h a with ⟨h1, h2⟩ | ⟨i, mv', hmv, hi, rfl, m2, h1, h2⟩
  · rw [if_pos (show _ = (0 : Int32) from h1), h2, Option.bind_some, if_pos (show nI 0 = (0 : Int32) from rfl)]
    exact ⟨_, _, _, rfl, rfl, h⟩
  rw [h1, h2, if_neg (show ¬ nI 1 = (0 : Int32) by decide), Option.bind_some, if_neg (show ¬ nI 1 = (0 : Int32) by decide)]
  rcases rng3 b 0 1 with cb | ⟨j, hj, rfl, cb⟩ | ⟨j, hj0, hj, hj2, rfl⟩
  · rw [if_pos cb, if_pos (show f_X12_in b 0 1 = 0 from inN cb (by decide))]
    exact ⟨_, _, _, rfl, rfl, h⟩
  · rw [if_neg (nI_pos hj), if_neg (show ¬ nI j ≤ 1 from of_eq_true (by simp (disch := omega) only [↓nmk_e, ↓reduceIte, Option.bind_some, Option.map_some, lit, ofN, nI_add, pk_sub, pk_mul, nI_clamp, nI_leI, nI_ltI, nI_eq, pk_div, nI_an, nleT, nleF, nltT, nltF, neqT, neqF, or_false, false_or, or_self, or_true, true_or, and_self, and_true, true_and, and_false, false_and, not_true_eq_false, not_false_eq_true])), if_pos (show f_X12_in (nI j) 0 1 = 0 from by simp (disch := omega) only [↓nmk_e, ↓reduceIte, Option.bind_some, Option.map_some, lit, ofN, nI_add, pk_sub, pk_mul, nI_clamp, nI_leI, nI_ltI, nI_eq, pk_div, nI_an, nleT, nleF, nltT, nltF, neqT, neqF, or_false, false_or, or_self, or_true, true_or, and_self, and_true, true_and, and_false, false_and, not_true_eq_false, not_false_eq_true, f_X12_isSort, f_X12_isDay, f_X11_isSort, f_X11_isDay, inI, inP, f_X5_size, f_X5_isFull, f_X11_now, f_X2_isKind, f_X2_has, f_X3_has, f_X8_hasPage, f_X8_hasAllPages, f_X8_stands, f_X1_isPrinted, f_X1_rule, f_X9_has, f_X9_isFull, f_X12_isPage, f_X12_isVerse, sC_s, sC_n, sC_2, sN_1, sN_s, sN_n, sN_2, sS_1, sS_2, sS_s, sS_n, upd_s, upd_e, upd_n, rAt, rPut, rAdd, rSwap, rPush, rNumber, cp_0, cp_1, cp_2, cp_3, cp_4, cp_5, cp_6, cp_7, cp_8, cp_9, cp_10, cp_11, cp_12, cp_13, cp_14, cp_15, cp_16, cp_17, cp_18, cp_19, cp_20, cp_21, cp_22, cp_23, cp_24, cp_25, cp_26, cp_27, cp_28, cp_29, cp_30, cp_31, cp_32, cp_33, cp_34, cp_35, cp_36, cp_37, cp_38, cp_39, cp_40, cp_41, cp_42, cp_43, cp_44, cp_45, cp_46, cp_47, cp_48, cp_49, cp_50, cp_51, cp_52, cp_53, cp_54, cp_55, cp_56, cp_57])]
    exact ⟨_, _, _, rfl, rfl, h⟩
  obtain ⟨m, hm, a1, a2, a3, -⟩ := h.g2
  obtain ⟨t1, D, hD, t2⟩ := h.g0
  have b1 : ¬ ((1 : Int32) < 0 ∨ 3250 ≤ (1 : Int32).toNatClampNeg) := by decide
  have b0 : ¬ ((0 : Int32) < 0 ∨ 3250 ≤ (0 : Int32).toNatClampNeg) := by decide
  rw [if_neg (nI_pos hj2), if_pos (show nI j ≤ 1 from of_eq_true (by simp (disch := omega) only [↓nmk_e, ↓reduceIte, Option.bind_some, Option.map_some, lit, ofN, nI_add, pk_sub, pk_mul, nI_clamp, nI_leI, nI_ltI, nI_eq, pk_div, nI_an, nleT, nleF, nltT, nltF, neqT, neqF, or_false, false_or, or_self, or_true, true_or, and_self, and_true, true_and, and_false, false_and, not_true_eq_false, not_false_eq_true])), if_neg (show ¬ f_X12_in (nI j) 0 1 = 0 from of_eq_true (by simp (disch := omega) only [↓nmk_e, ↓reduceIte, Option.bind_some, Option.map_some, lit, ofN, nI_add, pk_sub, pk_mul, nI_clamp, nI_leI, nI_ltI, nI_eq, pk_div, nI_an, nleT, nleF, nltT, nltF, neqT, neqF, or_false, false_or, or_self, or_true, true_or, and_self, and_true, true_and, and_false, false_and, not_true_eq_false, not_false_eq_true, f_X12_isSort, f_X12_isDay, f_X11_isSort, f_X11_isDay, inI, inP, f_X5_size, f_X5_isFull, f_X11_now, f_X2_isKind, f_X2_has, f_X3_has, f_X8_hasPage, f_X8_hasAllPages, f_X8_stands, f_X1_isPrinted, f_X1_rule, f_X9_has, f_X9_isFull, f_X12_isPage, f_X12_isVerse, sC_s, sC_n, sC_2, sN_1, sN_s, sN_n, sN_2, sS_1, sS_2, sS_s, sS_n, upd_s, upd_e, upd_n, rAt, rPut, rAdd, rSwap, rPush, rNumber, cp_0, cp_1, cp_2, cp_3, cp_4, cp_5, cp_6, cp_7, cp_8, cp_9, cp_10, cp_11, cp_12, cp_13, cp_14, cp_15, cp_16, cp_17, cp_18, cp_19, cp_20, cp_21, cp_22, cp_23, cp_24, cp_25, cp_26, cp_27, cp_28, cp_29, cp_30, cp_31, cp_32, cp_33, cp_34, cp_35, cp_36, cp_37, cp_38, cp_39, cp_40, cp_41, cp_42, cp_43, cp_44, cp_45, cp_46, cp_47, cp_48, cp_49, cp_50, cp_51, cp_52, cp_53, cp_54, cp_55, cp_56, cp_57])), if_neg b1, if_neg b0, show v.1 0 (1 : Int32).toNatClampNeg = nI m from a3, show v.1 0 (0 : Int32).toNatClampNeg = nI D from t2]
  obtain ⟨xF, yF, gx, gy, g⟩ := l_read h (D := D) hm a1
  have hS := sim_rd h hm a1 gx gy
  have eCl : f_X5_clear xF 1 = sN xF 1 (nI 0) := rfl
  have ys : ∀ j, j < 20 → j ≠ 9 → yF.1 0 j = v.1 0 j := fun j hj hj9 => gy.2.2.2.1 j (by omega) (by omega) (by omega) (by omega) (by omega) (by omega) (by omega) (by omega) (by omega)
  rcases g with ⟨e1, e2, c, k1, k2, k3, k4⟩ | ⟨p, hp, e1, e2, e3⟩
  · rw [e1, e2, Option.bind_some, Option.bind_some, nmk_e, if_pos (show -nI 1 < 0 by decide), if_neg (show ¬ nI 1 = (0 : Int32) by decide), if_neg b1, if_neg b1, nmk_e, if_neg b0, eCl]
    have hday : yF.1 0 (230 + m) = nI D := gy.2.2.1
    obtain ⟨r, w', v', q1, q2, q0, q3, q4⟩ := l_trial (x := i) (c := c) hS (by rw [sN_n _ _ (by decide), gx.2.2.2.1]; exact a1) hm (by rw [ys 2 (by decide) (by decide)]; exact m2) hi hmv hD hday k2 k3 (k4.cg (fun _ _ _ _ => rfl) rfl)
    have en : f_X11_now (sN xF 1 (nI 0)) = nI D := by
      have : xF.1 0 0 = nI D := by rw [gx.1 0 (by decide), t1]; exact t2
      simp (disch := omega) only [↓nmk_e, ↓reduceIte, Option.bind_some, Option.map_some, lit, ofN, nI_add, pk_sub, pk_mul, nI_clamp, nI_leI, nI_ltI, nI_eq, pk_div, nI_an, nleT, nleF, nltT, nltF, neqT, neqF, or_false, false_or, or_self, or_true, true_or, and_self, and_true, true_and, and_false, false_and, not_true_eq_false, not_false_eq_true, f_X12_isSort, f_X12_isDay, f_X11_isSort, f_X11_isDay, inI, inP, f_X5_size, f_X5_isFull, f_X11_now, f_X2_isKind, f_X2_has, f_X3_has, f_X8_hasPage, f_X8_hasAllPages, f_X8_stands, f_X1_isPrinted, f_X1_rule, f_X9_has, f_X9_isFull, f_X12_isPage, f_X12_isVerse, sC_s, sC_n, sC_2, sN_1, sN_s, sN_n, sN_2, sS_1, sS_2, sS_s, sS_n, upd_s, upd_e, upd_n, rAt, rPut, rAdd, rSwap, rPush, rNumber, cp_0, cp_1, cp_2, cp_3, cp_4, cp_5, cp_6, cp_7, cp_8, cp_9, cp_10, cp_11, cp_12, cp_13, cp_14, cp_15, cp_16, cp_17, cp_18, cp_19, cp_20, cp_21, cp_22, cp_23, cp_24, cp_25, cp_26, cp_27, cp_28, cp_29, cp_30, cp_31, cp_32, cp_33, cp_34, cp_35, cp_36, cp_37, cp_38, cp_39, cp_40, cp_41, cp_42, cp_43, cp_44, cp_45, cp_46, cp_47, cp_48, cp_49, cp_50, cp_51, cp_52, cp_53, cp_54, cp_55, cp_56, cp_57, this]
    have q1 : f_X11_isSet (sN xF 1 (nI 0)) (nI i) (f_X11_now (sN xF 1 (nI 0))) 1 = some (nI r, w') := by rw [en]; exact q1
    have es : sC (nI 1, yF).2 0 (1 : Int32).toNatClampNeg ((nI 1, yF).2.1 0 (1 : Int32).toNatClampNeg + 1) = sC yF 0 1 (nI (m + 1)) := by
      show sC yF 0 1 (yF.1 0 1 + 1) = _
      rw [ys 1 (by decide) (by decide), a3, nI_1]
    have q2 : f_X12_sets (sC yF 0 1 (nI (m + 1))) (nI i) ((sC yF 0 1 (nI (m + 1))).1 0 (0 : Int32).toNatClampNeg) = some (nI r, v') := by
      rw [show (sC yF 0 1 (nI (m + 1))).1 0 (0 : Int32).toNatClampNeg = nI D from ?_]
      · exact q2
      · show (sC yF 0 1 (nI (m + 1))).1 0 0 = _
        rw [sC_s, upd_n _ _ (by decide), ys 0 (by decide) (by decide)]; exact t2
    have e7 : sC v' 0 (1 : Int32).toNatClampNeg (v'.1 0 (1 : Int32).toNatClampNeg - 1) = sC v' 0 1 (nI m) := by
      show sC v' 0 1 (v'.1 0 1 - 1) = _
      rw [q0, sC_s, upd_s, show nI (m + 1) - 1 = nI m from by simp (disch := omega) only [↓nmk_e, ↓reduceIte, Option.bind_some, Option.map_some, lit, ofN, nI_add, pk_sub, pk_mul, nI_clamp, nI_leI, nI_ltI, nI_eq, pk_div, nI_an, nleT, nleF, nltT, nltF, neqT, neqF, or_false, false_or, or_self, or_true, true_or, and_self, and_true, true_and, and_false, false_and, not_true_eq_false, not_false_eq_true, Nat.add_sub_cancel]]
    rw [es, q1, q2, Option.bind_some, Option.bind_some, if_neg b1, if_neg b1, nmk_e, show sC (nI r, v').2 0 (1 : Int32).toNatClampNeg ((nI r, v').2.1 0 (1 : Int32).toNatClampNeg - 1) = _ from e7]
    rcases q4 with rfl | ⟨rfl, q5, q6⟩
    · rw [if_pos (show nI 0 = (0 : Int32) from rfl), if_pos (show nI 0 = (0 : Int32) from rfl)]
      exact ⟨_, _, _, rfl, rfl, q3⟩
    · rw [if_neg (show ¬ nI 1 = (0 : Int32) by decide), if_neg (show ¬ nI 1 = (0 : Int32) by decide)]
      refine ⟨_, _, _, rfl, ?_, q3⟩
      show some ((if nI j = 0 then v'.2.2 21 else v'.2.2 18), sC v' 0 1 (nI m)) = some ((if nI j = 0 then w'.2.2 7 else w'.2.2 8), sC v' 0 1 (nI m))
      rw [q5, q6]
  · rw [e1, e2, Option.bind_some, Option.bind_some, nmk_e, if_neg (show ¬ nI p < 0 from nI_pos (by omega)), if_pos (show nI 0 = (0 : Int32) from rfl), eCl]
    refine ⟨_, _, _, rfl, ?_, hS⟩
    rw [e3]
