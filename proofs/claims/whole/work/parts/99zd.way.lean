/-! readers: a way, clause after clause -/
def FRx (m : Nat) (x x' : CW) : Prop := (∀ j, j < 4 ∨ 10 ≤ j → x'.1 j = x.1 j) ∧ (∀ j i, j = 4 ∨ j = 5 → i ≠ m → x'.1 j i = x.1 j i) ∧ (∀ j i, 6 ≤ j → j ≤ 9 → (i < 8 * m ∨ 8 * m + 8 ≤ i) → x'.1 j i = x.1 j i) ∧ x'.2.1 = x.2.1 ∧ ∀ j, j ≠ 0 → x'.2.2 j = x.2.2 j
def FRy (m : Nat) (y y' : CW) : Prop := (∀ j, j ≠ 0 → y'.1 j = y.1 j) ∧ (∀ j, j ≠ 1330 + m → (j < 1340 + 8 * m ∨ 1340 + 8 * m + 8 ≤ j) → (j < 1420 + 8 * m ∨ 1420 + 8 * m + 8 ≤ j) → (j < 1500 + 8 * m ∨ 1500 + 8 * m + 8 ≤ j) → (j < 1580 + 8 * m ∨ 1580 + 8 * m + 8 ≤ j) → y'.1 0 j = y.1 0 j) ∧ y'.2.1 = y.2.1 ∧ ∀ j, j ≠ 5 → j ≠ 6 → y'.2.2 j = y.2.2 j
theorem FRx.refl (m : Nat) (x : CW) : FRx m x x := ⟨fun _ _ => rfl, fun _ _ _ _ => rfl, fun _ _ _ _ _ => rfl, rfl, fun _ _ => rfl⟩
theorem FRy.refl (m : Nat) (y : CW) : FRy m y y := ⟨fun _ _ => rfl, fun _ _ _ _ _ _ => rfl, rfl, fun _ _ _ => rfl⟩
theorem FRx.cl {m k : Nat} {a x y : CW} (h : FRx m a x) (hk : k < 8) (g : CFx m (8 * m + k) x y) : FRx m a y := by
  obtain ⟨h1, h2, h3, h4, h5⟩ := h
  obtain ⟨g1, g2, g3, g4, g5⟩ := g
  refine ⟨fun j hj => (g1 j (by omega) (by omega) (by omega) (by omega) (by omega)).trans (h1 j hj), fun j i hj hi => ?_, fun j i a b c => (g2 j i (by omega) (by omega)).trans (h3 j i a b c), g4.trans h4, fun j hj => (g5 j hj).trans (h5 j hj)⟩
  rcases hj with rfl | rfl
  · exact (g3 i hi).trans (h2 4 i (.inl rfl) hi)
  · rw [g1 5 (by decide) (by decide) (by decide) (by decide) (by decide)]; exact h2 5 i (.inr rfl) hi
theorem FRy.cl {m k : Nat} {a x y : CW} (h : FRy m a x) (hk : k < 8) (g : RFx m (8 * m + k) x y) : FRy m a y := by
  obtain ⟨h1, h2, h3, h4⟩ := h
  obtain ⟨g1, g2, g3, g4⟩ := g
  exact ⟨fun j hj => (g1 j hj).trans (h1 j hj), fun j a1 a2 a3 a4 a5 => (g2 j a1 (by omega) (by omega) (by omega) (by omega)).trans (h2 j a1 a2 a3 a4 a5), g3.trans h3, fun j a1 a2 => (g4 j a1 a2).trans (h4 j a1 a2)⟩
theorem FRx_cm {m : Nat} {a x : CW} (h : FRx m a x) (p : Nat) : FRx m a (cm x p) := ⟨h.1, h.2.1, h.2.2.1, h.2.2.2.1, fun j hj => (cm_gn x p hj).trans (h.2.2.2.2 j hj)⟩
theorem FRx_s5 {m : Nat} {a x : CW} (h : FRx m a x) (v : Int32) : FRx m a (sC x 5 m v) := by
  obtain ⟨h1, h2, h3, h4, h5⟩ := h
  refine ⟨fun j hj => ?_, fun j i hj hi => ?_, fun j i a b c => ?_, h4, h5⟩
  · rw [sC_n _ _ _ (by omega)]; exact h1 j hj
  · by_cases e : j = 5
    · subst e; rw [sC_s, upd_n _ _ hi]; exact h2 5 i hj hi
    · rw [sC_n _ _ _ e]; exact h2 j i hj hi
  · rw [sC_n _ _ _ (by omega)]; exact h3 j i a b c
theorem FRy_mv {m : Nat} {a x : CW} (h : FRy m a x) (e p : Nat) : FRy m a (mv x e p) := ⟨h.1, h.2.1, h.2.2.1, fun j h5 h6 => (mv_gn x e p h5 h6).trans (h.2.2.2 j h5 h6)⟩
/-- what a way tells so far: k clauses -/
def WyK (m k : Nat) (x y : CW) : Prop := y.1 0 (1330 + m) = nI k ∧ (∀ j, j < k → cClause x.1 (y.1 0) (8 * m + j)) ∧ cFeast x.1 (y.1 0) m k
theorem cClause.cg {C C' : Nat → Nat → Int32} {s s' : Nat → Int32} {p : Nat} (h : cClause C s p) (hC : ∀ k, 6 ≤ k → k ≤ 9 → C' k p = C k p) (h1 : s' (1340 + p) = s (1340 + p)) (h2 : s' (1420 + p) = s (1420 + p)) (h3 : s' (1500 + p) = s (1500 + p)) (h4 : s' (1580 + p) = s (1580 + p)) : cClause C' s' p := by
  unfold cClause at h ⊢
  rw [hC 6 (by decide) (by decide), hC 7 (by decide) (by decide), hC 8 (by decide) (by decide), hC 9 (by decide) (by decide), h1, h2, h3, h4]
  exact h
theorem WyK.nx {m k n p' : Nat} {B : Nat → Int32} {x y x' y' : CW} (h : WyK m k x y) (hk : k < 8) (hm : m ≤ 8) (hCl : Cl x y x' y' m (8 * m + k) k B n p' 1) : RAt y' m B n p' 0 ∧ WyK m (k + 1) x' y' := by
  obtain ⟨-, w2, f, hf, f4, fb⟩ := h
  obtain ⟨-, g1, g2, g3⟩ := hCl
  rcases g3 with ⟨-, r1, r2, r3, r4⟩ | ⟨z, -⟩
  · refine ⟨r1, r2, fun j hj => ?_, ?_⟩
    · by_cases e : j = k
      · rw [e]; exact r3
      · exact (w2 j (by omega)).cg (fun q q1 q2 => g1.2.1 q _ (by omega) (by omega)) (g2.2.1 _ (by omega) (by omega) (by omega) (by omega) (by omega)) (g2.2.1 _ (by omega) (by omega) (by omega) (by omega) (by omega)) (g2.2.1 _ (by omega) (by omega) (by omega) (by omega) (by omega)) (g2.2.1 _ (by omega) (by omega) (by omega) (by omega) (by omega))
    · obtain ⟨f', hf', f4', fb'⟩ := r4 f hf f4
      refine ⟨f', hf', f4', fun d hd => ?_⟩
      rw [fb' d hd, fb d hd]
      have old : ∀ j, j < k → (y'.1 0 (1340 + (8 * m + j)) = y.1 0 (1340 + (8 * m + j)) ∧ y'.1 0 (1500 + (8 * m + j)) = y.1 0 (1500 + (8 * m + j))) := fun j hj => ⟨g2.2.1 _ (by omega) (by omega) (by omega) (by omega) (by omega), g2.2.1 _ (by omega) (by omega) (by omega) (by omega) (by omega)⟩
      constructor
      · rintro (⟨j, j1, j2, j3⟩ | z)
        · exact ⟨j, by omega, (old j j1).1.trans j2, (old j j1).2.trans j3⟩
        · exact ⟨k, by omega, z⟩
      · rintro ⟨j, j1, j2, j3⟩
        by_cases e : j = k
        · subst e; exact .inr ⟨j2, j3⟩
        · exact .inl ⟨j, by omega, (old j (by omega)).1.symm.trans j2, (old j (by omega)).2.symm.trans j3⟩
  · omega
theorem WyK.cg {m k : Nat} {x y x' y' : CW} (h : WyK m k x y) (hC : ∀ j, 4 ≤ j → j ≤ 9 → j ≠ 5 → x'.1 j = x.1 j) (hy : y'.1 0 = y.1 0) : WyK m k x' y' := by
  obtain ⟨h1, h2, h3⟩ := h
  unfold WyK
  rw [hy]
  refine ⟨h1, fun j hj => (h2 j hj).cg (fun q q1 q2 => by rw [hC q (by omega) q2 (by omega)]) rfl rfl rfl rfl, ?_⟩
  unfold cFeast at h3 ⊢
  rw [hC 4 (by decide) (by decide) (by decide)]
  exact h3
/-- the end of a way of the reference -/
def jEnd (m : Nat) : CW → Option (Int32 × CW) := fun w159_ => (nmk (fun (z189_0 : Int32) => (nmk (sS w159_ 6 z189_0) fun w189 => (some ((if (w189.2.2 6) = 0 then 1 else 0), w189)))) fun j189 => (nmk (fun (_ : Unit) => (j189 1)) fun j184 => (if (w159_.2.2 6) = 0 then (if ((240 + nI m) < 0 ∨ 3250 ≤ (240 + nI m).toNatClampNeg) then none else (if (w159_.2.2 5) = (w159_.1 0 (240 + nI m).toNatClampNeg) then (j189 0) else (j184 ()))) else (j184 ()))))
theorem jEnd_0 {y : CW} {m n p : Nat} {B : Nat → Int32} (hB : Tx B n) (h : RAt y m B n p 0) (hp : p = n) : jEnd m y = some (nI 1, mv y 0 p) := by
  have hn := hB.1
  subst hp
  rw [← mv_self h.2.1 h.2.2.1]
  obtain ⟨h1, h2, h3, h4, h5, h6, h7, h8⟩ := h
  have h7 : (mv y 0 p).1 0 (240 + m) = nI p := h7
  unfold jEnd
  simp (disch := omega) only [↓nmk_e, ↓reduceIte, Option.bind_some, Option.map_some, lit, ofN, nI_add, pk_sub, pk_mul, nI_clamp, nI_leI, nI_ltI, nI_eq, pk_div, nI_an, nleT, nleF, nltT, nltF, neqT, neqF, or_false, false_or, or_self, or_true, true_or, and_self, and_true, true_and, and_false, false_and, not_true_eq_false, not_false_eq_true, h7, mv_6, mv_g5, mv_g6, mv_mv]
theorem jEnd_1 {y : CW} {m n p e : Nat} {B : Nat → Int32} (hB : Tx B n) (h : RAt y m B n p e) (hp : p ≠ n ∨ e = 1) : jEnd m y = some (nI 0, mv y 1 p) := by
  have hn := hB.1
  rw [← mv_self h.2.1 h.2.2.1]
  obtain ⟨h1, h2, h3, h4, h5, h6, h7, h8⟩ := h
  have h7 : (mv y e p).1 0 (240 + m) = nI n := h7
  unfold jEnd
  have : e = 0 ∨ e = 1 := by omega
  rcases this with rfl | rfl
  · have hp : p ≠ n := by omega
    simp (disch := omega) only [↓nmk_e, ↓reduceIte, Option.bind_some, Option.map_some, lit, ofN, nI_add, pk_sub, pk_mul, nI_clamp, nI_leI, nI_ltI, nI_eq, pk_div, nI_an, nleT, nleF, nltT, nltF, neqT, neqF, or_false, false_or, or_self, or_true, true_or, and_self, and_true, true_and, and_false, false_and, not_true_eq_false, not_false_eq_true, h7, mv_6, mv_g5, mv_g6, mv_mv]
  · simp (disch := omega) only [↓nmk_e, ↓reduceIte, Option.bind_some, Option.map_some, lit, ofN, nI_add, pk_sub, pk_mul, nI_clamp, nI_leI, nI_ltI, nI_eq, pk_div, nI_an, nleT, nleF, nltT, nltF, neqT, neqF, or_false, false_or, or_self, or_true, true_or, and_self, and_true, true_and, and_false, false_and, not_true_eq_false, not_false_eq_true, h7, mv_6, mv_g5, mv_g6, mv_mv]
/-- both loops -/
def WyF (m : Nat) (x0 y0 : CW) (r r2 : Option (Int32 × CW)) : Prop := ∃ xF yF, FRx m x0 xF ∧ FRy m y0 yF ∧ ((r = some (-nI 1, xF) ∧ r2 = some (nI 1, yF) ∧ ∃ c, 1 ≤ c ∧ c ≤ 8 ∧ xF.1 5 m = nI c ∧ WyK m c xF yF) ∨ ∃ p, p ≤ 120 ∧ r = some (nI p, xF) ∧ r2 = some (nI 0, yF) ∧ yF.2.2 5 = nI p)
theorem l_loop {x0 y0 : CW} {B : Nat → Int32} {n m : Nat} (hB : Tx B n) (hm : m ≤ 8) {x y : CW} {p : Nat} (hC : CAt x B n p) (hR : RAt y m B n p 0) (hW : WyK m 0 x y) (hx : FRx m x0 x) (hy : FRy m y0 y) : WyF m x0 y0 (f_X10_read_L21 (nI m) FU (nI 0) x) (Option.bind (f_X12_reads y (nI m)) fun z => f_X12_readsWay_L110 (nI m) (jEnd m) FU z) := by
  have hn := hB.1
  refine run2 (fun q i x => f_X10_read_L21 (nI m) q i x) (fun q _ y => Option.bind (f_X12_reads y (nI m)) fun z => f_X12_readsWay_L110 (nI m) (jEnd m) q z) (fun k x y => k < 8 ∧ ∃ p, CAt x B n p ∧ RAt y m B n p 0 ∧ WyK m k x y ∧ FRx m x0 x ∧ FRy m y0 y) 8 (fun r r2 => WyF m x0 y0 r r2) ?_ ?_ FU FU 0 x y (Nat.zero_le _) (by unfold FU; omega) (by unfold FU; omega) ⟨by decide, p, hC, hR, hW, hx, hy⟩
  · rintro q q2 s t ⟨h, -⟩
    omega
  · rintro q q2 k x y hk ⟨-, p, hC, hR, hW, hx, hy⟩
    obtain ⟨f, hf, f4, -⟩ := hW.2.2
    obtain ⟨b, x', y', p', e1, e2, hCl⟩ := l_clause hB hC hR hk hW.1 ⟨f, hf, f4⟩
    have hx' : FRx m x0 x' := hx.cl hk hCl.2.1
    have hy' : FRy m y0 y' := hy.cl hk hCl.2.2.1
    have hC' : CAt x' B n p' := hCl.1
    have hp' := hC'.2.2.2
    have ei : nI m * 8 + nI k = nI (8 * m + k) := by
      have : m * 8 + k = 8 * m + k := by omega
      simp (disch := omega) only [↓nmk_e, ↓reduceIte, Option.bind_some, Option.map_some, lit, ofN, nI_add, pk_sub, pk_mul, nI_clamp, nI_leI, nI_ltI, nI_eq, pk_div, nI_an, nleT, nleF, nltT, nltF, neqT, neqF, or_false, false_or, or_self, or_true, true_or, and_self, and_true, true_and, and_false, false_and, not_true_eq_false, not_false_eq_true, this]
    show WyF m x0 y0 (f_X10_read_L21 (nI m) (q + 1) (nI k) x) (Option.bind (f_X12_reads y (nI m)) fun z => f_X12_readsWay_L110 (nI m) (jEnd m) (q2 + 1) z) ∨ ∃ s' t', f_X10_read_L21 (nI m) (q + 1) (nI k) x = f_X10_read_L21 (nI m) q (nI (k + 1)) s' ∧ (Option.bind (f_X12_reads y (nI m)) fun z => f_X12_readsWay_L110 (nI m) (jEnd m) (q2 + 1) z) = (Option.bind (f_X12_reads t' (nI m)) fun z => f_X12_readsWay_L110 (nI m) (jEnd m) q2 z) ∧ _
    rw [f_X10_read_L21, if_neg (show ¬ (8 : Int32) ≤ nI k from of_eq_true (by simp (disch := omega) only [↓nmk_e, ↓reduceIte, Option.bind_some, Option.map_some, lit, ofN, nI_add, pk_sub, pk_mul, nI_clamp, nI_leI, nI_ltI, nI_eq, pk_div, nI_an, nleT, nleF, nltT, nltF, neqT, neqF, or_false, false_or, or_self, or_true, true_or, and_self, and_true, true_and, and_false, false_and, not_true_eq_false, not_false_eq_true])), ei, e1, Option.bind_some, e2, Option.bind_some]
    rcases hCl.2.2.2 with ⟨rfl, hR', -⟩ | ⟨rfl, hR'⟩
    · obtain ⟨-, hW'⟩ := hW.nx hk hm hCl
      have e5 : rPut x' 5 (nI m) (nI k + 1) = sC x' 5 m (nI (k + 1)) := by rw [pT _ (by omega) (by rw [cp_5]; omega), nI_1]
      have hC5 : CAt (sC x' 5 m (nI (k + 1))) B n p' := hC'.sC (by decide)
      have hx5 : FRx m x0 (sC x' 5 m (nI (k + 1))) := FRx_s5 hx' _
      have hW5 : WyK m (k + 1) (sC x' 5 m (nI (k + 1))) y' := hW'.cg (fun j j1 j2 j3 => sC_n _ _ _ j3) rfl
      have g1 := l_next hB hC5
      have f1 := l_here hB hR'
      rw [if_neg (show ¬ nI 1 = (0 : Int32) by decide), nmk_e, show rPut (nI 1, x').2 5 (nI m) (nI k + 1) = _ from e5]
      have eR : f_X12_readsWay_L110 (nI m) (jEnd m) (q2 + 1) y' = if k = 7 then jEnd m y' else if B p' = nI 59 then (Option.bind (f_X12_reads (mv y' 0 (p' + 1)) (nI m)) fun z => f_X12_readsWay_L110 (nI m) (jEnd m) q2 z) else jEnd m y' := by
        have s1 : sS y' 5 (nI p' + 1) = mv y' 0 (p' + 1) := by
          rw [nI_1]
          have := mv_5 y' 0 p' (p' + 1)
          rw [mv_self hR'.2.1 hR'.2.2.1] at this; exact this
        have kk : (1330 + nI m).toNatClampNeg = 1330 + m := by simp (disch := omega) only [↓nmk_e, ↓reduceIte, Option.bind_some, Option.map_some, lit, ofN, nI_add, pk_sub, pk_mul, nI_clamp, nI_leI, nI_ltI, nI_eq, pk_div, nI_an, nleT, nleF, nltT, nltF, neqT, neqF, or_false, false_or, or_self, or_true, true_or, and_self, and_true, true_and, and_false, false_and, not_true_eq_false, not_false_eq_true]
        rw [f_X12_readsWay_L110, if_pos (show y'.2.2 6 = 0 from hR'.2.2.1), if_neg (show ¬ ((1330 + nI m) < 0 ∨ 3250 ≤ (1330 + nI m).toNatClampNeg) from of_eq_true (by simp (disch := omega) only [↓nmk_e, ↓reduceIte, Option.bind_some, Option.map_some, lit, ofN, nI_add, pk_sub, pk_mul, nI_clamp, nI_leI, nI_ltI, nI_eq, pk_div, nI_an, nleT, nleF, nltT, nltF, neqT, neqF, or_false, false_or, or_self, or_true, true_or, and_self, and_true, true_and, and_false, false_and, not_true_eq_false, not_false_eq_true])), kk, hW'.1]
        by_cases c7 : k = 7
        · rw [if_pos c7, if_pos (show (8 : Int32) ≤ nI (k + 1) from of_eq_true (by simp (disch := omega) only [↓nmk_e, ↓reduceIte, Option.bind_some, Option.map_some, lit, ofN, nI_add, pk_sub, pk_mul, nI_clamp, nI_leI, nI_ltI, nI_eq, pk_div, nI_an, nleT, nleF, nltT, nltF, neqT, neqF, or_false, false_or, or_self, or_true, true_or, and_self, and_true, true_and, and_false, false_and, not_true_eq_false, not_false_eq_true]))]
        · rw [if_neg c7, if_neg (show ¬ (8 : Int32) ≤ nI (k + 1) from of_eq_true (by simp (disch := omega) only [↓nmk_e, ↓reduceIte, Option.bind_some, Option.map_some, lit, ofN, nI_add, pk_sub, pk_mul, nI_clamp, nI_leI, nI_ltI, nI_eq, pk_div, nI_an, nleT, nleF, nltT, nltF, neqT, neqF, or_false, false_or, or_self, or_true, true_or, and_self, and_true, true_and, and_false, false_and, not_true_eq_false, not_false_eq_true])), f1, Option.bind_some]
          by_cases c59 : B p' = nI 59
          · rw [if_pos (show B p' = (59 : Int32) from c59), if_pos c59, nmk_e, hR'.2.1, s1]
          · rw [if_neg (show ¬ B p' = (59 : Int32) from c59), if_neg c59]
      rw [eR, hC5.1, show f_X5_size (sC x' 5 m (nI (k + 1))) 1 = nI n from hC5.2.1, g1]
      by_cases cn : p' < n
      · rw [if_pos (show nI p' < nI n from of_eq_true (by simp (disch := omega) only [↓nmk_e, ↓reduceIte, Option.bind_some, Option.map_some, lit, ofN, nI_add, pk_sub, pk_mul, nI_clamp, nI_leI, nI_ltI, nI_eq, pk_div, nI_an, nleT, nleF, nltT, nltF, neqT, neqF, or_false, false_or, or_self, or_true, true_or, and_self, and_true, true_and, and_false, false_and, not_true_eq_false, not_false_eq_true, cn]))]
        have stop : WyF m x0 y0 (some (nI p', sC x' 5 m (nI (k + 1)))) (jEnd m y') := ⟨_, _, hx5, FRy_mv hy' 1 p', .inr ⟨p', by omega, rfl, jEnd_1 hB hR' (.inl (by omega)), mv_g5 _ _ _⟩⟩
        by_cases c59 : B p' = nI 59
        · rw [if_pos (show B p' = (59 : Int32) from c59)]
          by_cases c7 : k = 7
          · subst c7
            rw [if_pos (show nI 7 = (7 : Int32) from rfl), if_pos rfl]
            exact .inl stop
          · rw [if_neg (show ¬ nI k = (7 : Int32) from fun z => c7 ((nI_eq (by omega) (by omega)).mp z)), if_neg c7, if_pos c59, nmk_e, nmk_e]
            refine .inr ⟨cm (sC x' 5 m (nI (k + 1))) (p' + 1), mv y' 0 (p' + 1), ?_, rfl, by omega, p' + 1, hC5.cm cn, hR'.mv cn (by decide), hW5.cg (fun _ _ _ _ => rfl) rfl, FRx_cm hx5 _, FRy_mv hy' _ _⟩
            rw [nI_1, nI_1]
            rfl
        · rw [if_neg (show ¬ B p' = (59 : Int32) from c59)]
          by_cases c7 : k = 7
          · rw [if_pos c7]; exact .inl stop
          · rw [if_neg c7, if_neg c59]; exact .inl stop
      · have c59 : ¬ B p' = nI 59 := fun z => cn (hB.lt (by decide) z)
        have hpn : p' = n := by omega
        rw [if_neg (show ¬ nI p' < nI n from of_eq_true (by simp (disch := omega) only [↓nmk_e, ↓reduceIte, Option.bind_some, Option.map_some, lit, ofN, nI_add, pk_sub, pk_mul, nI_clamp, nI_leI, nI_ltI, nI_eq, pk_div, nI_an, nleT, nleF, nltT, nltF, neqT, neqF, or_false, false_or, or_self, or_true, true_or, and_self, and_true, true_and, and_false, false_and, not_true_eq_false, not_false_eq_true, cn])), if_neg c59]
        have : (if k = 7 then jEnd m y' else jEnd m y') = jEnd m y' := by split <;> rfl
        rw [this]
        refine .inl ⟨_, _, hx5, FRy_mv hy' 0 p', .inl ⟨rfl, jEnd_0 hB hR' hpn, k + 1, by omega, by omega, ?_, hW5.cg (fun _ _ _ _ => rfl) rfl⟩⟩
        rw [sC_s, upd_s]
    · rw [if_pos (show nI 0 = (0 : Int32) from rfl), f_X12_readsWay_L110, if_neg (show ¬ y'.2.2 6 = 0 from by rw [hR'.2.2.1]; decide), show (nI 0, x').2.2.2 0 = nI p' from hC'.1]
      exact .inl ⟨_, _, hx', FRy_mv hy' 1 p', .inr ⟨p', by omega, rfl, jEnd_1 hB hR' (.inr rfl), mv_g5 _ _ _⟩⟩
