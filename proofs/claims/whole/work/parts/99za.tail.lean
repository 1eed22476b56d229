/-! readers: a clause of the reference, stage by stage; what goes wrong stays wrong -/
def rJ1 (m : Nat) (w : CW) : Option CW := some (sC w 0 (1330 + m) (w.1 0 (1330 + m) + (if w.2.2 6 = 0 then 1 else 0)))
def rJ5 (m c : Nat) (q : Int32 × CW) : Option CW := rJ1 m (sC q.2 0 (1500 + c) q.1)
def rF5 (m c : Nat) (q : Int32 × CW) : Option CW := rJ1 m (sC q.2 0 (1580 + c) q.1)
def rF4 (m c : Nat) (w : CW) : Option CW := Option.bind (f_X12_figure w 0) (rF5 m c)
def rF3 (m c : Nat) (q : Int32 × CW) : Option CW := Option.bind (f_X12_must (sC q.2 0 (1500 + c) q.1) 32) (rF4 m c)
def rF2 (m c : Nat) (w : CW) : Option CW := Option.bind (f_X12_figure w 1) (rF3 m c)
def rJ58 (m c : Nat) (k z : Int32) (w : CW) : Option CW := if k = 0 then Option.bind (f_X12_must (sC w 0 (1420 + c) z) 32) (rF2 m c) else if k = 1 then rJ1 m (sC w 0 (1420 + c) z) else if k = 5 then Option.bind (f_X12_figure (sC w 0 (1420 + c) z) 0) (rJ5 m c) else if k = 6 then Option.bind (f_X12_figure (sC w 0 (1420 + c) z) 0) (rJ5 m c) else Option.bind (f_X12_number (sC w 0 (1420 + c) z)) (rJ5 m c)
def rTl (m c : Nat) (q : Int32 × CW) : Option CW := if q.1 = 0 then Option.bind (f_X12_letters (sC q.2 0 (1340 + c) q.1)) (fun r => rJ58 m c q.1 r.1 r.2) else if q.1 = 1 then Option.bind (f_X12_letters (sC q.2 0 (1340 + c) q.1)) (fun r => rJ58 m c q.1 r.1 r.2) else rJ58 m c q.1 0 (sC q.2 0 (1340 + c) q.1)
theorem reads_e {y : CW} {m k : Nat} (hm : m ≤ 8) (hk : k < 8) (h : y.1 0 (1330 + m) = nI k) : f_X12_reads y (nI m) = Option.bind (f_X12_word y) (rTl m (8 * m + k)) := by
  have k1 : (1330 + nI m).toNatClampNeg = 1330 + m := by simp (disch := omega) only [↓nmk_e, ↓reduceIte, Option.bind_some, Option.map_some, lit, ofN, nI_add, pk_sub, pk_mul, nI_clamp, nI_leI, nI_ltI, nI_eq, pk_div, nI_an, nleT, nleF, nltT, nltF, neqT, neqF, or_false, false_or, or_self, or_true, true_or, and_self, and_true, true_and, and_false, false_and, not_true_eq_false, not_false_eq_true]
  have b1 : ((1330 + nI m) < 0 ∨ 3250 ≤ 1330 + m) = False := by simp (disch := omega) only [↓nmk_e, ↓reduceIte, Option.bind_some, Option.map_some, lit, ofN, nI_add, pk_sub, pk_mul, nI_clamp, nI_leI, nI_ltI, nI_eq, pk_div, nI_an, nleT, nleF, nltT, nltF, neqT, neqF, or_false, false_or, or_self, or_true, true_or, and_self, and_true, true_and, and_false, false_and, not_true_eq_false, not_false_eq_true]
  have k2 : (1340 + nI (8 * m + k)).toNatClampNeg = 1340 + (8 * m + k) := by simp (disch := omega) only [↓nmk_e, ↓reduceIte, Option.bind_some, Option.map_some, lit, ofN, nI_add, pk_sub, pk_mul, nI_clamp, nI_leI, nI_ltI, nI_eq, pk_div, nI_an, nleT, nleF, nltT, nltF, neqT, neqF, or_false, false_or, or_self, or_true, true_or, and_self, and_true, true_and, and_false, false_and, not_true_eq_false, not_false_eq_true]
  have b2 : ((1340 + nI (8 * m + k)) < 0 ∨ 3250 ≤ 1340 + (8 * m + k)) = False := by simp (disch := omega) only [↓nmk_e, ↓reduceIte, Option.bind_some, Option.map_some, lit, ofN, nI_add, pk_sub, pk_mul, nI_clamp, nI_leI, nI_ltI, nI_eq, pk_div, nI_an, nleT, nleF, nltT, nltF, neqT, neqF, or_false, false_or, or_self, or_true, true_or, and_self, and_true, true_and, and_false, false_and, not_true_eq_false, not_false_eq_true]
  have k3 : (1420 + nI (8 * m + k)).toNatClampNeg = 1420 + (8 * m + k) := by simp (disch := omega) only [↓nmk_e, ↓reduceIte, Option.bind_some, Option.map_some, lit, ofN, nI_add, pk_sub, pk_mul, nI_clamp, nI_leI, nI_ltI, nI_eq, pk_div, nI_an, nleT, nleF, nltT, nltF, neqT, neqF, or_false, false_or, or_self, or_true, true_or, and_self, and_true, true_and, and_false, false_and, not_true_eq_false, not_false_eq_true]
  have b3 : ((1420 + nI (8 * m + k)) < 0 ∨ 3250 ≤ 1420 + (8 * m + k)) = False := by simp (disch := omega) only [↓nmk_e, ↓reduceIte, Option.bind_some, Option.map_some, lit, ofN, nI_add, pk_sub, pk_mul, nI_clamp, nI_leI, nI_ltI, nI_eq, pk_div, nI_an, nleT, nleF, nltT, nltF, neqT, neqF, or_false, false_or, or_self, or_true, true_or, and_self, and_true, true_and, and_false, false_and, not_true_eq_false, not_false_eq_true]
  have k4 : (1500 + nI (8 * m + k)).toNatClampNeg = 1500 + (8 * m + k) := by simp (disch := omega) only [↓nmk_e, ↓reduceIte, Option.bind_some, Option.map_some, lit, ofN, nI_add, pk_sub, pk_mul, nI_clamp, nI_leI, nI_ltI, nI_eq, pk_div, nI_an, nleT, nleF, nltT, nltF, neqT, neqF, or_false, false_or, or_self, or_true, true_or, and_self, and_true, true_and, and_false, false_and, not_true_eq_false, not_false_eq_true]
  have b4 : ((1500 + nI (8 * m + k)) < 0 ∨ 3250 ≤ 1500 + (8 * m + k)) = False := by simp (disch := omega) only [↓nmk_e, ↓reduceIte, Option.bind_some, Option.map_some, lit, ofN, nI_add, pk_sub, pk_mul, nI_clamp, nI_leI, nI_ltI, nI_eq, pk_div, nI_an, nleT, nleF, nltT, nltF, neqT, neqF, or_false, false_or, or_self, or_true, true_or, and_self, and_true, true_and, and_false, false_and, not_true_eq_false, not_false_eq_true]
  have k5 : (1580 + nI (8 * m + k)).toNatClampNeg = 1580 + (8 * m + k) := by simp (disch := omega) only [↓nmk_e, ↓reduceIte, Option.bind_some, Option.map_some, lit, ofN, nI_add, pk_sub, pk_mul, nI_clamp, nI_leI, nI_ltI, nI_eq, pk_div, nI_an, nleT, nleF, nltT, nltF, neqT, neqF, or_false, false_or, or_self, or_true, true_or, and_self, and_true, true_and, and_false, false_and, not_true_eq_false, not_false_eq_true]
  have b5 : ((1580 + nI (8 * m + k)) < 0 ∨ 3250 ≤ 1580 + (8 * m + k)) = False := by simp (disch := omega) only [↓nmk_e, ↓reduceIte, Option.bind_some, Option.map_some, lit, ofN, nI_add, pk_sub, pk_mul, nI_clamp, nI_leI, nI_ltI, nI_eq, pk_div, nI_an, nleT, nleF, nltT, nltF, neqT, neqF, or_false, false_or, or_self, or_true, true_or, and_self, and_true, true_and, and_false, false_and, not_true_eq_false, not_false_eq_true]
  have e1 : 8 * nI m + nI k = nI (8 * m + k) := by simp (disch := omega) only [↓nmk_e, ↓reduceIte, Option.bind_some, Option.map_some, lit, ofN, nI_add, pk_sub, pk_mul, nI_clamp, nI_leI, nI_ltI, nI_eq, pk_div, nI_an, nleT, nleF, nltT, nltF, neqT, neqF, or_false, false_or, or_self, or_true, true_or, and_self, and_true, true_and, and_false, false_and, not_true_eq_false, not_false_eq_true]
  unfold f_X12_reads
  rw [nmk_e, k1, h, e1]
  simp only [k1, k2, k3, k4, k5, b1, b2, b3, b4, b5, if_false]
  rfl
def RFx (m c : Nat) (y y' : CW) : Prop := (∀ j, j ≠ 0 → y'.1 j = y.1 j) ∧ (∀ j, j ≠ 1330 + m → j ≠ 1340 + c → j ≠ 1420 + c → j ≠ 1500 + c → j ≠ 1580 + c → y'.1 0 j = y.1 0 j) ∧ y'.2.1 = y.2.1 ∧ ∀ j, j ≠ 5 → j ≠ 6 → y'.2.2 j = y.2.2 j
theorem RFx.refl (m c : Nat) (y : CW) : RFx m c y y := ⟨fun _ _ => rfl, fun _ _ _ _ _ _ => rfl, rfl, fun _ _ _ => rfl⟩
theorem RFx.sC {m c : Nat} {y y' : CW} (h : RFx m c y y') {i : Nat} (hi : i = 1330 + m ∨ i = 1340 + c ∨ i = 1420 + c ∨ i = 1500 + c ∨ i = 1580 + c) (v : Int32) : RFx m c y (sC y' 0 i v) := by
  obtain ⟨h1, h2, h3, h4⟩ := h
  refine ⟨fun j hj => ?_, fun j j1 j2 j3 j4 j5 => ?_, h3, h4⟩
  · rw [sC_n _ _ _ hj]; exact h1 j hj
  · rw [sC_s, upd_n _ _ (by rcases hi with rfl | rfl | rfl | rfl | rfl <;> assumption)]; exact h2 j j1 j2 j3 j4 j5
theorem RFx.mv {m c : Nat} {y y' : CW} (h : RFx m c y y') (e p : Nat) : RFx m c y (mv y' e p) := by
  obtain ⟨h1, h2, h3, h4⟩ := h
  refine ⟨h1, h2, h3, fun j j1 j2 => ?_⟩
  rw [← h4 j j1 j2]
  exact mv_gn y' e p j1 j2
theorem RFx.trans {m c : Nat} {x y z : CW} (h : RFx m c x y) (g : RFx m c y z) : RFx m c x z :=
  ⟨fun j hj => (g.1 j hj).trans (h.1 j hj), fun j a1 a2 a3 a4 a5 => (g.2.1 j a1 a2 a3 a4 a5).trans (h.2.1 j a1 a2 a3 a4 a5), g.2.2.1.trans h.2.2.1, fun j a1 a2 => (g.2.2.2 j a1 a2).trans (h.2.2.2 j a1 a2)⟩
/-- wrong, from here to the end -/
def Wr (m c : Nat) (B : Nat → Int32) (n p : Nat) (w : CW) (r : Option CW) : Prop := ∃ y', r = some y' ∧ RFx m c w y' ∧ RAt y' m B n p 1
theorem Wr.of {m c : Nat} {B : Nat → Int32} {n p : Nat} {w w2 : CW} {r : Option CW} (h : Wr m c B n p w2 r) (g : RFx m c w w2) : Wr m c B n p w r := by
  obtain ⟨y', h1, h2, h3⟩ := h
  exact ⟨y', h1, g.trans h2, h3⟩
section WRS
variable {m c n p : Nat} {B : Nat → Int32} {w : CW}
theorem wJ1 (hB : Tx B n) (h : RAt w m B n p 1) : Wr m c B n p w (rJ1 m w) := ⟨_, rfl, (RFx.refl m c w).sC (.inl rfl) _, h.sC hB.1 (by omega)⟩
theorem wJ5 (hB : Tx B n) (h : RAt w m B n p 1) (q : Int32) : Wr m c B n p w (rJ5 m c (q, w)) := (wJ1 hB (h.sC hB.1 (by omega))).of ((RFx.refl m c w).sC (.inr (.inr (.inr (.inl rfl)))) _)
theorem wF5 (hB : Tx B n) (h : RAt w m B n p 1) (q : Int32) : Wr m c B n p w (rF5 m c (q, w)) := (wJ1 hB (h.sC hB.1 (by omega))).of ((RFx.refl m c w).sC (.inr (.inr (.inr (.inr rfl)))) _)
theorem wF4 (hB : Tx B n) (h : RAt w m B n p 1) : Wr m c B n p w (rF4 m c w) := by
  obtain ⟨q, e⟩ := l_figW hB h 0
  unfold rF4
  rw [e, Option.bind_some]
  exact (wF5 hB (h.mv h.2.2.2.2.1 (by decide)) q).of ((RFx.refl m c w).mv 1 p)
theorem wF3 (hB : Tx B n) (h : RAt w m B n p 1) (q : Int32) : Wr m c B n p w (rF3 m c (q, w)) := by
  have h2 : RAt (sC w 0 (1500 + c) q) m B n p 1 := h.sC hB.1 (by omega)
  unfold rF3
  rw [l_mustW h2, Option.bind_some]
  exact (wF4 hB (h2.mv h.2.2.2.2.1 (by decide))).of (((RFx.refl m c w).sC (.inr (.inr (.inr (.inl rfl)))) q).mv 1 p)
theorem wF2 (hB : Tx B n) (h : RAt w m B n p 1) : Wr m c B n p w (rF2 m c w) := by
  obtain ⟨q, e⟩ := l_figW hB h 1
  unfold rF2
  rw [e, Option.bind_some]
  exact (wF3 hB (h.mv h.2.2.2.2.1 (by decide)) q).of ((RFx.refl m c w).mv 1 p)
theorem wJ58 (hB : Tx B n) (h : RAt w m B n p 1) (k z : Int32) : Wr m c B n p w (rJ58 m c k z w) := by
  have h2 : RAt (sC w 0 (1420 + c) z) m B n p 1 := h.sC hB.1 (by omega)
  have g : RFx m c w (mv (sC w 0 (1420 + c) z) 1 p) := ((RFx.refl m c w).sC (.inr (.inr (.inl rfl))) z).mv 1 p
  have h3 : RAt (mv (sC w 0 (1420 + c) z) 1 p) m B n p 1 := h2.mv h.2.2.2.2.1 (by decide)
  unfold rJ58
  by_cases k0 : k = 0
  · rw [if_pos k0, l_mustW h2, Option.bind_some]
    exact (wF2 hB h3).of g
  rw [if_neg k0]
  by_cases k1 : k = 1
  · rw [if_pos k1]
    exact (wJ1 hB h2).of ((RFx.refl m c w).sC (.inr (.inr (.inl rfl))) z)
  rw [if_neg k1]
  obtain ⟨q, e⟩ := l_figW hB h2 0
  obtain ⟨q2, e2⟩ := l_numW h2
  by_cases k5 : k = 5
  · rw [if_pos k5, e, Option.bind_some]
    exact (wJ5 hB h3 q).of g
  rw [if_neg k5]
  by_cases k6 : k = 6
  · rw [if_pos k6, e, Option.bind_some]
    exact (wJ5 hB h3 q).of g
  rw [if_neg k6, e2, Option.bind_some]
  exact (wJ5 hB h3 q2).of g
theorem wTl (hB : Tx B n) (h : RAt w m B n p 1) (k : Int32) : Wr m c B n p w (rTl m c (k, w)) := by
  have h2 : RAt (sC w 0 (1340 + c) k) m B n p 1 := h.sC hB.1 (by omega)
  have g : RFx m c w (sC w 0 (1340 + c) k) := (RFx.refl m c w).sC (.inr (.inl rfl)) k
  obtain ⟨q, e⟩ := l_letsW hB h2
  have h3 : Wr m c B n p w (rJ58 m c k q (mv (sC w 0 (1340 + c) k) 1 p)) := (wJ58 hB (h2.mv h.2.2.2.2.1 (by decide)) k q).of (g.mv 1 p)
  unfold rTl
  by_cases k0 : k = 0
  · rw [if_pos (show (k, w).1 = 0 from k0), e, Option.bind_some]; exact h3
  rw [if_neg (show ¬ (k, w).1 = 0 from k0)]
  by_cases k1 : k = 1
  · rw [if_pos (show (k, w).1 = 1 from k1), e, Option.bind_some]; exact h3
  rw [if_neg (show ¬ (k, w).1 = 1 from k1)]
  exact (wJ58 hB h2 k 0).of g
end WRS
