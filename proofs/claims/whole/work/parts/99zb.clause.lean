/-! readers: a clause in both worlds -/
def CFx (m c : Nat) (x x' : CW) : Prop := (∀ j, j ≠ 4 → j ≠ 6 → j ≠ 7 → j ≠ 8 → j ≠ 9 → x'.1 j = x.1 j) ∧ (∀ j i, j ≠ 4 → i ≠ c → x'.1 j i = x.1 j i) ∧ (∀ i, i ≠ m → x'.1 4 i = x.1 4 i) ∧ x'.2.1 = x.2.1 ∧ ∀ j, j ≠ 0 → x'.2.2 j = x.2.2 j
theorem CFx.refl (m c : Nat) (x : CW) : CFx m c x x := ⟨fun _ _ _ _ _ _ => rfl, fun _ _ _ _ => rfl, fun _ _ => rfl, rfl, fun _ _ => rfl⟩
theorem CFx.cm {m c : Nat} {x y : CW} (h : CFx m c x y) (p : Nat) : CFx m c x (cm y p) := by
  obtain ⟨h1, h2, h3, h4, h5⟩ := h
  refine ⟨h1, h2, h3, h4, fun j hj => ?_⟩
  rw [← h5 j hj]; exact cm_gn y p hj
theorem CFx.sC {m c : Nat} {x y : CW} (h : CFx m c x y) {k : Nat} (hk : k = 6 ∨ k = 7 ∨ k = 8 ∨ k = 9) (v : Int32) : CFx m c x (sC y k c v) := by
  obtain ⟨h1, h2, h3, h4, h5⟩ := h
  refine ⟨fun j a b d e f => ?_, fun j i a hi => ?_, fun i hi => ?_, h4, h5⟩
  · rw [sC_n _ _ _ (by omega)]; exact h1 j a b d e f
  · by_cases e : j = k
    · subst e; rw [sC_s, upd_n _ _ hi]; exact h2 j i a hi
    · rw [sC_n _ _ _ e]; exact h2 j i a hi
  · rw [sC_n _ _ _ (by omega)]; exact h3 i hi
theorem CFx_s4 {m c : Nat} {x y : CW} (h : CFx m c x y) (v : Int32) : CFx m c x (sC y 4 m v) := by
  obtain ⟨h1, h2, h3, h4, h5⟩ := h
  refine ⟨fun j a b d e f => ?_, fun j i a hi => ?_, fun i hi => ?_, h4, h5⟩
  · rw [sC_n _ _ _ a]; exact h1 j a b d e f
  · rw [sC_n _ _ _ a]; exact h2 j i a hi
  · rw [sC_s, upd_n _ _ hi]; exact h3 i hi
theorem sC_1 (y : CW) (i j : Nat) (v : Int32) : (sC y 0 i v).1 0 j = if j = i then v else y.1 0 j := by
  rw [sC_s]; rfl
theorem mv_1 (y : CW) (e p : Nat) : (mv y e p).1 = y.1 := rfl
theorem cm_1 (x : CW) (p : Nat) : (cm x p).1 = x.1 := rfl
/-- bits of feasts -/
def FeB (x x' y' : CW) (m c : Nat) : Prop := ∀ f, f < 2 ^ 30 → x.1 4 m = nI f → ∃ f', f' < 2 ^ 30 ∧ x'.1 4 m = nI f' ∧ ∀ d, d < 30 → (f'.testBit d = true ↔ f.testBit d = true ∨ (y'.1 0 (1340 + c) = nI 7 ∧ y'.1 0 (1500 + c) = nI d))
theorem FeB.no {x x' y' : CW} {m c k : Nat} (h4 : x'.1 4 = x.1 4) (hy : y'.1 0 (1340 + c) = nI k) (hk : k < 7) : FeB x x' y' m c := fun f hf h => ⟨f, hf, by rw [h4]; exact h, fun d hd => ⟨.inl, fun z => z.elim id fun z => by
  rw [hy] at z
  have := (nI_eq (by omega) (by omega)).mp z.1
  omega⟩⟩
def Cl (x y x' y' : CW) (m c k : Nat) (B : Nat → Int32) (n p' : Nat) (b : Nat) : Prop := CAt x' B n p' ∧ CFx m c x x' ∧ RFx m c y y' ∧ ((b = 1 ∧ RAt y' m B n p' 0 ∧ y'.1 0 (1330 + m) = nI (k + 1) ∧ cClause x'.1 (y'.1 0) c ∧ FeB x x' y' m c) ∨ (b = 0 ∧ RAt y' m B n p' 1))
theorem cl_wr {x y x' : CW} {m c k : Nat} {B : Nat → Int32} {n p' : Nat} {r : Option CW} (h : Wr m c B n p' y r) (h1 : CAt x' B n p') (h2 : CFx m c x x') : ∃ y' p', r = some y' ∧ Cl x y x' y' m c k B n p' 0 := by
  obtain ⟨y', e, e2, e3⟩ := h
  exact ⟨y', p', e, h1, h2, e2, .inr ⟨rfl, e3⟩⟩
theorem rJ1_e {m k p n : Nat} {B : Nat → Int32} {w : CW} (h : RAt w m B n p 0) (hk : w.1 0 (1330 + m) = nI k) : rJ1 m w = some (sC w 0 (1330 + m) (nI (k + 1))) := by
  unfold rJ1
  rw [h.2.2.1, hk, if_pos (show nI 0 = (0 : Int32) from rfl), nI_1]
section CL
variable {x y : CW} {B : Nat → Int32} {n p m k : Nat}
/-- a clause with a number: column, least, most -/
theorem cl_num {k0 : Nat} (hk0 : k0 < 3) (hB : Tx B n) (hC : CAt x B n p) (hR : RAt y m B n p 0) (hk : k < 8) (h30 : y.1 0 (1330 + m) = nI k) : ∃ b x' y' p', f_X10_readNumber (sC x 6 (8 * m + k) (nI k0)) (nI (8 * m + k)) = (nI b, x') ∧ rTl m (8 * m + k) (nI (k0 + 2), y) = some y' ∧ Cl x y x' y' m (8 * m + k) k B n p' b := by
  have hm := hR.2.2.2.1
  generalize hc : 8 * m + k = c at *
  have hC1 : CAt (sC x 6 c (nI k0)) B n p := hC.sC (by decide)
  have hR1 : RAt (sC (sC y 0 (1340 + c) (nI (k0 + 2))) 0 (1420 + c) 0) m B n p 0 := (hR.sC hB.1 (by omega)).sC hB.1 (by omega)
  have gR : RFx m c y (sC (sC y 0 (1340 + c) (nI (k0 + 2))) 0 (1420 + c) 0) := ((RFx.refl m c y).sC (.inr (.inl rfl)) _).sC (.inr (.inr (.inl rfl))) _
  have gC : CFx m c x (sC x 6 c (nI k0)) := (CFx.refl m c x).sC (.inl rfl) _
  have e1 : rTl m c (nI (k0 + 2), y) = Option.bind (f_X12_number (sC (sC y 0 (1340 + c) (nI (k0 + 2))) 0 (1420 + c) 0)) (rJ5 m c) := by
    have : k0 = 0 ∨ k0 = 1 ∨ k0 = 2 := by omega
    rcases this with rfl | rfl | rfl <;> rfl
  rcases l_num hB hC1 hR1 (i := c) (by omega) with ⟨N, p', hN, hp', a1, a2⟩ | ⟨a1, q, a2⟩
  · have hR2 : RAt (sC (mv (sC (sC y 0 (1340 + c) (nI (k0 + 2))) 0 (1420 + c) 0) 0 p') 0 (1500 + c) (nI N)) m B n p' 0 := (hR1.mv hp' (by decide)).sC hB.1 (by omega)
    have e3 : (sC (mv (sC (sC y 0 (1340 + c) (nI (k0 + 2))) 0 (1420 + c) 0) 0 p') 0 (1500 + c) (nI N)).1 0 (1330 + m) = nI k := by
      rw [sC_1, mv_1, sC_1, sC_1, if_neg (by omega), if_neg (by omega), if_neg (by omega)]; exact h30
    refine ⟨1, _, _, p', a1, ?_, (hC1.sC (by decide)).cm hp', (gC.sC (.inr (.inr (.inl rfl))) _).cm p', ((gR.mv 0 p').sC (.inr (.inr (.inr (.inl rfl)))) (nI N)).sC (.inl rfl) (nI (k + 1)), .inl ⟨rfl, hR2.sC hB.1 (by omega), by rw [sC_1, if_pos rfl], ?_, FeB.no (k := k0 + 2) ?_ ?_ (by omega)⟩⟩
    · rw [e1, a2, Option.bind_some]
      exact rJ1_e hR2 e3
    · refine ⟨k0, by omega, ?_, ?_, fun z => absurd z (by omega), fun _ => ⟨?_, N, hN, ?_⟩, fun z => absurd z (by omega), fun z => absurd z (by omega)⟩
      · rw [cm_1]; simp (disch := omega) only [sC_s, sC_n, sC_2, sN_1, sN_s, sN_n, sN_2, sS_1, sS_2, sS_s, sS_n, upd_s, upd_e, upd_n]
      · rw [sC_1, sC_1, mv_1, sC_1, sC_1, if_neg (by omega), if_neg (by omega), if_neg (by omega), if_pos rfl]
        congr 1; omega
      · rw [cm_1, sC_1, sC_1, if_neg (by omega), if_pos rfl]; simp (disch := omega) only [sC_s, sC_n, sC_2, sN_1, sN_s, sN_n, sN_2, sS_1, sS_2, sS_s, sS_n, upd_s, upd_e, upd_n]
      · rw [sC_1, sC_1, if_neg (by omega), if_pos rfl]
    · rw [cm_1]; simp (disch := omega) only [sC_s, sC_n, sC_2, sN_1, sN_s, sN_n, sN_2, sS_1, sS_2, sS_s, sS_n, upd_s, upd_e, upd_n]
    · rw [sC_1, sC_1, mv_1, sC_1, sC_1, if_neg (by omega), if_neg (by omega), if_neg (by omega), if_pos rfl]
  · have hw := (wJ5 (c := c) hB (hR1.mv hC.2.2.2 (show 1 ≤ 1 by decide)) q).of (gR.mv 1 p)
    obtain ⟨y', p', f1, f2⟩ := cl_wr (x := x) (k := k) hw hC1 gC
    exact ⟨0, _, y', p', a1, by rw [e1, a2, Option.bind_some]; exact f1, f2⟩
/-- a clause with a figure: break, wide -/
theorem cl_fig {k0 : Nat} (hk0 : k0 = 3 ∨ k0 = 4) (hB : Tx B n) (hC : CAt x B n p) (hR : RAt y m B n p 0) (hk : k < 8) (h30 : y.1 0 (1330 + m) = nI k) : ∃ b x' y' p', f_X10_readFigure (sC x 6 (8 * m + k) (nI k0)) (nI 0) 8 (nI (8 * m + k)) = (nI b, x') ∧ rTl m (8 * m + k) (nI (k0 + 2), y) = some y' ∧ Cl x y x' y' m (8 * m + k) k B n p' b := by
  have hm := hR.2.2.2.1
  generalize hc : 8 * m + k = c at *
  have hC1 : CAt (sC x 6 c (nI k0)) B n p := hC.sC (by decide)
  have hR1 : RAt (sC (sC y 0 (1340 + c) (nI (k0 + 2))) 0 (1420 + c) 0) m B n p 0 := (hR.sC hB.1 (by omega)).sC hB.1 (by omega)
  have gR : RFx m c y (sC (sC y 0 (1340 + c) (nI (k0 + 2))) 0 (1420 + c) 0) := ((RFx.refl m c y).sC (.inr (.inl rfl)) _).sC (.inr (.inr (.inl rfl))) _
  have gC : CFx m c x (sC x 6 c (nI k0)) := (CFx.refl m c x).sC (.inl rfl) _
  have e1 : rTl m c (nI (k0 + 2), y) = Option.bind (f_X12_figure (sC (sC y 0 (1340 + c) (nI (k0 + 2))) 0 (1420 + c) 0) (nI 0)) (rJ5 m c) := by
    rcases hk0 with rfl | rfl <;> rfl
  rcases l_fig (lo := 0) (k := 8) hB hC1 hR1 (by decide) ⟨.inl rfl, show c < 72 by omega⟩ with ⟨v, -, v9, hp, -, a1, a2⟩ | ⟨-, a1, q, a2⟩
  · have hR2 : RAt (sC (mv (sC (sC y 0 (1340 + c) (nI (k0 + 2))) 0 (1420 + c) 0) 0 (p + 1)) 0 (1500 + c) (nI v)) m B n (p + 1) 0 := (hR1.mv hp (by decide)).sC hB.1 (by omega)
    have e3 : (sC (mv (sC (sC y 0 (1340 + c) (nI (k0 + 2))) 0 (1420 + c) 0) 0 (p + 1)) 0 (1500 + c) (nI v)).1 0 (1330 + m) = nI k := by
      rw [sC_1, mv_1, sC_1, sC_1, if_neg (by omega), if_neg (by omega), if_neg (by omega)]; exact h30
    refine ⟨1, _, _, p + 1, a1, ?_, (hC1.sC (by decide)).cm hp, (gC.sC (.inr (.inr (.inl rfl))) _).cm (p + 1), ((gR.mv 0 (p + 1)).sC (.inr (.inr (.inr (.inl rfl)))) (nI v)).sC (.inl rfl) (nI (k + 1)), .inl ⟨rfl, hR2.sC hB.1 (by omega), by rw [sC_1, if_pos rfl], ?_, FeB.no (k := k0 + 2) ?_ ?_ (by omega)⟩⟩
    · rw [e1, a2, Option.bind_some]
      exact rJ1_e hR2 e3
    · refine ⟨k0, by omega, ?_, ?_, fun z => absurd z (by omega), fun _ => ⟨?_, v, by omega, ?_⟩, fun z => absurd z (by omega), fun _ => ⟨v, v9, ?_⟩⟩
      · rw [cm_1]; simp (disch := omega) only [sC_s, sC_n, sC_2, sN_1, sN_s, sN_n, sN_2, sS_1, sS_2, sS_s, sS_n, upd_s, upd_e, upd_n]
      · rw [sC_1, sC_1, mv_1, sC_1, sC_1, if_neg (by omega), if_neg (by omega), if_neg (by omega), if_pos rfl]
        congr 1; omega
      · rw [cm_1, sC_1, sC_1, if_neg (by omega), if_pos rfl]; simp (disch := omega) only [sC_s, sC_n, sC_2, sN_1, sN_s, sN_n, sN_2, sS_1, sS_2, sS_s, sS_n, upd_s, upd_e, upd_n]
      · rw [sC_1, sC_1, if_neg (by omega), if_pos rfl]
      · rw [sC_1, sC_1, if_neg (by omega), if_pos rfl]
    · rw [cm_1]; simp (disch := omega) only [sC_s, sC_n, sC_2, sN_1, sN_s, sN_n, sN_2, sS_1, sS_2, sS_s, sS_n, upd_s, upd_e, upd_n]
    · rw [sC_1, sC_1, mv_1, sC_1, sC_1, if_neg (by omega), if_neg (by omega), if_neg (by omega), if_pos rfl]
  · have hw := (wJ5 (c := c) hB (hR1.mv hC.2.2.2 (show 1 ≤ 1 by decide)) q).of (gR.mv 1 p)
    obtain ⟨y', p', f1, f2⟩ := cl_wr (x := x) (k := k) hw hC1 gC
    exact ⟨0, _, y', p', a1, by rw [e1, a2, Option.bind_some]; exact f1, f2⟩
/-- a feast -/
theorem cl_feast (hB : Tx B n) (hC : CAt x B n p) (hR : RAt y m B n p 0) (hk : k < 8) (h30 : y.1 0 (1330 + m) = nI k) (h4 : ∃ f, f < 2 ^ 30 ∧ x.1 4 m = nI f) : ∃ b x' y' p' r1, f_X10_readNumber (sC x 6 (8 * m + k) (nI 5)) (nI (8 * m + k)) = r1 ∧ ((r1.1 = 0 ∧ b = 0 ∧ x' = r1.2) ∨ (r1.1 ≠ 0 ∧ b = 1 ∧ f_X10_addFeast r1.2 (nI m) (rAt r1.2 8 (nI (8 * m + k))) = (1, x'))) ∧ rTl m (8 * m + k) (nI 7, y) = some y' ∧ Cl x y x' y' m (8 * m + k) k B n p' b := by
  have hm := hR.2.2.2.1
  generalize hc : 8 * m + k = c at *
  have hC1 : CAt (sC x 6 c (nI 5)) B n p := hC.sC (by decide)
  have hR1 : RAt (sC (sC y 0 (1340 + c) (nI 7)) 0 (1420 + c) 0) m B n p 0 := (hR.sC hB.1 (by omega)).sC hB.1 (by omega)
  have gR : RFx m c y (sC (sC y 0 (1340 + c) (nI 7)) 0 (1420 + c) 0) := ((RFx.refl m c y).sC (.inr (.inl rfl)) _).sC (.inr (.inr (.inl rfl))) _
  have gC : CFx m c x (sC x 6 c (nI 5)) := (CFx.refl m c x).sC (.inl rfl) _
  have e1 : rTl m c (nI 7, y) = Option.bind (f_X12_number (sC (sC y 0 (1340 + c) (nI 7)) 0 (1420 + c) 0)) (rJ5 m c) := rfl
  rcases l_num hB hC1 hR1 (i := c) (by omega) with ⟨N, p', hN, hp', a1, a2⟩ | ⟨a1, q, a2⟩
  · have hR2 : RAt (sC (mv (sC (sC y 0 (1340 + c) (nI 7)) 0 (1420 + c) 0) 0 p') 0 (1500 + c) (nI N)) m B n p' 0 := (hR1.mv hp' (by decide)).sC hB.1 (by omega)
    have e3 : (sC (mv (sC (sC y 0 (1340 + c) (nI 7)) 0 (1420 + c) 0) 0 p') 0 (1500 + c) (nI N)).1 0 (1330 + m) = nI k := by
      rw [sC_1, mv_1, sC_1, sC_1, if_neg (by omega), if_neg (by omega), if_neg (by omega)]; exact h30
    have e8 : rAt (cm (sC (sC x 6 c (nI 5)) 8 c (nI N)) p') 8 (nI c) = nI N := by
      rw [aT _ (by omega) (by rw [cp_8]; omega), cm_1]; simp (disch := omega) only [sC_s, sC_n, sC_2, sN_1, sN_s, sN_n, sN_2, sS_1, sS_2, sS_s, sS_n, upd_s, upd_e, upd_n]
    have y7 : (sC (sC (mv (sC (sC y 0 (1340 + c) (nI 7)) 0 (1420 + c) 0) 0 p') 0 (1500 + c) (nI N)) 0 (1330 + m) (nI (k + 1))).1 0 (1340 + c) = nI 7 := by
      rw [sC_1, sC_1, mv_1, sC_1, sC_1, if_neg (by omega), if_neg (by omega), if_neg (by omega), if_pos rfl]
    have yN : (sC (sC (mv (sC (sC y 0 (1340 + c) (nI 7)) 0 (1420 + c) 0) 0 p') 0 (1500 + c) (nI N)) 0 (1330 + m) (nI (k + 1))).1 0 (1500 + c) = nI N := by
      rw [sC_1, sC_1, if_neg (by omega), if_pos rfl]
    have cls : ∀ u : CW, u.1 6 = (cm (sC (sC x 6 c (nI 5)) 8 c (nI N)) p').1 6 → u.1 8 = (cm (sC (sC x 6 c (nI 5)) 8 c (nI N)) p').1 8 → cClause u.1 ((sC (sC (mv (sC (sC y 0 (1340 + c) (nI 7)) 0 (1420 + c) 0) 0 p') 0 (1500 + c) (nI N)) 0 (1330 + m) (nI (k + 1))).1 0) c := fun u u6 u8 => by
      refine ⟨5, by decide, ?_, y7, fun z => absurd z (by omega), fun _ => ⟨?_, N, hN, yN⟩, fun z => absurd z (by omega), fun z => absurd z (by omega)⟩
      · rw [u6, cm_1]; simp (disch := omega) only [sC_s, sC_n, sC_2, sN_1, sN_s, sN_n, sN_2, sS_1, sS_2, sS_s, sS_n, upd_s, upd_e, upd_n]
      · rw [u8, yN, cm_1]; simp (disch := omega) only [sC_s, sC_n, sC_2, sN_1, sN_s, sN_n, sN_2, sS_1, sS_2, sS_s, sS_n, upd_s, upd_e, upd_n]
    have gR2 := ((gR.mv 0 p').sC (.inr (.inr (.inr (.inl rfl)))) (nI N)).sC (.inl rfl) (nI (k + 1))
    have gC2 := (gC.sC (.inr (.inr (.inl rfl))) (nI N)).cm p'
    have hC2 : CAt (cm (sC (sC x 6 c (nI 5)) 8 c (nI N)) p') B n p' := (hC1.sC (by decide)).cm hp'
    have er : rTl m c (nI 7, y) = some (sC (sC (mv (sC (sC y 0 (1340 + c) (nI 7)) 0 (1420 + c) 0) 0 p') 0 (1500 + c) (nI N)) 0 (1330 + m) (nI (k + 1))) := by
      rw [e1, a2, Option.bind_some]
      exact rJ1_e hR2 e3
    have x4 : (cm (sC (sC x 6 c (nI 5)) 8 c (nI N)) p').1 4 = x.1 4 := by
      rw [cm_1]; simp (disch := omega) only [sC_s, sC_n, sC_2, sN_1, sN_s, sN_n, sN_2, sS_1, sS_2, sS_s, sS_n, upd_s, upd_e, upd_n]
    by_cases c30 : N < 30
    · obtain ⟨f, hf, hf4⟩ := h4
      refine ⟨1, sC (cm (sC (sC x 6 c (nI 5)) 8 c (nI N)) p') 4 m (nI (f ||| 2 ^ N)), _, p', _, a1, .inr ⟨by show nI 1 ≠ 0; decide, rfl, ?_⟩, er, hC2.sC (by decide), CFx_s4 gC2 _, gR2, .inl ⟨rfl, hR2.sC hB.1 (by omega), by rw [sC_1, if_pos rfl], cls _ (sC_n _ _ _ (by decide)) (sC_n _ _ _ (by decide)), fun g hg hg4 => ?_⟩⟩
      · have e4 : rAt (cm (sC (sC x 6 c (nI 5)) 8 c (nI N)) p') 4 (nI m) = nI f := by
          rw [aT _ (by omega) (by rw [cp_4]; omega), x4]; exact hf4
        have eo : nI f ||| ((1 : Int32) <<< (nI N &&& 31)) = nI (f ||| 2 ^ N) := or1 (by omega)
        unfold f_X10_addFeast
        show (if rAt (cm (sC (sC x 6 c (nI 5)) 8 c (nI N)) p') 8 (nI c) < 0 then _ else _) = _
        rw [e8, if_neg (nI_pos (by omega)), if_neg (show ¬ 30 ≤ nI N from of_eq_true (by simp (disch := omega) only [↓nmk_e, ↓reduceIte, Option.bind_some, Option.map_some, lit, ofN, nI_add, pk_sub, pk_mul, nI_clamp, nI_leI, nI_ltI, nI_eq, pk_div, nI_an, nleT, nleF, nltT, nltF, neqT, neqF, or_false, false_or, or_self, or_true, true_or, and_self, and_true, true_and, and_false, false_and, not_true_eq_false, not_false_eq_true])), e4, eo, pT _ (by omega) (by rw [cp_4]; omega)]
        rfl
      · have : g = f := (nI_eq (by omega) (by omega)).mp (hg4.symm.trans hf4)
        subst this
        refine ⟨g ||| 2 ^ N, Nat.or_lt_two_pow hg (Nat.pow_lt_pow_right (by decide) c30), by rw [sC_s, upd_s], fun d hd => ?_⟩
        rw [or_bit, y7, yN, Bool.or_eq_true, decide_eq_true_eq]
        refine or_congr Iff.rfl ⟨fun z => ⟨rfl, by rw [z]⟩, fun z => (nI_eq (by omega) (by omega)).mp z.2⟩
    · refine ⟨1, cm (sC (sC x 6 c (nI 5)) 8 c (nI N)) p', _, p', _, a1, .inr ⟨by show nI 1 ≠ 0; decide, rfl, ?_⟩, er, hC2, gC2, gR2, .inl ⟨rfl, hR2.sC hB.1 (by omega), by rw [sC_1, if_pos rfl], cls _ rfl rfl, fun g hg hg4 => ⟨g, hg, by rw [x4]; exact hg4, fun d hd => ⟨.inl, fun z => z.elim id fun z => ?_⟩⟩⟩⟩
      · unfold f_X10_addFeast
        show (if rAt (cm (sC (sC x 6 c (nI 5)) 8 c (nI N)) p') 8 (nI c) < 0 then _ else _) = _
        rw [e8, if_neg (nI_pos (by omega)), if_pos (show 30 ≤ nI N from of_eq_true (by simp (disch := omega) only [↓nmk_e, ↓reduceIte, Option.bind_some, Option.map_some, lit, ofN, nI_add, pk_sub, pk_mul, nI_clamp, nI_leI, nI_ltI, nI_eq, pk_div, nI_an, nleT, nleF, nltT, nltF, neqT, neqF, or_false, false_or, or_self, or_true, true_or, and_self, and_true, true_and, and_false, false_and, not_true_eq_false, not_false_eq_true]))]
      · rw [yN] at z
        have := (nI_eq (by omega) (by omega)).mp z.2
        omega
  · have hw := (wJ5 (c := c) hB (hR1.mv hC.2.2.2 (show 1 ≤ 1 by decide)) q).of (gR.mv 1 p)
    obtain ⟨y', p', f1, f2⟩ := cl_wr (x := x) (k := k) hw hC1 gC
    exact ⟨0, _, y', p', _, a1, .inl ⟨rfl, rfl, rfl⟩, by rw [e1, a2, Option.bind_some]; exact f1, f2⟩
/-- a bar -/
theorem cl_bar (hB : Tx B n) (hC : CAt x B n p) (hR : RAt y m B n p 0) (hk : k < 8) (h30 : y.1 0 (1330 + m) = nI k) : ∃ b x' y' p', f_X10_readLetters (sC x 6 (8 * m + k) (nI 7)) (nI (8 * m + k)) = some (nI b, x') ∧ rTl m (8 * m + k) (nI 1, y) = some y' ∧ Cl x y x' y' m (8 * m + k) k B n p' b := by
  have hm := hR.2.2.2.1
  generalize hc : 8 * m + k = c at *
  have hC1 : CAt (sC x 6 c (nI 7)) B n p := hC.sC (by decide)
  have hR1 : RAt (sC y 0 (1340 + c) (nI 1)) m B n p 0 := hR.sC hB.1 (by omega)
  have gR : RFx m c y (sC y 0 (1340 + c) (nI 1)) := (RFx.refl m c y).sC (.inr (.inl rfl)) _
  have gC : CFx m c x (sC x 6 c (nI 7)) := (CFx.refl m c x).sC (.inl rfl) _
  have e1 : rTl m c (nI 1, y) = Option.bind (f_X12_letters (sC y 0 (1340 + c) (nI 1))) (fun r => rJ58 m c (nI 1) r.1 r.2) := rfl
  rcases l_lets hB hC1 hR1 (i := c) (by omega) with ⟨a, b, d, p', ha, hb, hd, hp', a1, a2⟩ | ⟨p', hp', a1, q, a2⟩
  · have hR2 : RAt (sC (mv (sC y 0 (1340 + c) (nI 1)) 0 p') 0 (1420 + c) (nI (10000 * a + 100 * b + d))) m B n p' 0 := (hR1.mv hp' (by decide)).sC hB.1 (by omega)
    have e3 : (sC (mv (sC y 0 (1340 + c) (nI 1)) 0 p') 0 (1420 + c) (nI (10000 * a + 100 * b + d))).1 0 (1330 + m) = nI k := by
      rw [sC_1, mv_1, sC_1, if_neg (by omega), if_neg (by omega)]; exact h30
    refine ⟨1, _, _, p', a1, ?_, (hC1.sC (by decide)).cm hp', (gC.sC (.inr (.inl rfl)) _).cm p', ((gR.mv 0 p').sC (.inr (.inr (.inl rfl))) (nI (10000 * a + 100 * b + d))).sC (.inl rfl) (nI (k + 1)), .inl ⟨rfl, hR2.sC hB.1 (by omega), by rw [sC_1, if_pos rfl], ?_, FeB.no (k := 1) ?_ ?_ (by omega)⟩⟩
    · rw [e1, a2, Option.bind_some]
      exact rJ1_e hR2 e3
    · refine ⟨7, by omega, ?_, ?_, fun _ => ⟨?_, a, b, d, ha, hb, hd, ?_⟩, fun z => absurd rfl z, fun z => absurd z (by omega), fun z => absurd z (by omega)⟩
      · rw [cm_1]; simp (disch := omega) only [sC_s, sC_n, sC_2, sN_1, sN_s, sN_n, sN_2, sS_1, sS_2, sS_s, sS_n, upd_s, upd_e, upd_n]
      · rw [sC_1, sC_1, mv_1, sC_1, if_neg (by omega), if_neg (by omega), if_pos rfl]
      · rw [cm_1, sC_1, sC_1, if_neg (by omega), if_pos rfl]; simp (disch := omega) only [sC_s, sC_n, sC_2, sN_1, sN_s, sN_n, sN_2, sS_1, sS_2, sS_s, sS_n, upd_s, upd_e, upd_n]
      · rw [sC_1, sC_1, if_neg (by omega), if_pos rfl]
    · rw [cm_1]; simp (disch := omega) only [sC_s, sC_n, sC_2, sN_1, sN_s, sN_n, sN_2, sS_1, sS_2, sS_s, sS_n, upd_s, upd_e, upd_n]
    · rw [sC_1, sC_1, mv_1, sC_1, if_neg (by omega), if_neg (by omega), if_pos rfl]
  · have hw := (wJ58 (c := c) hB (hR1.mv hp' (show 1 ≤ 1 by decide)) (nI 1) q).of (gR.mv 1 p')
    obtain ⟨y', p2, f1, f2⟩ := cl_wr (x := x) (k := k) hw (hC1.cm hp') (gC.cm p')
    exact ⟨0, _, y', p2, a1, by rw [e1, a2, Option.bind_some]; exact f1, f2⟩
end CL
