/-! readers: a form; a whole clause -/
def cG5 (q : Int32 × CW) : Option (Int32 × CW) := some ((if q.1 = 0 then 0 else 1), q.2)
def cG4 (c : Nat) (q : Int32 × CW) : Option (Int32 × CW) := if q.1 = 0 then some (0, q.2) else cG5 (f_X10_readFigure q.2 0 9 (nI c))
def cG3 (c : Nat) (q : Int32 × CW) : Option (Int32 × CW) := if q.1 = 0 then some (0, q.2) else cG4 c (f_X10_readBlank q.2)
def cG2 (c : Nat) (q : Int32 × CW) : Option (Int32 × CW) := if q.1 = 0 then some (0, q.2) else cG3 c (f_X10_readFigure q.2 1 8 (nI c))
def cG1 (c : Nat) (q : Int32 × CW) : Option (Int32 × CW) := if q.1 = 0 then some (0, q.2) else cG2 c (f_X10_readBlank q.2)
theorem cl_form {x y : CW} {B : Nat → Int32} {n p m k : Nat} (hB : Tx B n) (hC : CAt x B n p) (hR : RAt y m B n p 0) (hk : k < 8) (h30 : y.1 0 (1330 + m) = nI k) : ∃ b x' y' p', Option.bind (f_X10_readLetters (sC x 6 (8 * m + k) (nI 6)) (nI (8 * m + k))) (cG1 (8 * m + k)) = some (nI b, x') ∧ rTl m (8 * m + k) (nI 0, y) = some y' ∧ Cl x y x' y' m (8 * m + k) k B n p' b := by
  have hm := hR.2.2.2.1
  generalize hc : 8 * m + k = c at *
  have n1 : ¬ nI 1 = (0 : Int32) := by decide
  have hC1 : CAt (sC x 6 c (nI 6)) B n p := hC.sC (by decide)
  have hR1 : RAt (sC y 0 (1340 + c) (nI 0)) m B n p 0 := hR.sC hB.1 (by omega)
  have gR : RFx m c y (sC y 0 (1340 + c) (nI 0)) := (RFx.refl m c y).sC (.inr (.inl rfl)) _
  have gC : CFx m c x (sC x 6 c (nI 6)) := (CFx.refl m c x).sC (.inl rfl) _
  have e1 : rTl m c (nI 0, y) = Option.bind (f_X12_letters (sC y 0 (1340 + c) (nI 0))) (fun r => rJ58 m c (nI 0) r.1 r.2) := rfl
  rcases l_lets hB hC1 hR1 (i := c) (by omega) with ⟨a, b, d, p1, ha, hb, hd, hp1, a1, a2⟩ | ⟨p1, hp1, a1, q, a2⟩
  rotate_left
  · have hw := (wJ58 (c := c) hB (hR1.mv hp1 (show 1 ≤ 1 by decide)) (nI 0) q).of (gR.mv 1 p1)
    obtain ⟨y', p2, f1, f2⟩ := cl_wr (x := x) (k := k) hw (hC1.cm hp1) (gC.cm p1)
    refine ⟨0, _, y', p2, ?_, by rw [e1, a2, Option.bind_some]; exact f1, f2⟩
    rw [a1, Option.bind_some]; rfl
  have e2 : rTl m c (nI 0, y) = Option.bind (f_X12_must (sC (mv (sC y 0 (1340 + c) (nI 0)) 0 p1) 0 (1420 + c) (nI (10000 * a + 100 * b + d))) (nI 32)) (rF2 m c) := by
    rw [e1, a2, Option.bind_some]; rfl
  obtain ⟨x2, hx2⟩ : ∃ z, z = cm (sC (sC x 6 c (nI 6)) 7 c (nI (10000 * a + 100 * b + d))) p1 := ⟨_, rfl⟩
  obtain ⟨w1, hw1⟩ : ∃ z, z = sC (mv (sC y 0 (1340 + c) (nI 0)) 0 p1) 0 (1420 + c) (nI (10000 * a + 100 * b + d)) := ⟨_, rfl⟩
  rw [← hx2] at a1
  rw [← hw1] at e2
  have hC2 : CAt x2 B n p1 := by rw [hx2]; exact (hC1.sC (by decide)).cm hp1
  have hR2 : RAt w1 m B n p1 0 := by rw [hw1]; exact (hR1.mv hp1 (by decide)).sC hB.1 (by omega)
  have gC2 : CFx m c x x2 := by rw [hx2]; exact (gC.sC (.inr (.inl rfl)) _).cm p1
  have gR2 : RFx m c y w1 := by rw [hw1]; exact (gR.mv 0 p1).sC (.inr (.inr (.inl rfl))) _
  have u6 : x2.1 6 c = nI 6 := by rw [hx2, cm_1]; simp (disch := omega) only [sC_s, sC_n, sC_2, sN_1, sN_s, sN_n, sN_2, sS_1, sS_2, sS_s, sS_n, upd_s, upd_e, upd_n]
  have u7 : x2.1 7 c = nI (10000 * a + 100 * b + d) := by rw [hx2, cm_1]; simp (disch := omega) only [sC_s, sC_n, sC_2, sN_1, sN_s, sN_n, sN_2, sS_1, sS_2, sS_s, sS_n, upd_s, upd_e, upd_n]
  have u4 : x2.1 4 = x.1 4 := by rw [hx2, cm_1]; simp (disch := omega) only [sC_s, sC_n, sC_2, sN_1, sN_s, sN_n, sN_2, sS_1, sS_2, sS_s, sS_n, upd_s, upd_e, upd_n]
  have v30 : w1.1 0 (1330 + m) = nI k := by rw [hw1, sC_1, mv_1, sC_1, if_neg (by omega), if_neg (by omega)]; exact h30
  have v40 : w1.1 0 (1340 + c) = nI 0 := by rw [hw1, sC_1, mv_1, sC_1, if_neg (by omega), if_pos rfl]
  have v20 : w1.1 0 (1420 + c) = nI (10000 * a + 100 * b + d) := by rw [hw1, sC_1, if_pos rfl]
  clear hx2 hw1
  rw [a1, Option.bind_some, e2]
  clear a1 e2
  unfold cG1
  rw [if_neg (show ¬ nI 1 = (0 : Int32) from n1)]
  rcases l_blank hB hC2 hR2 with ⟨h2, b1, b2⟩ | ⟨b1, b2⟩
  rotate_left
  · have hw := (wF2 (c := c) hB (hR2.mv hp1 (show 1 ≤ 1 by decide))).of (gR2.mv 1 p1)
    obtain ⟨y', p2, f1, f2⟩ := cl_wr (x := x) (k := k) hw hC2 gC2
    exact ⟨0, _, y', p2, by rw [b1]; rfl, by rw [b2, Option.bind_some]; exact f1, f2⟩
  have hC3 : CAt (cm x2 (p1 + 1)) B n (p1 + 1) := hC2.cm h2
  have hR3 : RAt (mv w1 0 (p1 + 1)) m B n (p1 + 1) 0 := hR2.mv h2 (by decide)
  rw [b1, b2, Option.bind_some]
  unfold cG2 rF2
  rw [if_neg (show ¬ nI 1 = (0 : Int32) from n1)]
  rcases l_fig (lo := 1) (k := 8) hB hC3 hR3 (by decide) ⟨.inl rfl, show c < 72 by omega⟩ with ⟨v, v1, v9, h3, -, d1, d2⟩ | ⟨-, d1, q, d2⟩
  rotate_left
  · have hw := (wF3 (c := c) hB (hR3.mv h2 (show 1 ≤ 1 by decide)) q).of ((gR2.mv 0 (p1 + 1)).mv 1 (p1 + 1))
    obtain ⟨y', p2, f1, f2⟩ := cl_wr (x := x) (k := k) hw hC3 (gC2.cm (p1 + 1))
    refine ⟨0, _, y', p2, ?_, ?_, f2⟩
    · rw [show (1 : Int32) = nI 1 from rfl, d1]; rfl
    · rw [show (1 : Int32) = nI 1 from rfl, d2, Option.bind_some]; exact f1
  rw [show f_X10_readFigure (cm x2 (p1 + 1)) 1 8 (nI c) = _ from d1, show f_X12_figure (mv w1 0 (p1 + 1)) 1 = _ from d2, Option.bind_some]
  obtain ⟨x4, hx4⟩ : ∃ z, z = cm (sC (cm x2 (p1 + 1)) 8 c (nI v)) (p1 + 1 + 1) := ⟨_, rfl⟩
  obtain ⟨w3, hw3⟩ : ∃ z, z = sC (mv (mv w1 0 (p1 + 1)) 0 (p1 + 1 + 1)) 0 (1500 + c) (nI v) := ⟨_, rfl⟩
  have e3 : rF3 m c (nI v, mv (mv w1 0 (p1 + 1)) 0 (p1 + 1 + 1)) = Option.bind (f_X12_must w3 (nI 32)) (rF4 m c) := by rw [hw3]; rfl
  rw [← hx4, e3]
  clear e3 d1 d2
  have hC4 : CAt x4 B n (p1 + 2) := by rw [hx4]; exact (hC3.sC (by decide)).cm h3
  have hR4 : RAt w3 m B n (p1 + 2) 0 := by rw [hw3]; exact (hR3.mv h3 (by decide)).sC hB.1 (by omega)
  have gC4 : CFx m c x x4 := by rw [hx4]; exact ((gC2.cm _).sC (.inr (.inr (.inl rfl))) _).cm _
  have gR4 : RFx m c y w3 := by rw [hw3]; exact ((gR2.mv 0 _).mv 0 _).sC (.inr (.inr (.inr (.inl rfl)))) _
  have u6 : x4.1 6 c = nI 6 := by rw [hx4, cm_1, sC_n _ _ _ (by decide), cm_1]; exact u6
  have u7 : x4.1 7 c = nI (10000 * a + 100 * b + d) := by rw [hx4, cm_1, sC_n _ _ _ (by decide), cm_1]; exact u7
  have u4 : x4.1 4 = x.1 4 := by rw [hx4, cm_1, sC_n _ _ _ (by decide), cm_1]; exact u4
  have u8 : x4.1 8 c = nI v := by rw [hx4, cm_1, sC_s, upd_s]
  have v30 : w3.1 0 (1330 + m) = nI k := by rw [hw3, sC_1, mv_1, mv_1, if_neg (by omega)]; exact v30
  have v40 : w3.1 0 (1340 + c) = nI 0 := by rw [hw3, sC_1, mv_1, mv_1, if_neg (by omega)]; exact v40
  have v20 : w3.1 0 (1420 + c) = nI (10000 * a + 100 * b + d) := by rw [hw3, sC_1, mv_1, mv_1, if_neg (by omega)]; exact v20
  have v50 : w3.1 0 (1500 + c) = nI v := by rw [hw3, sC_1, if_pos rfl]
  clear hx4 hw3
  unfold cG3
  rw [if_neg (show ¬ nI 1 = (0 : Int32) from n1)]
  have h3 : p1 + 2 ≤ n := h3
  rcases l_blank hB hC4 hR4 with ⟨h4, b1, b2⟩ | ⟨b1, b2⟩
  rotate_left
  · have hw := (wF4 (c := c) hB (hR4.mv h3 (show 1 ≤ 1 by decide))).of (gR4.mv 1 (p1 + 2))
    obtain ⟨y', p2, f1, f2⟩ := cl_wr (x := x) (k := k) hw hC4 gC4
    exact ⟨0, _, y', p2, by rw [b1]; rfl, by rw [b2, Option.bind_some]; exact f1, f2⟩
  have hC5 : CAt (cm x4 (p1 + 2 + 1)) B n (p1 + 2 + 1) := hC4.cm h4
  have hR5 : RAt (mv w3 0 (p1 + 2 + 1)) m B n (p1 + 2 + 1) 0 := hR4.mv h4 (by decide)
  rw [b1, b2, Option.bind_some]
  unfold cG4 rF4
  rw [if_neg (show ¬ nI 1 = (0 : Int32) from n1)]
  rcases l_fig (lo := 0) (k := 9) hB hC5 hR5 (by decide) ⟨.inr rfl, show c < 72 by omega⟩ with ⟨u, -, u9, h5, -, d1, d2⟩ | ⟨-, d1, q, d2⟩
  rotate_left
  · have hw := (wF5 (c := c) hB (hR5.mv h4 (show 1 ≤ 1 by decide)) q).of ((gR4.mv 0 (p1 + 2 + 1)).mv 1 (p1 + 2 + 1))
    obtain ⟨y', p2, f1, f2⟩ := cl_wr (x := x) (k := k) hw hC5 (gC4.cm (p1 + 2 + 1))
    refine ⟨0, _, y', p2, ?_, ?_, f2⟩
    · rw [show (0 : Int32) = nI 0 from rfl, d1]; rfl
    · rw [show (0 : Int32) = nI 0 from rfl, d2, Option.bind_some]; exact f1
  rw [show f_X10_readFigure (cm x4 (p1 + 2 + 1)) 0 9 (nI c) = _ from d1, show f_X12_figure (mv w3 0 (p1 + 2 + 1)) 0 = _ from d2, Option.bind_some]
  have hR6 : RAt (sC (mv (mv w3 0 (p1 + 2 + 1)) 0 (p1 + 2 + 1 + 1)) 0 (1580 + c) (nI u)) m B n (p1 + 2 + 1 + 1) 0 := (hR5.mv h5 (by decide)).sC hB.1 (by omega)
  have v30' : (sC (mv (mv w3 0 (p1 + 2 + 1)) 0 (p1 + 2 + 1 + 1)) 0 (1580 + c) (nI u)).1 0 (1330 + m) = nI k := by rw [sC_1, mv_1, mv_1, if_neg (by omega)]; exact v30
  refine ⟨1, _, _, p1 + 2 + 1 + 1, ?_, rJ1_e hR6 v30', (hC5.sC (by decide)).cm h5, ((gC4.cm _).sC (.inr (.inr (.inr rfl))) (nI u)).cm _, (((gR4.mv 0 _).mv 0 _).sC (.inr (.inr (.inr (.inr rfl)))) _).sC (.inl rfl) _, .inl ⟨rfl, hR6.sC hB.1 (by omega), by rw [sC_1, if_pos rfl], ?_, FeB.no (k := 0) ?_ ?_ (by omega)⟩⟩
  · unfold cG5
    rw [if_neg (show ¬ nI 1 = (0 : Int32) from n1)]
    rfl
  · refine ⟨6, by decide, ?_, ?_, fun _ => ⟨?_, a, b, d, ha, hb, hd, ?_⟩, fun _ => ⟨?_, v, by omega, ?_⟩, fun _ => ⟨⟨v, v1, v9, ?_⟩, ?_, u, u9, ?_⟩, fun z => absurd z (by omega)⟩
    · rw [cm_1, sC_n _ _ _ (by decide), cm_1]; exact u6
    · rw [sC_1, sC_1, mv_1, mv_1, if_neg (by omega), if_neg (by omega)]; exact v40
    · rw [cm_1, sC_n _ _ _ (by decide), cm_1, u7, sC_1, sC_1, mv_1, mv_1, if_neg (by omega), if_neg (by omega), v20]
    · rw [sC_1, sC_1, mv_1, mv_1, if_neg (by omega), if_neg (by omega)]; exact v20
    · rw [cm_1, sC_n _ _ _ (by decide), cm_1, u8, sC_1, sC_1, mv_1, mv_1, if_neg (by omega), if_neg (by omega), v50]
    · rw [sC_1, sC_1, mv_1, mv_1, if_neg (by omega), if_neg (by omega)]; exact v50
    · rw [sC_1, sC_1, mv_1, mv_1, if_neg (by omega), if_neg (by omega)]; exact v50
    · rw [cm_1, sC_s, upd_s, sC_1, sC_1, if_neg (by omega), if_pos rfl]
    · rw [sC_1, sC_1, if_neg (by omega), if_pos rfl]
  · rw [cm_1, sC_n _ _ _ (by decide), cm_1]; exact u4
  · rw [sC_1, sC_1, mv_1, mv_1, if_neg (by omega), if_neg (by omega)]; exact v40
theorem Cl.of {x y x' y' : CW} {m c k n p' b q r : Nat} {B : Nat → Int32} (h : Cl (cm x q) (mv y 0 r) x' y' m c k B n p' b) : Cl x y x' y' m c k B n p' b := by
  obtain ⟨h1, ⟨a1, a2, a3, a4, a5⟩, h3, h4⟩ := h
  exact ⟨h1, ⟨a1, a2, a3, a4, fun j hj => (a5 j hj).trans (cm_gn x q hj)⟩, ((RFx.refl m c y).mv 0 r).trans h3, h4⟩
/-- a clause -/
theorem l_clause {x y : CW} {B : Nat → Int32} {n p m k : Nat} (hB : Tx B n) (hC : CAt x B n p) (hR : RAt y m B n p 0) (hk : k < 8) (h30 : y.1 0 (1330 + m) = nI k) (h4 : ∃ f, f < 2 ^ 30 ∧ x.1 4 m = nI f) : ∃ b x' y' p', f_X10_readClause x (nI m) (nI (8 * m + k)) = some (nI b, x') ∧ f_X12_reads y (nI m) = some y' ∧ Cl x y x' y' m (8 * m + k) k B n p' b := by
  have hm := hR.2.2.2.1
  obtain ⟨ck, hck, g1, g2⟩ := l_wordR hB hR
  rw [reads_e hm hk h30]
  rcases l_joinW (m := m) hB hC hck g1 g2 with ⟨k0, p1, hk0, hp1, e1, e2, e3⟩ | ⟨p1, hp1, e1, q, hq, e3⟩
  · have hC1 : CAt (cm x (p1 + 1)) B n (p1 + 1) := hC.cm hp1
    have hR1 : RAt (mv y 0 (p1 + 1)) m B n (p1 + 1) 0 := hR.mv hp1 (by decide)
    rw [e3, Option.bind_some]
    have h4' : ∃ f, f < 2 ^ 30 ∧ (cm x (p1 + 1)).1 4 m = nI f := h4
    have h30' : (mv y 0 (p1 + 1)).1 0 (1330 + m) = nI k := h30
    have : k0 < 3 ∨ k0 = 3 ∨ k0 = 4 ∨ k0 = 5 ∨ k0 = 6 ∨ k0 = 7 := by omega
    rcases this with c3 | rfl | rfl | rfl | rfl | rfl
    · obtain ⟨b, x', y', p', a1, a2, a3⟩ := cl_num c3 hB hC1 hR1 hk h30'
      refine ⟨b, x', y', p', ?_, ?_, a3.of⟩
      · have hx : ∀ j, 3 ≤ j → j < 8 → ¬ nI k0 = nI j := fun j j1 j2 z => by
          have := (nI_eq (by omega) (by omega)).mp z; omega
        unfold f_X10_readClause
        rw [e1, Option.bind_some, if_neg (show ¬ (nI k0, cm x p1).1 < 0 from nI_pos (by omega)), nmk_e, show f_X10_readBlank (nI k0, cm x p1).2 = _ from e2, if_neg (show ¬ (nI 1, cm x (p1 + 1)).1 = (0 : Int32) from (by decide : ¬ nI 1 = (0 : Int32))), nmk_e, show rPut (nI 1, cm x (p1 + 1)).2 6 (nI (8 * m + k)) (nI k0, cm x p1).1 = _ from pT _ (by omega) (by rw [cp_6]; omega) _]
        dsimp only
        rw [if_neg (show ¬ nI k0 = (3 : Int32) from hx 3 (by decide) (by decide)), if_neg (show ¬ nI k0 = (4 : Int32) from hx 4 (by decide) (by decide)), if_neg (show ¬ nI k0 = (5 : Int32) from hx 5 (by decide) (by decide)), if_neg (show ¬ nI k0 = (6 : Int32) from hx 6 (by decide) (by decide)), if_neg (show ¬ nI k0 = (7 : Int32) from hx 7 (by decide) (by decide)), a1]
        rfl
      · rw [show (k0 + 2) % 8 = k0 + 2 by omega]; exact a2
    · obtain ⟨b, x', y', p', a1, a2, a3⟩ := cl_fig (.inl rfl) hB hC1 hR1 hk h30'
      refine ⟨b, x', y', p', ?_, a2, a3.of⟩
      unfold f_X10_readClause
      rw [e1, Option.bind_some, if_neg (show ¬ (nI 3, cm x p1).1 < 0 from nI_pos (by omega)), nmk_e, show f_X10_readBlank (nI 3, cm x p1).2 = _ from e2, if_neg (show ¬ (nI 1, cm x (p1 + 1)).1 = (0 : Int32) from (by decide : ¬ nI 1 = (0 : Int32))), nmk_e, show rPut (nI 1, cm x (p1 + 1)).2 6 (nI (8 * m + k)) (nI 3, cm x p1).1 = _ from pT _ (by omega) (by rw [cp_6]; omega) _]
      dsimp only
      rw [if_pos (show nI 3 = (3 : Int32) from rfl), show f_X10_readFigure (sC (cm x (p1 + 1)) 6 (8 * m + k) (nI 3)) 0 8 (nI (8 * m + k)) = _ from a1]; rfl
    · obtain ⟨b, x', y', p', a1, a2, a3⟩ := cl_fig (.inr rfl) hB hC1 hR1 hk h30'
      refine ⟨b, x', y', p', ?_, a2, a3.of⟩
      unfold f_X10_readClause
      rw [e1, Option.bind_some, if_neg (show ¬ (nI 4, cm x p1).1 < 0 from nI_pos (by omega)), nmk_e, show f_X10_readBlank (nI 4, cm x p1).2 = _ from e2, if_neg (show ¬ (nI 1, cm x (p1 + 1)).1 = (0 : Int32) from (by decide : ¬ nI 1 = (0 : Int32))), nmk_e, show rPut (nI 1, cm x (p1 + 1)).2 6 (nI (8 * m + k)) (nI 4, cm x p1).1 = _ from pT _ (by omega) (by rw [cp_6]; omega) _]
      dsimp only
      rw [if_neg (show ¬ nI 4 = (3 : Int32) by decide), if_pos (show nI 4 = (4 : Int32) from rfl), show f_X10_readFigure (sC (cm x (p1 + 1)) 6 (8 * m + k) (nI 4)) 0 8 (nI (8 * m + k)) = _ from a1]; rfl
    · obtain ⟨b, x', y', p', r1, a1, a0, a2, a3⟩ := cl_feast hB hC1 hR1 hk h30' h4'
      refine ⟨b, x', y', p', ?_, a2, a3.of⟩
      unfold f_X10_readClause
      rw [e1, Option.bind_some, if_neg (show ¬ (nI 5, cm x p1).1 < 0 from nI_pos (by omega)), nmk_e, show f_X10_readBlank (nI 5, cm x p1).2 = _ from e2, if_neg (show ¬ (nI 1, cm x (p1 + 1)).1 = (0 : Int32) from (by decide : ¬ nI 1 = (0 : Int32))), nmk_e, show rPut (nI 1, cm x (p1 + 1)).2 6 (nI (8 * m + k)) (nI 5, cm x p1).1 = _ from pT _ (by omega) (by rw [cp_6]; omega) _]
      dsimp only
      rw [if_neg (show ¬ nI 5 = (3 : Int32) by decide), if_neg (show ¬ nI 5 = (4 : Int32) by decide), if_pos (show nI 5 = (5 : Int32) from rfl), a1, nmk_e]
      rcases a0 with ⟨a4, rfl, rfl⟩ | ⟨a4, rfl, a5⟩
      · rw [if_pos a4]; rfl
      · rw [if_neg a4, a5]; rfl
    · obtain ⟨b, x', y', p', a1, a2, a3⟩ := cl_form hB hC1 hR1 hk h30'
      refine ⟨b, x', y', p', ?_, a2, a3.of⟩
      unfold f_X10_readClause
      rw [e1, Option.bind_some, if_neg (show ¬ (nI 6, cm x p1).1 < 0 from nI_pos (by omega)), nmk_e, show f_X10_readBlank (nI 6, cm x p1).2 = _ from e2, if_neg (show ¬ (nI 1, cm x (p1 + 1)).1 = (0 : Int32) from (by decide : ¬ nI 1 = (0 : Int32))), nmk_e, show rPut (nI 1, cm x (p1 + 1)).2 6 (nI (8 * m + k)) (nI 6, cm x p1).1 = _ from pT _ (by omega) (by rw [cp_6]; omega) _]
      dsimp only
      rw [if_neg (show ¬ nI 6 = (3 : Int32) by decide), if_neg (show ¬ nI 6 = (4 : Int32) by decide), if_neg (show ¬ nI 6 = (5 : Int32) by decide), if_pos (show nI 6 = (6 : Int32) from rfl)]
      refine Eq.trans (congrArg _ (funext fun q66 => ?_)) a1
      unfold cG1
      by_cases h1 : q66.1 = 0
      · rw [if_pos h1, if_pos h1]
      rw [if_neg h1, if_neg h1, nmk_e]
      unfold cG2
      generalize f_X10_readBlank q66.2 = q73
      by_cases h2 : q73.1 = 0
      · rw [if_pos h2, if_pos h2]
      rw [if_neg h2, if_neg h2, nmk_e]
      unfold cG3
      generalize f_X10_readFigure q73.2 1 8 (nI (8 * m + k)) = q86
      by_cases h3 : q86.1 = 0
      · rw [if_pos h3, if_pos h3]
      rw [if_neg h3, if_neg h3, nmk_e]
      unfold cG4
      generalize f_X10_readBlank q86.2 = q93
      by_cases h4 : q93.1 = 0
      · rw [if_pos h4, if_pos h4]
      rw [if_neg h4, if_neg h4, nmk_e]
      rfl
    · obtain ⟨b, x', y', p', a1, a2, a3⟩ := cl_bar hB hC1 hR1 hk h30'
      refine ⟨b, x', y', p', ?_, a2, a3.of⟩
      unfold f_X10_readClause
      rw [e1, Option.bind_some, if_neg (show ¬ (nI 7, cm x p1).1 < 0 from nI_pos (by omega)), nmk_e, show f_X10_readBlank (nI 7, cm x p1).2 = _ from e2, if_neg (show ¬ (nI 1, cm x (p1 + 1)).1 = (0 : Int32) from (by decide : ¬ nI 1 = (0 : Int32))), nmk_e, show rPut (nI 1, cm x (p1 + 1)).2 6 (nI (8 * m + k)) (nI 7, cm x p1).1 = _ from pT _ (by omega) (by rw [cp_6]; omega) _]
      dsimp only
      rw [if_neg (show ¬ nI 7 = (3 : Int32) by decide), if_neg (show ¬ nI 7 = (4 : Int32) by decide), if_neg (show ¬ nI 7 = (5 : Int32) by decide), if_neg (show ¬ nI 7 = (6 : Int32) by decide), if_pos (show nI 7 = (7 : Int32) from rfl), a1]; rfl
  · have hw := (wTl (c := 8 * m + k) hB (hR.mv hp1 (show 1 ≤ 1 by decide)) (nI q)).of ((RFx.refl m (8 * m + k) y).mv 1 p1)
    obtain ⟨y', p', f1, f2⟩ := cl_wr (x := x) (k := k) hw (hC.cm hp1) ((CFx.refl m (8 * m + k) x).cm p1)
    refine ⟨0, cm x p1, y', p', ?_, by rw [e3, Option.bind_some]; exact f1, f2⟩
    unfold f_X10_readClause
    rcases e1 with e1 | ⟨k0, hk0, e1, e2⟩
    · rw [e1, Option.bind_some, if_pos (show -nI 1 < 0 by decide)]; rfl
    · rw [e1, Option.bind_some, if_neg (show ¬ nI k0 < 0 from nI_pos (by omega)), nmk_e, show f_X10_readBlank (nI k0, cm x p1).2 = _ from e2, if_pos (show nI 0 = (0 : Int32) from rfl)]; rfl
