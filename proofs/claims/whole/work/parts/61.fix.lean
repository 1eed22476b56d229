/-! writing one of the always-equal ints -/
def capS (j : Nat) : Nat := ((sizT.find? fun q => q.1 == j).map Prod.snd).getD 0
theorem fx_d : ∀ q ∈ fixT, ∀ r ∈ fixT, q = r ∨ (q.1 ≠ r.1 ∧ (q.2.1 + q.2.2 ≤ r.2.1 ∨ r.2.1 + r.2.2 ≤ q.2.1)) := by decide +kernel
theorem fx_l : ∀ q ∈ fixT, ∀ r ∈ lisT, q.1 ≠ r.1 ∧ (q.2.1 + q.2.2 ≤ r.2.2.1 ∨ r.2.2.1 < q.2.1) ∧ (r.2.1 + r.2.2.2 * capS r.2.2.1 ≤ q.2.1 ∨ q.2.1 + q.2.2 ≤ r.2.1) := by decide +kernel
theorem fx_c : ∀ r ∈ lisT, (r.2.2.1, capS r.2.2.1) ∈ sizT := by decide +kernel
theorem fx_p : ∀ q ∈ fixT, (q.2.1 = 0 ∧ q.2.2 = 1) ∨ (20 ≤ q.2.1 ∧ q.2.1 + q.2.2 ≤ 110) ∨ (2870 ≤ q.2.1 ∧ q.2.1 + q.2.2 ≤ 2874) ∨ 3240 ≤ q.2.1 := by decide +kernel
theorem fx_r : ∀ q ∈ fixT, q.1 ≠ 19 ∧ q.1 ≠ 11 ∧ q.1 ≠ 29 ∧ q.1 ≠ 6 ∧ q.1 ≠ 7 ∧ q.1 ≠ 8 ∧ q.1 ≠ 9 := by decide +kernel
theorem fx_s : ∀ r ∈ sizT, 1 ≤ r.1 ∧ r.1 ≤ 11 ∧ r.2 ≤ 120 := by decide +kernel
theorem fx_o : ∀ r ∈ ownT, 1 ≤ r.2 ∧ r.2 ≤ 11 := by decide +kernel
theorem upd_s (f : Nat → Int32) (i : Nat) (x : Int32) : upd f i x i = x := by simp [upd]
theorem upd_n (f : Nat → Int32) {i j : Nat} (x : Int32) (h : j ≠ i) : upd f i x j = f j := by simp [upd, h]
theorem rg_tN {x : Int32} {n : Nat} (hn : n < 2 ^ 31) (h : rg x 0 (nI n)) : tN x ≤ n := (i_rg hn h.1 h.2).2
theorem w_fix {C : Nat → Nat → Int32} {N s : Nat → Int32} (h : RSt C N s) (q : Nat × Nat × Nat) (hq : q ∈ fixT) (i : Nat) (hi : i < q.2.2) (x : Int32) (hx : ∀ r ∈ rngT, ∀ j, j < r.2.1 → r.1 + j = q.2.1 + i → rg x (nI r.2.2.1) (nI r.2.2.2)) : RSt (fun a => if a = q.1 then upd (C q.1) i x else C a) N (upd s (q.2.1 + i) x) := by
  obtain ⟨h1, h2, h3, h4, h5, h6, h7, h8, h9⟩ := h
  have hp := fx_p q hq
  have hr := fx_r q hq
  have hs : ∀ j, j ≠ q.2.1 + i → upd s (q.2.1 + i) x j = s j := fun j hj => upd_n s x hj
  have hsz : ∀ j, 1 ≤ j → j ≤ 11 → upd s (q.2.1 + i) x j = s j := fun j a b => hs j (by omega)
  have hmid : ∀ j, 1330 ≤ j → j < 2870 → upd s (q.2.1 + i) x j = s j := fun j a b => hs j (by omega)
  have hC : ∀ a, a ≠ q.1 → (fun a => if a = q.1 then upd (C q.1) i x else C a) a = C a := fun a ha => if_neg ha
  refine ⟨?_, ?_, ?_, ?_, ?_, ?_, ?_, ?_, ?_⟩
  · intro r hr2 j hj
    rcases fx_d q hq r hr2 with rfl | ⟨hne, hd⟩
    · show (if q.1 = q.1 then upd (C q.1) i x else C q.1) j = _
      rw [if_pos rfl]
      by_cases e : j = i
      · subst e; rw [upd_s, upd_s]
      · rw [upd_n _ _ e, hs _ (by omega)]; exact h1 q hq j hj
    · show (if r.1 = q.1 then upd (C q.1) i x else C r.1) j = _
      rw [if_neg hne.symm, hs _ (by omega)]
      exact h1 r hr2 j hj
  · intro r hr2 j hj
    obtain ⟨a1, a2, a3⟩ := fx_l q hq r hr2
    have e1 := hs r.2.2.1 (by omega)
    have hj' : j < r.2.2.2 * tN (s r.2.2.1) := by
      have hj2 : j < r.2.2.2 * tN (upd s (q.2.1 + i) x r.2.2.1) := hj
      rwa [e1] at hj2
    have hc := rg_tN (Nat.lt_of_le_of_lt (fx_s _ (fx_c r hr2)).2.2 (by decide)) (h4 _ (fx_c r hr2))
    have hm : r.2.2.2 * tN (s r.2.2.1) ≤ r.2.2.2 * capS r.2.2.1 := Nat.mul_le_mul_left _ hc
    show (if r.1 = q.1 then upd (C q.1) i x else C r.1) j = _
    rw [if_neg a1.symm, hs _ (by omega)]
    exact h2 r hr2 j hj'
  · intro r hr2
    rw [hsz _ (fx_o r hr2).1 (fx_o r hr2).2]
    exact h3 r hr2
  · intro r hr2
    rw [hsz _ (fx_s r hr2).1 (fx_s r hr2).2.1]
    exact h4 r hr2
  · intro r hr2 j hj
    by_cases e : r.1 + j = q.2.1 + i
    · rw [e, upd_s]; exact hx r hr2 j hj e
    · rw [hs _ e]; exact h5 r hr2 j hj
  · intro k hk
    rw [hs (2874 + k) (by omega)]
    show ((if 19 = q.1 then upd (C q.1) i x else C 19) k = _ ∧ _) ∨ ((if 19 = q.1 then upd (C q.1) i x else C 19) k = _ ∧ _)
    rw [if_neg hr.1.symm]
    exact h6 k hk
  · intro y hy
    have e2 := hsz 2 (by decide) (by decide)
    have hy' : y < tN (s 2) := by
      have : y < tN (upd s (q.2.1 + i) x 2) := hy
      rwa [e2] at this
    have hc : tN (s 2) ≤ 10 := rg_tN (by decide) (h4 (2, 10) (by decide))
    obtain ⟨b1, b2⟩ := h7 y hy'
    have e3 := hmid (1660 + y) (by omega) (by omega)
    refine ⟨by rw [e3]; exact b1, fun j hj => ?_⟩
    rw [e3] at hj
    have hc2 : tN (s (1660 + y)) ≤ 60 := rg_tN (by decide) ⟨Int32.le_trans (by decide) b1.1, b1.2⟩
    rw [hmid (1670 + 60 * y + j) (by omega) (by omega)]
    show ((if 11 = q.1 then upd (C q.1) i x else C 11) _ = _ ∧ _) ∨ ((if 11 = q.1 then upd (C q.1) i x else C 11) _ = _ ∧ _)
    rw [if_neg hr.2.1.symm]
    exact b2 j hj
  · intro y hy
    have e2 := hsz 10 (by decide) (by decide)
    have hy' : y < tN (s 10) := by
      have : y < tN (upd s (q.2.1 + i) x 10) := hy
      rwa [e2] at this
    have hc : tN (s 10) ≤ 30 := rg_tN (by decide) (h4 (10, 30) (by decide))
    rw [hs (3100 + y) (by omega), hs (3130 + y) (by omega)]
    show (if 29 = q.1 then upd (C q.1) i x else C 29) y = _ ∧ _
    rw [if_neg hr.2.2.1.symm]
    exact h8 y hy'
  · intro y hy
    have e2 := hsz 1 (by decide) (by decide)
    have hy' : y < tN (s 1) := by
      have : y < tN (upd s (q.2.1 + i) x 1) := hy
      rwa [e2] at this
    have hc : tN (s 1) ≤ 8 := rg_tN (by decide) (h4 (1, 8) (by decide))
    obtain ⟨b1, b2⟩ := h9 y hy'
    have e3 := hmid (1330 + y) (by omega) (by omega)
    refine ⟨by rw [e3]; exact b1, fun j hj => ?_⟩
    rw [e3] at hj
    have hc2 : tN (s (1330 + y)) ≤ 8 := rg_tN (by decide) ⟨Int32.le_trans (by decide) b1.1, b1.2⟩
    rw [hmid (1340 + (8 * y + j)) (by omega) (by omega), hmid (1420 + (8 * y + j)) (by omega) (by omega), hmid (1500 + (8 * y + j)) (by omega) (by omega), hmid (1580 + (8 * y + j)) (by omega) (by omega)]
    simp only [if_neg hr.2.2.2.1.symm, if_neg hr.2.2.2.2.1.symm, if_neg hr.2.2.2.2.2.1.symm, if_neg hr.2.2.2.2.2.2.symm]
    exact b2 j hj
/-- the same for the two worlds -/
theorem sim_fix {w v : CW} (h : Sim w v) (q : Nat × Nat × Nat) (hq : q ∈ fixT) (i : Nat) (hi : i < q.2.2) (x : Int32) (hx : ∀ r ∈ rngT, ∀ j, j < r.2.1 → r.1 + j = q.2.1 + i → rg x (nI r.2.2.1) (nI r.2.2.2)) : Sim (sC w q.1 i x) (sC v 0 (q.2.1 + i) x) := by
  have hk : q.1 < 58 := by
    have : ∀ q ∈ fixT, q.1 < 58 := by decide +kernel
    exact this q hq
  refine ⟨w_fix h.1 q hq i hi x hx, ?_⟩
  rcases h.2 with ⟨a, b⟩ | ⟨a, b, c⟩
  · exact .inl ⟨a, b⟩
  · refine .inr ⟨a, b, ?_⟩
    have e1 : (fun k => (sC w q.1 i x).1 (58 + k)) = fun k => w.1 (58 + k) := by
      funext k
      show (if 58 + k = q.1 then _ else w.1 (58 + k)) = _
      rw [if_neg (by omega)]
    rw [e1]
    exact c
