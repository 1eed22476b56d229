/-! one more entry in all the rows of a list -/
theorem ls_d0 : ∀ z ∈ [4, 5, 6, 7, 8, 11], (∀ r ∈ lisT, r.2.2.1 = z → r.2.2.2 = 1) := by decide +kernel
theorem ls_d1 : ∀ z ∈ [4, 5, 6, 7, 8, 11], (∀ q ∈ fixT, ∀ r ∈ lisT, r.2.2.1 = z → q.1 ≠ r.1 ∧ (q.2.1 + q.2.2 ≤ r.2.1 ∨ r.2.1 + capS z ≤ q.2.1)) := by decide +kernel
theorem ls_d2 : ∀ z ∈ [4, 5, 6, 7, 8, 11], (∀ q ∈ fixT, q.2.1 + q.2.2 ≤ z ∨ z < q.2.1) := by decide +kernel
theorem ls_d3 : ∀ z ∈ [4, 5, 6, 7, 8, 11], (∀ q ∈ lisT, ∀ r ∈ lisT, r.2.2.1 = z → q.2.2.1 ≠ z → q.1 ≠ r.1 ∧ (q.2.1 + q.2.2.2 * capS q.2.2.1 ≤ r.2.1 ∨ r.2.1 + capS z ≤ q.2.1)) := by decide +kernel
theorem ls_d4 : ∀ z ∈ [4, 5, 6, 7, 8, 11], (∀ r ∈ lisT, r.2.2.1 = z → 2880 ≤ r.2.1 ∧ (r.2.1 + capS z ≤ 3100 ∨ 3160 ≤ r.2.1) ∧ r.1 ≠ 19 ∧ r.1 ≠ 11 ∧ r.1 ≠ 29 ∧ r.1 ≠ 6 ∧ r.1 ≠ 7 ∧ r.1 ≠ 8 ∧ r.1 ≠ 9) := by decide +kernel
theorem ls_d5 : ∀ z ∈ [4, 5, 6, 7, 8, 11], (z, capS z) ∈ sizT := by decide +kernel
theorem ls_d6 : ∀ z ∈ [4, 5, 6, 7, 8, 11], (∀ r ∈ lisT, 20 ≤ r.2.1) := by decide +kernel
theorem ls_d7 : ∀ z ∈ [4, 5, 6, 7, 8, 11], (∀ r ∈ sizT, r.1 < 20) := by decide +kernel
theorem ls_d8 : ∀ z ∈ [4, 5, 6, 7, 8, 11], capS z ≤ 40 := by decide +kernel
theorem ls_d : ∀ z ∈ [4, 5, 6, 7, 8, 11], (∀ r ∈ lisT, r.2.2.1 = z → r.2.2.2 = 1) ∧ (∀ q ∈ fixT, ∀ r ∈ lisT, r.2.2.1 = z → q.1 ≠ r.1 ∧ (q.2.1 + q.2.2 ≤ r.2.1 ∨ r.2.1 + capS z ≤ q.2.1)) ∧ (∀ q ∈ fixT, q.2.1 + q.2.2 ≤ z ∨ z < q.2.1) ∧ (∀ q ∈ lisT, ∀ r ∈ lisT, r.2.2.1 = z → q.2.2.1 ≠ z → q.1 ≠ r.1 ∧ (q.2.1 + q.2.2.2 * capS q.2.2.1 ≤ r.2.1 ∨ r.2.1 + capS z ≤ q.2.1)) ∧ (∀ r ∈ lisT, r.2.2.1 = z → 2880 ≤ r.2.1 ∧ (r.2.1 + capS z ≤ 3100 ∨ 3160 ≤ r.2.1) ∧ r.1 ≠ 19 ∧ r.1 ≠ 11 ∧ r.1 ≠ 29 ∧ r.1 ≠ 6 ∧ r.1 ≠ 7 ∧ r.1 ≠ 8 ∧ r.1 ≠ 9) ∧ (z, capS z) ∈ sizT ∧ (∀ r ∈ lisT, 20 ≤ r.2.1) ∧ (∀ r ∈ sizT, r.1 < 20) ∧ capS z ≤ 40 := fun z hz => ⟨ls_d0 z hz, ls_d1 z hz, ls_d2 z hz, ls_d3 z hz, ls_d4 z hz, ls_d5 z hz, ls_d6 z hz, ls_d7 z hz, ls_d8 z hz⟩
theorem w_push {C C' : Nat → Nat → Int32} {N N' s s' : Nat → Int32} (h : RSt C N s) (z : Nat) (hz : z ∈ [4, 5, 6, 7, 8, 11]) (m : Nat) (hm : s z = nI m) (hlt : m < capS z) (h1 : s' z = nI (m + 1)) (h2 : ∀ r ∈ lisT, r.2.2.1 = z → s' (r.2.1 + m) = C' r.1 m) (h3 : ∀ j, j ≠ z → (∀ r ∈ lisT, r.2.2.1 = z → j ≠ r.2.1 + m) → s' j = s j)
    (h4 : ∀ r ∈ lisT, r.2.2.1 = z → ∀ i, i ≠ m → C' r.1 i = C r.1 i) (h5 : ∀ k, (∀ r ∈ lisT, r.2.2.1 = z → k ≠ r.1) → C' k = C k) (h6 : ∀ r ∈ ownT, r.2 = z → N' r.1 = nI (m + 1)) (h7 : ∀ r ∈ ownT, r.2 ≠ z → N' r.1 = N r.1) (h8 : cRng s') : RSt C' N' s' := by
  obtain ⟨a1, a2, a3, a4, a5, a6, a7, a8, a9⟩ := h
  obtain ⟨d1, d2, d3, d4, d5, d6, d7, d8, d9⟩ := ls_d z hz
  have hz20 := d8 _ d6
  have hz20 : z < 20 := hz20
  have hs20 : ∀ j, j < 20 → j ≠ z → s' j = s j := fun j hj hne => h3 j hne (fun r hr hrz => by have := d7 r hr; omega)
  have hsmid : ∀ j, 20 ≤ j → j < 2880 → s' j = s j := fun j ha hb => h3 j (by omega) (fun r hr hrz => by have := (d5 r hr hrz).1; omega)
  have hsr : ∀ j, 3100 ≤ j → j < 3160 → s' j = s j := fun j ha hb => h3 j (by omega) (fun r hr hrz => by have := (d5 r hr hrz).2.1; omega)
  have hz2 : ∀ x ∈ [4, 5, 6, 7, 8, 11], x ≠ 1 ∧ x ≠ 2 ∧ x ≠ 10 := by decide
  obtain ⟨n1, n2, n10⟩ := hz2 z hz
  refine ⟨?_, ?_, ?_, ?_, h8, ?_, ?_, ?_, ?_⟩
  · intro q hq i hi
    rw [h5 q.1 (fun r hr hrz => (d2 q hq r hr hrz).1), h3 (q.2.1 + i) (by have := d3 q hq; omega) (fun r hr hrz => by have := (d2 q hq r hr hrz).2; omega)]
    exact a1 q hq i hi
  · intro q hq i hi
    by_cases hqz : q.2.2.1 = z
    · rw [d1 q hq hqz, hqz, h1] at hi
      have hi' : i < m + 1 := by
        have e : tN (nI (m + 1)) = m + 1 := nI_clamp (by omega)
        rw [e] at hi; omega
      by_cases him : i = m
      · subst him; exact (h2 q hq hqz).symm
      · rw [h4 q hq hqz i him]
        have e := a2 q hq i (by rw [d1 q hq hqz, hqz, hm]; have e : tN (nI m) = m := nI_clamp (by omega); rw [e]; omega)
        rw [e]
        refine (h3 _ (by have := d7 q hq; omega) (fun r hr hrz hj => ?_)).symm
        have hd : ∀ z ∈ [4, 5, 6, 7, 8, 11], ∀ q ∈ lisT, ∀ r ∈ lisT, q.2.2.1 = z → r.2.2.1 = z → q.2.1 = r.2.1 ∨ q.2.1 + capS z ≤ r.2.1 ∨ r.2.1 + capS z ≤ q.2.1 := by decide +kernel
        have := hd z hz q hq r hr hqz hrz
        omega
    · have e0 : s' q.2.2.1 = s q.2.2.1 := hs20 _ (d8 (q.2.2.1, capS q.2.2.1) (fx_c q hq)) hqz
      rw [e0] at hi
      have hc := rg_tN (Nat.lt_of_le_of_lt (fx_s _ (fx_c q hq)).2.2 (by decide)) (a4 _ (fx_c q hq))
      have hmm : q.2.2.2 * tN (s q.2.2.1) ≤ q.2.2.2 * capS q.2.2.1 := Nat.mul_le_mul_left _ hc
      rw [h5 q.1 (fun r hr hrz => (d4 q hq r hr hrz hqz).1), h3 (q.2.1 + i) (by have := d7 q hq; omega) (fun r hr hrz => by have := (d4 q hq r hr hrz hqz).2; omega)]
      exact a2 q hq i hi
  · intro r hr
    by_cases hrz : r.2 = z
    · rw [h6 r hr hrz, hrz, h1]
    · rw [h7 r hr hrz, hs20 _ (by have := (fx_o r hr).2; omega) hrz]
      exact a3 r hr
  · intro r hr
    by_cases hrz : r.1 = z
    · have hcap : ∀ r ∈ sizT, r.2 = capS r.1 := by decide +kernel
      rw [hrz, h1, hcap r hr, hrz]
      constructor
      · rw [i_le, nI_toInt (by omega)]
        have k0 : (0 : Int32).toInt = 0 := rfl
        omega
      · rw [i_le, nI_toInt (by omega), nI_toInt (by omega)]
        omega
    · rw [hs20 _ (d8 r hr) hrz]
      exact a4 r hr
  · intro k hk
    rw [hsmid (2874 + k) (by omega) (by omega), h5 19 (fun r hr hrz => (d5 r hr hrz).2.2.1.symm)]
    exact a6 k hk
  · intro y hy
    rw [hs20 2 (by decide) n2.symm] at hy
    have hc : tN (s 2) ≤ 10 := rg_tN (by decide) (a4 (2, 10) (by decide))
    obtain ⟨b1, b2⟩ := a7 y hy
    have e3 := hsmid (1660 + y) (by omega) (by omega)
    refine ⟨by rw [e3]; exact b1, fun j hj => ?_⟩
    rw [e3] at hj
    have hc2 : tN (s (1660 + y)) ≤ 60 := rg_tN (by decide) ⟨Int32.le_trans (by decide) b1.1, b1.2⟩
    rw [hsmid (1670 + 60 * y + j) (by omega) (by omega), h5 11 (fun r hr hrz => (d5 r hr hrz).2.2.2.1.symm)]
    exact b2 j hj
  · intro y hy
    rw [hs20 10 (by decide) n10.symm] at hy
    have hc : tN (s 10) ≤ 30 := rg_tN (by decide) (a4 (10, 30) (by decide))
    rw [hsr (3100 + y) (by omega) (by omega), hsr (3130 + y) (by omega) (by omega), h5 29 (fun r hr hrz => (d5 r hr hrz).2.2.2.2.1.symm)]
    exact a8 y hy
  · intro y hy
    rw [hs20 1 (by decide) n1.symm] at hy
    have hc : tN (s 1) ≤ 8 := rg_tN (by decide) (a4 (1, 8) (by decide))
    obtain ⟨b1, b2⟩ := a9 y hy
    have e3 := hsmid (1330 + y) (by omega) (by omega)
    refine ⟨by rw [e3]; exact b1, fun j hj => ?_⟩
    rw [e3] at hj
    have hc2 : tN (s (1330 + y)) ≤ 8 := rg_tN (by decide) ⟨Int32.le_trans (by decide) b1.1, b1.2⟩
    rw [hsmid (1340 + (8 * y + j)) (by omega) (by omega), hsmid (1420 + (8 * y + j)) (by omega) (by omega), hsmid (1500 + (8 * y + j)) (by omega) (by omega), hsmid (1580 + (8 * y + j)) (by omega) (by omega), h5 6 (fun r hr hrz => (d5 r hr hrz).2.2.2.2.2.1.symm), h5 7 (fun r hr hrz => (d5 r hr hrz).2.2.2.2.2.2.1.symm), h5 8 (fun r hr hrz => (d5 r hr hrz).2.2.2.2.2.2.2.1.symm), h5 9 (fun r hr hrz => (d5 r hr hrz).2.2.2.2.2.2.2.2.symm)]
    exact b2 j hj
theorem sim_of {w v w' v' : CW} (h : Sim w v) (hR : RSt w'.1 w'.2.1 (v'.1 0)) (h1 : ∀ k, 58 ≤ k → w'.1 k = w.1 k ∧ w'.2.1 k = w.2.1 k) (h2 : w'.2.2 = w.2.2) (h3 : v'.1 1 = v.1 1) (h4 : v'.2 = v.2) : Sim w' v' := by
  refine ⟨hR, ?_⟩
  rcases h.2 with ⟨a, b⟩ | ⟨a, b, c⟩
  · exact .inl ⟨by rw [h2]; exact a, by rw [h4]; exact b⟩
  · refine .inr ⟨by rw [h2]; exact a, by rw [h4]; exact b, ?_⟩
    rw [show (fun k => w'.1 (58 + k)) = fun k => w.1 (58 + k) from funext fun k => (h1 (58 + k) (by omega)).1, show (fun k => w'.2.1 (58 + k)) = fun k => w.2.1 (58 + k) from funext fun k => (h1 (58 + k) (by omega)).2, h3]
    exact c
