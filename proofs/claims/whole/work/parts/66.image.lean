/-! image and undo -/
theorem keep_at (w : CW) : ∀ n, n ≤ 37 → (∀ k, k < 58 → (rKeep n w).1 k = w.1 k ∧ (rKeep n w).2.1 k = w.2.1 k) ∧ (∀ k, k < n → (∀ i, i < cp k → (rKeep n w).1 (58 + k) i = w.1 k i) ∧ (rKeep n w).2.1 (58 + k) = w.2.1 k) ∧ (rKeep n w).2.2 = w.2.2 := by
  intro n
  induction n with
  | zero => exact fun _ => ⟨fun k _ => ⟨rfl, rfl⟩, fun k h => absurd h (Nat.not_lt_zero k), rfl⟩
  | succ n ih =>
    intro hn
    obtain ⟨a, b, c⟩ := ih (by omega)
    have e1 : ∀ k, k ≠ 58 + n → (rKeep (n + 1) w).1 k = (rKeep n w).1 k ∧ (rKeep (n + 1) w).2.1 k = (rKeep n w).2.1 k := by
      intro k hk
      exact ⟨if_neg hk, if_neg hk⟩
    refine ⟨fun k hk => ?_, fun k hk => ?_, c⟩
    · obtain ⟨x, y⟩ := e1 k (by omega)
      exact ⟨x.trans (a k hk).1, y.trans (a k hk).2⟩
    · by_cases hkn : k = n
      · subst hkn
        refine ⟨fun i hi => ?_, ?_⟩
        · show (if 58 + k = 58 + k then va_cpy ((rKeep k w).1 k) ((rKeep k w).1 (58 + k)) 0 0 (cp (58 + k)) else _) i = _
          rw [if_pos rfl, (a k (by omega)).1, cp_copy k (by omega)]
          unfold va_cpy
          rw [if_pos ⟨Nat.zero_le _, by rw [Nat.zero_add]; exact hi⟩, Nat.sub_zero, Nat.zero_add]
        · show (if 58 + k = 58 + k then (rKeep k w).2.1 k else _) = _
          rw [if_pos rfl, (a k (by omega)).2]
      · obtain ⟨x, y⟩ := e1 (58 + k) (by omega)
        obtain ⟨x2, y2⟩ := b k (by omega)
        exact ⟨fun i hi => by rw [x]; exact x2 i hi, y.trans y2⟩
theorem back_at (w : CW) : ∀ n, n ≤ 37 → (∀ k, 37 ≤ k → (rBack n w).1 k = w.1 k ∧ (rBack n w).2.1 k = w.2.1 k) ∧ (∀ k, k < n → (∀ i, i < cp k → (rBack n w).1 k i = w.1 (58 + k) i) ∧ (rBack n w).2.1 k = w.2.1 (58 + k)) ∧ (rBack n w).2.2 = w.2.2 := by
  intro n
  induction n with
  | zero => exact fun _ => ⟨fun k _ => ⟨rfl, rfl⟩, fun k h => absurd h (Nat.not_lt_zero k), rfl⟩
  | succ n ih =>
    intro hn
    obtain ⟨a, b, c⟩ := ih (by omega)
    have e1 : ∀ k, k ≠ n → (rBack (n + 1) w).1 k = (rBack n w).1 k ∧ (rBack (n + 1) w).2.1 k = (rBack n w).2.1 k := by
      intro k hk
      exact ⟨if_neg hk, if_neg hk⟩
    refine ⟨fun k hk => ?_, fun k hk => ?_, c⟩
    · obtain ⟨x, y⟩ := e1 k (by omega)
      exact ⟨x.trans (a k hk).1, y.trans (a k hk).2⟩
    · by_cases hkn : k = n
      · subst hkn
        refine ⟨fun i hi => ?_, ?_⟩
        · show (if k = k then va_cpy ((rBack k w).1 (58 + k)) ((rBack k w).1 k) 0 0 (cp k) else _) i = _
          rw [if_pos rfl, (a (58 + k) (by omega)).1]
          unfold va_cpy
          rw [if_pos ⟨Nat.zero_le _, by rw [Nat.zero_add]; exact hi⟩, Nat.sub_zero, Nat.zero_add]
        · show (if k = k then (rBack k w).2.1 (58 + k) else _) = _
          rw [if_pos rfl, (a (58 + k) (by omega)).2]
      · obtain ⟨x, y⟩ := e1 k hkn
        obtain ⟨x2, y2⟩ := b k (by omega)
        exact ⟨fun i hi => by rw [x]; exact x2 i hi, y.trans y2⟩
theorem nI_stop {i : Nat} (h : i < 3250) : ¬ (3250 : Int32) ≤ nI i ∧ ¬ (nI i < 0 ∨ 3250 ≤ (nI i).toNatClampNeg) ∧ (nI i).toNatClampNeg = i ∧ nI i + 1 = nI (i + 1) := by
  refine ⟨fun q => ?_, ?_, nI_clamp (by omega), nI_1 i⟩
  · rw [i_le, nI_toInt (by omega)] at q
    have k1 : (3250 : Int32).toInt = 3250 := rfl
    omega
  · rw [nI_clamp (by omega)]
    rintro (q | q)
    · exact nI_pos (by omega) q
    · omega
theorem image_L (j : CW → Option (Int32 × CW)) : ∀ (n i : Nat) (w : CW), i ≤ 3250 → 3250 < n + i → ∃ w', f_X12_image_L2 j n (nI i) w = j w' ∧ (∀ k, k ≠ 1 → w'.1 k = w.1 k) ∧ w'.2 = w.2 ∧ (∀ t, t < i → w'.1 1 t = w.1 1 t) ∧ ∀ t, i ≤ t → t < 3250 → w'.1 1 t = w.1 0 t := by
  intro n
  induction n with
  | zero => intro i w h1 h2; omega
  | succ n ih =>
    intro i w h1 h2
    unfold f_X12_image_L2
    by_cases hi : i < 3250
    · obtain ⟨a, b, c, d⟩ := nI_stop hi
      rw [if_neg a, if_neg b, if_neg b, c]
      simp only [nmk]
      rw [d]
      obtain ⟨w', e1, e2, e3, e4, e5⟩ := ih (i + 1) (sC w 1 i (w.1 0 i)) (by omega) (by omega)
      refine ⟨w', e1, fun k hk => (e2 k hk).trans (show (if k = 1 then upd (w.1 1) i (w.1 0 i) else w.1 k) = w.1 k from if_neg hk), e3, fun t ht => (e4 t (by omega)).trans ?_, fun t ht1 ht2 => ?_⟩
      · show (if 1 = 1 then upd (w.1 1) i (w.1 0 i) else w.1 1) t = _
        rw [if_pos rfl, upd_n _ _ (by omega)]
      · by_cases q : t = i
        · subst q
          rw [e4 t (by omega)]
          show (if 1 = 1 then upd (w.1 1) t (w.1 0 t) else w.1 1) t = _
          rw [if_pos rfl, upd_s]
        · exact (e5 t (by omega) ht2)
    · have e : i = 3250 := by omega
      subst e
      rw [if_pos (show (3250 : Int32) ≤ nI 3250 by decide)]
      exact ⟨w, rfl, fun k _ => rfl, rfl, fun t _ => rfl, fun t h3 h4 => by omega⟩
theorem s_image {w v : CW} (h : Sim w v) : Same w v (some (f_X11_image w)) (f_X12_image v) := by
  obtain ⟨w', e1, e2, e3, -, e5⟩ := image_L (fun (w27_ : CW) => (nmk (sS w27_ 3 1) fun w29 => (if ((0 : Int32) < 0 ∨ 3250 ≤ (0 : Int32).toNatClampNeg) then none else (some ((w29.1 0 (0 : Int32).toNatClampNeg), w29))))) FU 0 v (by omega) (by decide)
  obtain ⟨a, b, c⟩ := keep_at w 37 (Nat.le_refl _)
  have e0 : (rKeep 37 w).1 0 0 = v.1 0 0 := by rw [(a 0 (by decide)).1]; exact h.g0.1
  refine ⟨v.1 0 0, sS (rKeep 37 w) 10 1, sS w' 3 1, ?_, ?_, ?_, .inr ⟨rfl, rfl, ?_⟩⟩
  · show some (rAt (sS (rKeep 37 w) 10 1) 0 0, _) = _
    rw [show rAt (sS (rKeep 37 w) 10 1) 0 0 = (sS (rKeep 37 w) 10 1).1 0 0 from aT (k := 0) (i := 0) _ (by decide) (by decide)]
    show some ((rKeep 37 w).1 0 0, _) = _
    rw [e0]
    rfl
  · refine Eq.trans (by unfold f_X12_image; generalize FU = n; rfl) (e1.trans ?_)
    show some (w'.1 0 0, sS w' 3 1) = _
    rw [e2 0 (by decide)]
  · refine RSt_congr h.1 (fun k hk i _ => by show (rKeep 37 w).1 k i = _; rw [(a k (by omega)).1]) (fun k hk => (a k (by omega)).2) (fun i _ => by show w'.1 0 i = _; rw [e2 0 (by decide)])
  · exact RSt_congr h.1 (fun k hk i hi => (b k hk).1 i hi) (fun k hk => (b k hk).2) (fun i hi => e5 i (Nat.zero_le _) hi)
theorem undo_L (j : CW → Option (Int32 × CW)) : ∀ (n i : Nat) (w : CW), i ≤ 3250 → 3250 < n + i → ∃ w', f_X12_undo_L12 j n (nI i) w = j w' ∧ (∀ k, k ≠ 0 → w'.1 k = w.1 k) ∧ w'.2 = w.2 ∧ (∀ t, t < i → w'.1 0 t = w.1 0 t) ∧ ∀ t, i ≤ t → t < 3250 → w'.1 0 t = w.1 1 t := by
  intro n
  induction n with
  | zero => intro i w h1 h2; omega
  | succ n ih =>
    intro i w h1 h2
    unfold f_X12_undo_L12
    by_cases hi : i < 3250
    · obtain ⟨a, b, c, d⟩ := nI_stop hi
      rw [if_neg a, if_neg b, if_neg b, c]
      simp only [nmk]
      rw [d]
      obtain ⟨w', e1, e2, e3, e4, e5⟩ := ih (i + 1) (sC w 0 i (w.1 1 i)) (by omega) (by omega)
      refine ⟨w', e1, fun k hk => (e2 k hk).trans (show (if k = 0 then upd (w.1 0) i (w.1 1 i) else w.1 k) = w.1 k from if_neg hk), e3, fun t ht => (e4 t (by omega)).trans ?_, fun t ht1 ht2 => ?_⟩
      · show (if 0 = 0 then upd (w.1 0) i (w.1 1 i) else w.1 0) t = _
        rw [if_pos rfl, upd_n _ _ (by omega)]
      · by_cases q : t = i
        · subst q
          rw [e4 t (by omega)]
          show (if 0 = 0 then upd (w.1 0) t (w.1 1 t) else w.1 0) t = _
          rw [if_pos rfl, upd_s]
        · exact (e5 t (by omega) ht2)
    · have e : i = 3250 := by omega
      subst e
      rw [if_pos (show (3250 : Int32) ≤ nI 3250 by decide)]
      exact ⟨w, rfl, fun k _ => rfl, rfl, fun t _ => rfl, fun t h3 h4 => by omega⟩
theorem s_undo {w v : CW} (h : Sim w v) : Same w v (some (f_X11_undo w)) (f_X12_undo v) := by
  rcases h.2 with ⟨i1, i2⟩ | ⟨i1, i2, hI⟩
  · refine ⟨-3, w, v, ?_, ?_, h⟩
    · unfold f_X11_undo
      rw [if_pos i1]
    · unfold f_X12_undo
      rw [if_pos i2]
  · obtain ⟨v', e1, e2, e3, -, e5⟩ := undo_L (fun (w37_ : CW) => (if ((0 : Int32) < 0 ∨ 3250 ≤ (0 : Int32).toNatClampNeg) then none else (some ((w37_.1 0 (0 : Int32).toNatClampNeg), w37_)))) FU 0 v (by omega) (by decide)
    obtain ⟨a, b, c⟩ := back_at w 37 (Nat.le_refl _)
    have hR : RSt (rBack 37 w).1 (rBack 37 w).2.1 (v'.1 0) := RSt_congr hI (fun k hk i hi => (b k hk).1 i hi) (fun k hk => (b k hk).2) (fun i hi => e5 i (Nat.zero_le _) hi)
    have e0 : (rBack 37 w).1 0 0 = v'.1 0 0 := (hR 0 (by decide)).1
    refine ⟨v'.1 0 0, rBack 37 w, v', ?_, ?_, hR, .inr ⟨?_, ?_, ?_⟩⟩
    · unfold f_X11_undo
      rw [if_neg (by rw [i1]; decide)]
      show some (rAt (rBack 37 w) 0 0, rBack 37 w) = _
      rw [show rAt (rBack 37 w) 0 0 = (rBack 37 w).1 0 0 from aT (k := 0) (i := 0) _ (by decide) (by decide), e0]
    · unfold f_X12_undo
      rw [if_neg (by rw [i2]; decide)]
      refine Eq.trans (by generalize FU = n; rfl) (e1.trans ?_)
      rfl
    · rw [c]; exact i1
    · rw [e3]; exact i2
    · exact RSt_congr hI (fun k hk i _ => by show (rBack 37 w).1 (58 + k) i = _; rw [(a (58 + k) (by omega)).1]) (fun k hk => (a (58 + k) (by omega)).2) (fun i _ => by rw [e2 1 (by decide)])
