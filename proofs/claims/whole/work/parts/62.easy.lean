/-! the calls that write one int: day, press, thing -/
abbrev Same (w v : CW) (x : Option (Int32 × CW)) (y : Option (Int32 × CW)) : Prop := ∃ (r : Int32) (w' v' : CW), x = some (r, w') ∧ y = some (r, v') ∧ Sim w' v'
theorem i_lt {a b : Int32} : a < b ↔ a.toInt < b.toInt := Int32.lt_iff_toInt_lt
theorem i_le {a b : Int32} : a ≤ b ↔ a.toInt ≤ b.toInt := Int32.le_iff_toInt_le
theorem i_ex {a : Int32} {n : Nat} (hn : n < 2 ^ 31) (h0 : ¬ a < 0) (h1 : a ≤ nI n) : ∃ i, i ≤ n ∧ a = nI i := by
  have h := i_rg hn (Int32.not_lt.mp h0) h1
  exact ⟨tN a, h.2, h.1⟩
/-- the reference reads s at base + i -/
theorem r_ok {b i : Nat} (h : b + i < 3250) : ¬ (nI b + nI i < 0 ∨ 3250 ≤ (nI b + nI i).toNatClampNeg) ∧ (nI b + nI i).toNatClampNeg = b + i := by
  have e : nI b + nI i = nI (b + i) := nI_add b i
  rw [e, nI_clamp (by omega)]
  refine ⟨?_, rfl⟩
  rintro (q | q)
  · exact nI_pos (by omega) q
  · omega
theorem c_at {w : CW} {k i : Nat} (hi : i < cp k) (h2 : i < 2 ^ 31) : rAt w k (nI i) = w.1 k i := by
  unfold rAt
  rw [nI_clamp h2, if_neg (by rintro (q | q); exact nI_pos h2 q; omega)]
theorem c_put {w : CW} {k i : Nat} (hi : i < cp k) (h2 : i < 2 ^ 31) (x : Int32) : rPut w k (nI i) x = sC w k i x := by
  unfold rPut
  rw [nI_clamp h2, if_neg (by rintro (q | q); exact nI_pos h2 q; omega)]
theorem in_0 {a lo hi : Int32} (h : ¬ (lo ≤ a ∧ a ≤ hi)) : f_X12_in a lo hi = 0 := by
  unfold f_X12_in
  by_cases c : a < lo
  · rw [if_pos c]
  · rw [if_neg c, if_pos (Int32.not_le.mp fun q => h ⟨Int32.not_lt.mp c, q⟩)]
theorem in_1 {a lo hi : Int32} (h1 : lo ≤ a) (h2 : a ≤ hi) : ¬ f_X12_in a lo hi = 0 := by
  unfold f_X12_in
  rw [if_neg (Int32.not_lt.mpr h1), if_neg (Int32.not_lt.mpr h2)]
  decide
theorem s_thing {w v : CW} (h : Sim w v) (a b : Int32) : Same w v (some (f_X11_thing w a b)) (f_X12_thing v a b) := by
  unfold f_X11_thing f_X12_thing
  by_cases c1 : a < 0
  · rw [if_pos c1, if_pos (in_0 fun q => absurd c1 (Int32.not_lt.mpr q.1))]
    exact ⟨_, _, _, rfl, rfl, h⟩
  by_cases c2 : a < 8
  · have c2' : a ≤ nI 7 := by
      rw [i_lt] at c2; rw [i_le]
      have e : (8 : Int32).toInt = 8 := rfl
      have e' : (nI 7).toInt = 7 := rfl
      omega
    rw [if_neg c1, if_pos c2, if_neg (in_1 (lo := 0) (hi := 7) (Int32.not_lt.mp c1) c2')]
    by_cases c3 : b < 0
    · rw [if_pos c3, if_pos (in_0 fun q => absurd c3 (Int32.not_lt.mpr q.1))]
      exact ⟨_, _, _, rfl, rfl, h⟩
    by_cases c4 : b ≤ 9999
    · rw [if_neg c3, if_pos c4, if_neg (in_1 (lo := 0) (hi := 9999) (Int32.not_lt.mp c3) c4)]
      obtain ⟨i, hi, rfl⟩ := i_ex (by decide) c1 c2'
      obtain ⟨r1, r2⟩ := r_ok (b := 3240) (i := i) (by omega)
      have r1' : ¬ (3240 + nI i < 0 ∨ 3250 ≤ (3240 + nI i).toNatClampNeg) := r1
      have r2' : (3240 + nI i).toNatClampNeg = 3240 + i := r2
      rw [if_neg r1']
      simp only [nmk, rSwap]
      rw [if_neg r1', r2', c_at (k := 36) (by show i < 8; omega) (by omega), c_put (k := 36) (by show i < 8; omega) (by omega), Sim_fix h (36, 3240, 8) (by decide) i (by show i < 8; omega)]
      refine ⟨_, _, _, rfl, rfl, sim_fix h (36, 3240, 8) (by decide) i (by show i < 8; omega) b ?_⟩
      have hd : ∀ r ∈ rngT, r.1 + r.2.1 ≤ 3240 ∨ 3240 + 8 ≤ r.1 ∨ (r.2.2.1 = 0 ∧ r.2.2.2 = 9999) := by decide +kernel
      intro r hr j hj hjj
      have hjj' : r.1 + j = 3240 + i := hjj
      rcases hd r hr with z | z | ⟨z1, z2⟩
      · omega
      · omega
      · rw [z1, z2]; exact ⟨Int32.not_lt.mp c3, c4⟩
    · rw [if_neg c3, if_neg c4, if_pos (in_0 fun q => c4 q.2)]
      exact ⟨_, _, _, rfl, rfl, h⟩
  · rw [if_neg c1, if_neg c2, if_pos (in_0 fun q => c2 (by
      have q2 := q.2
      rw [i_le] at q2; rw [i_lt]
      have e : (8 : Int32).toInt = 8 := rfl
      have e' : (7 : Int32).toInt = 7 := rfl
      omega))]
    exact ⟨_, _, _, rfl, rfl, h⟩
theorem s_press {w v : CW} (h : Sim w v) (a b : Int32) : Same w v (some (f_X11_press w a b)) (f_X12_press v a b) := by
  unfold f_X11_press f_X12_press
  by_cases c1 : a < 0
  · rw [if_pos c1, if_pos (in_0 fun q => absurd c1 (Int32.not_lt.mpr q.1))]
    exact ⟨_, _, _, rfl, rfl, h⟩
  by_cases c2 : a < 4
  · have c2' : a ≤ nI 3 := by
      rw [i_lt] at c2; rw [i_le]
      have e : (4 : Int32).toInt = 4 := rfl
      have e' : (nI 3).toInt = 3 := rfl
      omega
    rw [if_neg c1, if_pos c2, if_neg (in_1 (lo := 0) (hi := 3) (Int32.not_lt.mp c1) c2')]
    by_cases c3 : b < 0
    · rw [if_pos c3, if_pos (in_0 fun q => absurd c3 (Int32.not_lt.mpr q.1))]
      exact ⟨_, _, _, rfl, rfl, h⟩
    by_cases c4 : b ≤ 99
    · rw [if_neg c3, if_pos c4, if_neg (in_1 (lo := 0) (hi := 99) (Int32.not_lt.mp c3) c4)]
      obtain ⟨i, hi, rfl⟩ := i_ex (by decide) c1 c2'
      obtain ⟨r1, r2⟩ := r_ok (b := 2870) (i := i) (by omega)
      have r1' : ¬ (2870 + nI i < 0 ∨ 3250 ≤ (2870 + nI i).toNatClampNeg) := r1
      have r2' : (2870 + nI i).toNatClampNeg = 2870 + i := r2
      rw [if_neg r1']
      simp only [nmk, rSwap]
      rw [if_neg r1', r2', c_at (k := 18) (by show i < 4; omega) (by omega), c_put (k := 18) (by show i < 4; omega) (by omega), Sim_fix h (18, 2870, 4) (by decide) i (by show i < 4; omega)]
      refine ⟨_, _, _, rfl, rfl, sim_fix h (18, 2870, 4) (by decide) i (by show i < 4; omega) b ?_⟩
      have hd : ∀ r ∈ rngT, r.1 + r.2.1 ≤ 2870 ∨ 2870 + 4 ≤ r.1 ∨ (r.2.2.1 = 0 ∧ r.2.2.2 = 99) := by decide +kernel
      intro r hr j hj hjj
      have hjj' : r.1 + j = 2870 + i := hjj
      rcases hd r hr with z | z | ⟨z1, z2⟩
      · omega
      · omega
      · rw [z1, z2]; exact ⟨Int32.not_lt.mp c3, c4⟩
    · rw [if_neg c3, if_neg c4, if_pos (in_0 fun q => c4 q.2)]
      exact ⟨_, _, _, rfl, rfl, h⟩
  · rw [if_neg c1, if_neg c2, if_pos (in_0 fun q => c2 (by
      have q2 := q.2
      rw [i_le] at q2; rw [i_lt]
      have e : (4 : Int32).toInt = 4 := rfl
      have e' : (3 : Int32).toInt = 3 := rfl
      omega))]
    exact ⟨_, _, _, rfl, rfl, h⟩
theorem s_day {w v : CW} (h : Sim w v) (a : Int32) : Same w v (some (f_X11_day w a)) (f_X12_day v a) := by
  unfold f_X11_day f_X12_day f_X11_now
  by_cases c1 : a < 1
  · rw [if_pos c1, if_pos (in_0 fun q => absurd c1 (Int32.not_lt.mpr q.1))]
    exact ⟨_, _, _, rfl, rfl, h⟩
  by_cases c2 : 99 < a
  · rw [if_neg c1, if_pos c2, if_pos (in_0 fun q => absurd c2 (Int32.not_lt.mpr q.2))]
    exact ⟨_, _, _, rfl, rfl, h⟩
  rw [if_neg c1, if_neg c2, if_neg (in_1 (lo := 1) (hi := 99) (Int32.not_lt.mp c1) (Int32.not_lt.mp c2))]
  have z0 : ¬ ((0 : Int32) < 0 ∨ 3250 ≤ (0 : Int32).toNatClampNeg) := by decide
  have z1 : (0 : Int32).toNatClampNeg = 0 := by decide
  have e0 : ∀ w : CW, rAt w 0 0 = w.1 0 0 := fun w => c_at (k := 0) (i := 0) (by decide) (by decide)
  have e1 : w.1 0 0 = v.1 0 0 := Sim_fix h (0, 0, 1) (by decide) 0 (by decide)
  have hr : rg (v.1 0 0) (nI 0) (nI 999) := Sim_rng h (0, 1, 0, 999) (by decide) 0 (by decide)
  simp only [if_neg z0, z1, e0, e1]
  by_cases c3 : v.1 0 0 + a ≤ 999
  · rw [if_pos c3, if_pos c3]
    have ea : rAdd w 0 0 a = sC w 0 0 (v.1 0 0 + a) := by
      unfold rAdd
      rw [e0, e1]
      exact c_put (k := 0) (i := 0) (by decide) (by decide) _
    simp only [nmk, ea]
    refine ⟨_, _, _, rfl, ?_, sim_fix h (0, 0, 1) (by decide) 0 (by decide) (v.1 0 0 + a) ?_⟩
    · show some ((sC v 0 0 (v.1 0 0 + a)).1 0 0, sC v 0 0 (v.1 0 0 + a)) = some ((sC w 0 0 (v.1 0 0 + a)).1 0 0, _)
      rfl
    · have hd : ∀ r ∈ rngT, 1 ≤ r.1 ∨ (r.2.2.1 = 0 ∧ r.2.2.2 = 999) := by decide +kernel
      intro r hr2 j hj hjj
      have hjj' : r.1 + j = 0 + 0 := hjj
      rcases hd r hr2 with z | ⟨z2, z3⟩
      · omega
      · rw [z2, z3]
        refine ⟨?_, c3⟩
        have h1 := hr.1
        have h2 := hr.2
        rw [i_le] at h1 h2 ⊢
        rw [i_lt] at c1 c2
        have k1 : (1 : Int32).toInt = 1 := rfl
        have k2 : (99 : Int32).toInt = 99 := rfl
        have k3 : (nI 0).toInt = 0 := rfl
        have k4 : (nI 999).toInt = 999 := rfl
        rw [Int32.toInt_add, Int.bmod_eq_of_le (by omega) (by omega)]
        omega
  · rw [if_neg c3, if_neg c3]
    exact ⟨_, _, _, rfl, rfl, h⟩
