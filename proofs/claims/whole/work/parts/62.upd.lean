/-! a call that writes one group's cells (or two groups'), and scratch -/
theorem Sim_u0 {w v w' v' : CW} (h : Sim w v) (hC : ∀ k, (58 ≤ k ∨ k < 37) → (k < 0 ∨ 1 ≤ k) → w'.1 k = w.1 k ∧ w'.2.1 k = w.2.1 k) (h10 : w'.2.2 10 = w.2.2 10) (hs : ∀ j, j < 3250 → j ≠ 0 → v'.1 0 j = v.1 0 j) (h1 : v'.1 1 = v.1 1) (h3 : v'.2.2 3 = v.2.2 3) (p0 : RG w'.1 w'.2.1 (v'.1 0) 0) : Sim w' v' := by
  refine Sim_upd (fun g => g = 0) h (fun k hk => hC k (hk.imp id And.left) ?_) h10 (fun j hj hp => hs j hj ?_) h1 h3 (fun g _ hg => ?_)
  · have f : ∀ k, k < 1 → 0 ≤ k → gR k = 0 := by decide +kernel
    refine Decidable.byContradiction fun q => ?_
    have e := f k (by omega) (by omega)
    rcases hk with hk | hk
    · omega
    · exact hk.2 (e)
  · rintro rfl
    have e : gP 0 = 0 := rfl
    exact hp (e)
  · subst hg; exact p0
theorem Sim_u1 {w v w' v' : CW} (h : Sim w v) (hC : ∀ k, (58 ≤ k ∨ k < 37) → (k < 1 ∨ 2 ≤ k) → w'.1 k = w.1 k ∧ w'.2.1 k = w.2.1 k) (h10 : w'.2.2 10 = w.2.2 10) (hs : ∀ j, j < 3250 → j ≠ 9 → (j < 110 ∨ 230 ≤ j) → v'.1 0 j = v.1 0 j) (h1 : v'.1 1 = v.1 1) (h3 : v'.2.2 3 = v.2.2 3) (p1 : RG w'.1 w'.2.1 (v'.1 0) 1) : Sim w' v' := by
  refine Sim_upd (fun g => g = 1) h (fun k hk => hC k (hk.imp id And.left) ?_) h10 (fun j hj hp => hs j hj ?_ ?_) h1 h3 (fun g _ hg => ?_)
  · have f : ∀ k, k < 2 → 1 ≤ k → gR k = 1 := by decide +kernel
    refine Decidable.byContradiction fun q => ?_
    have e := f k (by omega) (by omega)
    rcases hk with hk | hk
    · omega
    · exact hk.2 (e)
  · rintro rfl
    have e : gP 9 = 1 := rfl
    exact hp (e)
  · have f : ∀ k, k < 230 → 110 ≤ k → gP k = 1 := fun k h1 h2 => by simp (disch := omega) only [gP, nltT, nltF, ↓reduceIte]
    refine Decidable.byContradiction fun q => ?_
    have e := f j (by omega) (by omega)
    exact hp (e)
  · subst hg; exact p1
theorem Sim_u2 {w v w' v' : CW} (h : Sim w v) (hC : ∀ k, (58 ≤ k ∨ k < 37) → (k < 2 ∨ 10 ≤ k) → w'.1 k = w.1 k ∧ w'.2.1 k = w.2.1 k) (h10 : w'.2.2 10 = w.2.2 10) (hs : ∀ j, j < 3250 → j ≠ 1 → (j < 230 ∨ 1660 ≤ j) → v'.1 0 j = v.1 0 j) (h1 : v'.1 1 = v.1 1) (h3 : v'.2.2 3 = v.2.2 3) (p2 : RG w'.1 w'.2.1 (v'.1 0) 2) : Sim w' v' := by
  refine Sim_upd (fun g => g = 2) h (fun k hk => hC k (hk.imp id And.left) ?_) h10 (fun j hj hp => hs j hj ?_ ?_) h1 h3 (fun g _ hg => ?_)
  · have f : ∀ k, k < 10 → 2 ≤ k → gR k = 2 := by decide +kernel
    refine Decidable.byContradiction fun q => ?_
    have e := f k (by omega) (by omega)
    rcases hk with hk | hk
    · omega
    · exact hk.2 (e)
  · rintro rfl
    have e : gP 1 = 2 := rfl
    exact hp (e)
  · have f : ∀ k, k < 1660 → 230 ≤ k → gP k = 2 := fun k h1 h2 => by simp (disch := omega) only [gP, nltT, nltF, ↓reduceIte]
    refine Decidable.byContradiction fun q => ?_
    have e := f j (by omega) (by omega)
    exact hp (e)
  · subst hg; exact p2
theorem Sim_u3 {w v w' v' : CW} (h : Sim w v) (hC : ∀ k, (58 ≤ k ∨ k < 37) → (k < 10 ∨ 12 ≤ k) → w'.1 k = w.1 k ∧ w'.2.1 k = w.2.1 k) (h10 : w'.2.2 10 = w.2.2 10) (hs : ∀ j, j < 3250 → j ≠ 2 → (j < 1660 ∨ 2270 ≤ j) → v'.1 0 j = v.1 0 j) (h1 : v'.1 1 = v.1 1) (h3 : v'.2.2 3 = v.2.2 3) (p3 : RG w'.1 w'.2.1 (v'.1 0) 3) : Sim w' v' := by
  refine Sim_upd (fun g => g = 3) h (fun k hk => hC k (hk.imp id And.left) ?_) h10 (fun j hj hp => hs j hj ?_ ?_) h1 h3 (fun g _ hg => ?_)
  · have f : ∀ k, k < 12 → 10 ≤ k → gR k = 3 := by decide +kernel
    refine Decidable.byContradiction fun q => ?_
    have e := f k (by omega) (by omega)
    rcases hk with hk | hk
    · omega
    · exact hk.2 (e)
  · rintro rfl
    have e : gP 2 = 3 := rfl
    exact hp (e)
  · have f : ∀ k, k < 2270 → 1660 ≤ k → gP k = 3 := fun k h1 h2 => by simp (disch := omega) only [gP, nltT, nltF, ↓reduceIte]
    refine Decidable.byContradiction fun q => ?_
    have e := f j (by omega) (by omega)
    exact hp (e)
  · subst hg; exact p3
theorem Sim_u4 {w v w' v' : CW} (h : Sim w v) (hC : ∀ k, (58 ≤ k ∨ k < 37) → (k < 12 ∨ 15 ≤ k) → w'.1 k = w.1 k ∧ w'.2.1 k = w.2.1 k) (h10 : w'.2.2 10 = w.2.2 10) (hs : ∀ j, j < 3250 → (j < 20 ∨ 110 ≤ j) → v'.1 0 j = v.1 0 j) (h1 : v'.1 1 = v.1 1) (h3 : v'.2.2 3 = v.2.2 3) (p4 : RG w'.1 w'.2.1 (v'.1 0) 4) : Sim w' v' := by
  refine Sim_upd (fun g => g = 4) h (fun k hk => hC k (hk.imp id And.left) ?_) h10 (fun j hj hp => hs j hj ?_) h1 h3 (fun g _ hg => ?_)
  · have f : ∀ k, k < 15 → 12 ≤ k → gR k = 4 := by decide +kernel
    refine Decidable.byContradiction fun q => ?_
    have e := f k (by omega) (by omega)
    rcases hk with hk | hk
    · omega
    · exact hk.2 (e)
  · have f : ∀ k, k < 110 → 20 ≤ k → gP k = 4 := fun k h1 h2 => by simp (disch := omega) only [gP, nltT, nltF, ↓reduceIte]
    refine Decidable.byContradiction fun q => ?_
    have e := f j (by omega) (by omega)
    exact hp (e)
  · subst hg; exact p4
theorem Sim_u5 {w v w' v' : CW} (h : Sim w v) (hC : ∀ k, (58 ≤ k ∨ k < 37) → (k < 15 ∨ 18 ≤ k) → w'.1 k = w.1 k ∧ w'.2.1 k = w.2.1 k) (h10 : w'.2.2 10 = w.2.2 10) (hs : ∀ j, j < 3250 → j ≠ 3 → (j < 2270 ∨ 2870 ≤ j) → v'.1 0 j = v.1 0 j) (h1 : v'.1 1 = v.1 1) (h3 : v'.2.2 3 = v.2.2 3) (p5 : RG w'.1 w'.2.1 (v'.1 0) 5) : Sim w' v' := by
  refine Sim_upd (fun g => g = 5) h (fun k hk => hC k (hk.imp id And.left) ?_) h10 (fun j hj hp => hs j hj ?_ ?_) h1 h3 (fun g _ hg => ?_)
  · have f : ∀ k, k < 18 → 15 ≤ k → gR k = 5 := by decide +kernel
    refine Decidable.byContradiction fun q => ?_
    have e := f k (by omega) (by omega)
    rcases hk with hk | hk
    · omega
    · exact hk.2 (e)
  · rintro rfl
    have e : gP 3 = 5 := rfl
    exact hp (e)
  · have f : ∀ k, k < 2870 → 2270 ≤ k → gP k = 5 := fun k h1 h2 => by simp (disch := omega) only [gP, nltT, nltF, ↓reduceIte]
    refine Decidable.byContradiction fun q => ?_
    have e := f j (by omega) (by omega)
    exact hp (e)
  · subst hg; exact p5
theorem Sim_u6 {w v w' v' : CW} (h : Sim w v) (hC : ∀ k, (58 ≤ k ∨ k < 37) → (k < 18 ∨ 20 ≤ k) → w'.1 k = w.1 k ∧ w'.2.1 k = w.2.1 k) (h10 : w'.2.2 10 = w.2.2 10) (hs : ∀ j, j < 3250 → (j < 2870 ∨ 2880 ≤ j) → v'.1 0 j = v.1 0 j) (h1 : v'.1 1 = v.1 1) (h3 : v'.2.2 3 = v.2.2 3) (p6 : RG w'.1 w'.2.1 (v'.1 0) 6) : Sim w' v' := by
  refine Sim_upd (fun g => g = 6) h (fun k hk => hC k (hk.imp id And.left) ?_) h10 (fun j hj hp => hs j hj ?_) h1 h3 (fun g _ hg => ?_)
  · have f : ∀ k, k < 20 → 18 ≤ k → gR k = 6 := by decide +kernel
    refine Decidable.byContradiction fun q => ?_
    have e := f k (by omega) (by omega)
    rcases hk with hk | hk
    · omega
    · exact hk.2 (e)
  · have f : ∀ k, k < 2880 → 2870 ≤ k → gP k = 6 := fun k h1 h2 => by simp (disch := omega) only [gP, nltT, nltF, ↓reduceIte]
    refine Decidable.byContradiction fun q => ?_
    have e := f j (by omega) (by omega)
    exact hp (e)
  · subst hg; exact p6
theorem Sim_u7 {w v w' v' : CW} (h : Sim w v) (hC : ∀ k, (58 ≤ k ∨ k < 37) → (k < 20 ∨ 23 ≤ k) → w'.1 k = w.1 k ∧ w'.2.1 k = w.2.1 k) (h10 : w'.2.2 10 = w.2.2 10) (hs : ∀ j, j < 3250 → j ≠ 4 → (j < 2880 ∨ 2920 ≤ j) → v'.1 0 j = v.1 0 j) (h1 : v'.1 1 = v.1 1) (h3 : v'.2.2 3 = v.2.2 3) (p7 : RG w'.1 w'.2.1 (v'.1 0) 7) : Sim w' v' := by
  refine Sim_upd (fun g => g = 7) h (fun k hk => hC k (hk.imp id And.left) ?_) h10 (fun j hj hp => hs j hj ?_ ?_) h1 h3 (fun g _ hg => ?_)
  · have f : ∀ k, k < 23 → 20 ≤ k → gR k = 7 := by decide +kernel
    refine Decidable.byContradiction fun q => ?_
    have e := f k (by omega) (by omega)
    rcases hk with hk | hk
    · omega
    · exact hk.2 (e)
  · rintro rfl
    have e : gP 4 = 7 := rfl
    exact hp (e)
  · have f : ∀ k, k < 2920 → 2880 ≤ k → gP k = 7 := fun k h1 h2 => by simp (disch := omega) only [gP, nltT, nltF, ↓reduceIte]
    refine Decidable.byContradiction fun q => ?_
    have e := f j (by omega) (by omega)
    exact hp (e)
  · subst hg; exact p7
theorem Sim_u8 {w v w' v' : CW} (h : Sim w v) (hC : ∀ k, (58 ≤ k ∨ k < 37) → (k < 23 ∨ 27 ≤ k) → w'.1 k = w.1 k ∧ w'.2.1 k = w.2.1 k) (h10 : w'.2.2 10 = w.2.2 10) (hs : ∀ j, j < 3250 → j ≠ 5 → (j < 2920 ∨ 3080 ≤ j) → v'.1 0 j = v.1 0 j) (h1 : v'.1 1 = v.1 1) (h3 : v'.2.2 3 = v.2.2 3) (p8 : RG w'.1 w'.2.1 (v'.1 0) 8) : Sim w' v' := by
  refine Sim_upd (fun g => g = 8) h (fun k hk => hC k (hk.imp id And.left) ?_) h10 (fun j hj hp => hs j hj ?_ ?_) h1 h3 (fun g _ hg => ?_)
  · have f : ∀ k, k < 27 → 23 ≤ k → gR k = 8 := by decide +kernel
    refine Decidable.byContradiction fun q => ?_
    have e := f k (by omega) (by omega)
    rcases hk with hk | hk
    · omega
    · exact hk.2 (e)
  · rintro rfl
    have e : gP 5 = 8 := rfl
    exact hp (e)
  · have f : ∀ k, k < 3080 → 2920 ≤ k → gP k = 8 := fun k h1 h2 => by simp (disch := omega) only [gP, nltT, nltF, ↓reduceIte]
    refine Decidable.byContradiction fun q => ?_
    have e := f j (by omega) (by omega)
    exact hp (e)
  · subst hg; exact p8
theorem Sim_u9 {w v w' v' : CW} (h : Sim w v) (hC : ∀ k, (58 ≤ k ∨ k < 37) → (k < 27 ∨ 28 ≤ k) → w'.1 k = w.1 k ∧ w'.2.1 k = w.2.1 k) (h10 : w'.2.2 10 = w.2.2 10) (hs : ∀ j, j < 3250 → j ≠ 6 → (j < 3080 ∨ 3090 ≤ j) → v'.1 0 j = v.1 0 j) (h1 : v'.1 1 = v.1 1) (h3 : v'.2.2 3 = v.2.2 3) (p9 : RG w'.1 w'.2.1 (v'.1 0) 9) : Sim w' v' := by
  refine Sim_upd (fun g => g = 9) h (fun k hk => hC k (hk.imp id And.left) ?_) h10 (fun j hj hp => hs j hj ?_ ?_) h1 h3 (fun g _ hg => ?_)
  · have f : ∀ k, k < 28 → 27 ≤ k → gR k = 9 := by decide +kernel
    refine Decidable.byContradiction fun q => ?_
    have e := f k (by omega) (by omega)
    rcases hk with hk | hk
    · omega
    · exact hk.2 (e)
  · rintro rfl
    have e : gP 6 = 9 := rfl
    exact hp (e)
  · have f : ∀ k, k < 3090 → 3080 ≤ k → gP k = 9 := fun k h1 h2 => by simp (disch := omega) only [gP, nltT, nltF, ↓reduceIte]
    refine Decidable.byContradiction fun q => ?_
    have e := f j (by omega) (by omega)
    exact hp (e)
  · subst hg; exact p9
theorem Sim_u10 {w v w' v' : CW} (h : Sim w v) (hC : ∀ k, (58 ≤ k ∨ k < 37) → (k < 28 ∨ 29 ≤ k) → w'.1 k = w.1 k ∧ w'.2.1 k = w.2.1 k) (h10 : w'.2.2 10 = w.2.2 10) (hs : ∀ j, j < 3250 → j ≠ 7 → (j < 3090 ∨ 3100 ≤ j) → v'.1 0 j = v.1 0 j) (h1 : v'.1 1 = v.1 1) (h3 : v'.2.2 3 = v.2.2 3) (p10 : RG w'.1 w'.2.1 (v'.1 0) 10) : Sim w' v' := by
  refine Sim_upd (fun g => g = 10) h (fun k hk => hC k (hk.imp id And.left) ?_) h10 (fun j hj hp => hs j hj ?_ ?_) h1 h3 (fun g _ hg => ?_)
  · have f : ∀ k, k < 29 → 28 ≤ k → gR k = 10 := by decide +kernel
    refine Decidable.byContradiction fun q => ?_
    have e := f k (by omega) (by omega)
    rcases hk with hk | hk
    · omega
    · exact hk.2 (e)
  · rintro rfl
    have e : gP 7 = 10 := rfl
    exact hp (e)
  · have f : ∀ k, k < 3100 → 3090 ≤ k → gP k = 10 := fun k h1 h2 => by simp (disch := omega) only [gP, nltT, nltF, ↓reduceIte]
    refine Decidable.byContradiction fun q => ?_
    have e := f j (by omega) (by omega)
    exact hp (e)
  · subst hg; exact p10
theorem Sim_u11 {w v w' v' : CW} (h : Sim w v) (hC : ∀ k, (58 ≤ k ∨ k < 37) → (k < 29 ∨ 30 ≤ k) → w'.1 k = w.1 k ∧ w'.2.1 k = w.2.1 k) (h10 : w'.2.2 10 = w.2.2 10) (hs : ∀ j, j < 3250 → j ≠ 10 → (j < 3100 ∨ 3160 ≤ j) → v'.1 0 j = v.1 0 j) (h1 : v'.1 1 = v.1 1) (h3 : v'.2.2 3 = v.2.2 3) (p11 : RG w'.1 w'.2.1 (v'.1 0) 11) : Sim w' v' := by
  refine Sim_upd (fun g => g = 11) h (fun k hk => hC k (hk.imp id And.left) ?_) h10 (fun j hj hp => hs j hj ?_ ?_) h1 h3 (fun g _ hg => ?_)
  · have f : ∀ k, k < 30 → 29 ≤ k → gR k = 11 := by decide +kernel
    refine Decidable.byContradiction fun q => ?_
    have e := f k (by omega) (by omega)
    rcases hk with hk | hk
    · omega
    · exact hk.2 (e)
  · rintro rfl
    have e : gP 10 = 11 := rfl
    exact hp (e)
  · have f : ∀ k, k < 3160 → 3100 ≤ k → gP k = 11 := fun k h1 h2 => by simp (disch := omega) only [gP, nltT, nltF, ↓reduceIte]
    refine Decidable.byContradiction fun q => ?_
    have e := f j (by omega) (by omega)
    exact hp (e)
  · subst hg; exact p11
theorem Sim_u12 {w v w' v' : CW} (h : Sim w v) (hC : ∀ k, (58 ≤ k ∨ k < 37) → (k < 30 ∨ 33 ≤ k) → w'.1 k = w.1 k ∧ w'.2.1 k = w.2.1 k) (h10 : w'.2.2 10 = w.2.2 10) (hs : ∀ j, j < 3250 → j ≠ 8 → (j < 3160 ∨ 3180 ≤ j) → v'.1 0 j = v.1 0 j) (h1 : v'.1 1 = v.1 1) (h3 : v'.2.2 3 = v.2.2 3) (p12 : RG w'.1 w'.2.1 (v'.1 0) 12) : Sim w' v' := by
  refine Sim_upd (fun g => g = 12) h (fun k hk => hC k (hk.imp id And.left) ?_) h10 (fun j hj hp => hs j hj ?_ ?_) h1 h3 (fun g _ hg => ?_)
  · have f : ∀ k, k < 33 → 30 ≤ k → gR k = 12 := by decide +kernel
    refine Decidable.byContradiction fun q => ?_
    have e := f k (by omega) (by omega)
    rcases hk with hk | hk
    · omega
    · exact hk.2 (e)
  · rintro rfl
    have e : gP 8 = 12 := rfl
    exact hp (e)
  · have f : ∀ k, k < 3180 → 3160 ≤ k → gP k = 12 := fun k h1 h2 => by simp (disch := omega) only [gP, nltT, nltF, ↓reduceIte]
    refine Decidable.byContradiction fun q => ?_
    have e := f j (by omega) (by omega)
    exact hp (e)
  · subst hg; exact p12
theorem Sim_u13 {w v w' v' : CW} (h : Sim w v) (hC : ∀ k, (58 ≤ k ∨ k < 37) → (k < 33 ∨ 36 ≤ k) → w'.1 k = w.1 k ∧ w'.2.1 k = w.2.1 k) (h10 : w'.2.2 10 = w.2.2 10) (hs : ∀ j, j < 3250 → j ≠ 11 → (j < 3180 ∨ 3240 ≤ j) → v'.1 0 j = v.1 0 j) (h1 : v'.1 1 = v.1 1) (h3 : v'.2.2 3 = v.2.2 3) (p13 : RG w'.1 w'.2.1 (v'.1 0) 13) : Sim w' v' := by
  refine Sim_upd (fun g => g = 13) h (fun k hk => hC k (hk.imp id And.left) ?_) h10 (fun j hj hp => hs j hj ?_ ?_) h1 h3 (fun g _ hg => ?_)
  · have f : ∀ k, k < 36 → 33 ≤ k → gR k = 13 := by decide +kernel
    refine Decidable.byContradiction fun q => ?_
    have e := f k (by omega) (by omega)
    rcases hk with hk | hk
    · omega
    · exact hk.2 (e)
  · rintro rfl
    have e : gP 11 = 13 := rfl
    exact hp (e)
  · have f : ∀ k, k < 3240 → 3180 ≤ k → gP k = 13 := fun k h1 h2 => by simp (disch := omega) only [gP, nltT, nltF, ↓reduceIte]
    refine Decidable.byContradiction fun q => ?_
    have e := f j (by omega) (by omega)
    exact hp (e)
  · subst hg; exact p13
theorem Sim_u14 {w v w' v' : CW} (h : Sim w v) (hC : ∀ k, (58 ≤ k ∨ k < 37) → (k < 36 ∨ 37 ≤ k) → w'.1 k = w.1 k ∧ w'.2.1 k = w.2.1 k) (h10 : w'.2.2 10 = w.2.2 10) (hs : ∀ j, j < 3250 → (j < 3240 ∨ 3250 ≤ j) → v'.1 0 j = v.1 0 j) (h1 : v'.1 1 = v.1 1) (h3 : v'.2.2 3 = v.2.2 3) (p14 : RG w'.1 w'.2.1 (v'.1 0) 14) : Sim w' v' := by
  refine Sim_upd (fun g => g = 14) h (fun k hk => hC k (hk.imp id And.left) ?_) h10 (fun j hj hp => hs j hj ?_) h1 h3 (fun g _ hg => ?_)
  · have f : ∀ k, k < 37 → 36 ≤ k → gR k = 14 := by decide +kernel
    refine Decidable.byContradiction fun q => ?_
    have e := f k (by omega) (by omega)
    rcases hk with hk | hk
    · omega
    · exact hk.2 (e)
  · have f : ∀ k, k < 3250 → 3240 ≤ k → gP k = 14 := fun k h1 h2 => by simp (disch := omega) only [gP, nltT, nltF, ↓reduceIte]
    refine Decidable.byContradiction fun q => ?_
    have e := f j (by omega) (by omega)
    exact hp (e)
  · subst hg; exact p14
theorem Sim_u4_5 {w v w' v' : CW} (h : Sim w v) (hC : ∀ k, (58 ≤ k ∨ k < 37) → (k < 12 ∨ 15 ≤ k) → (k < 15 ∨ 18 ≤ k) → w'.1 k = w.1 k ∧ w'.2.1 k = w.2.1 k) (h10 : w'.2.2 10 = w.2.2 10) (hs : ∀ j, j < 3250 → (j < 20 ∨ 110 ≤ j) → j ≠ 3 → (j < 2270 ∨ 2870 ≤ j) → v'.1 0 j = v.1 0 j) (h1 : v'.1 1 = v.1 1) (h3 : v'.2.2 3 = v.2.2 3) (p4 : RG w'.1 w'.2.1 (v'.1 0) 4) (p5 : RG w'.1 w'.2.1 (v'.1 0) 5) : Sim w' v' := by
  refine Sim_upd (fun g => g = 4 ∨ g = 5) h (fun k hk => hC k (hk.imp id And.left) ?_ ?_) h10 (fun j hj hp => hs j hj ?_ ?_ ?_) h1 h3 (fun g _ hg => ?_)
  · have f : ∀ k, k < 15 → 12 ≤ k → gR k = 4 := by decide +kernel
    refine Decidable.byContradiction fun q => ?_
    have e := f k (by omega) (by omega)
    rcases hk with hk | hk
    · omega
    · exact hk.2 (Or.inl e)
  · have f : ∀ k, k < 18 → 15 ≤ k → gR k = 5 := by decide +kernel
    refine Decidable.byContradiction fun q => ?_
    have e := f k (by omega) (by omega)
    rcases hk with hk | hk
    · omega
    · exact hk.2 (Or.inr e)
  · have f : ∀ k, k < 110 → 20 ≤ k → gP k = 4 := fun k h1 h2 => by simp (disch := omega) only [gP, nltT, nltF, ↓reduceIte]
    refine Decidable.byContradiction fun q => ?_
    have e := f j (by omega) (by omega)
    exact hp (Or.inl e)
  · rintro rfl
    have e : gP 3 = 5 := rfl
    exact hp (Or.inr e)
  · have f : ∀ k, k < 2870 → 2270 ≤ k → gP k = 5 := fun k h1 h2 => by simp (disch := omega) only [gP, nltT, nltF, ↓reduceIte]
    refine Decidable.byContradiction fun q => ?_
    have e := f j (by omega) (by omega)
    exact hp (Or.inr e)
  · rcases hg with rfl | rfl
    · exact p4
    · exact p5
theorem Sim_u6_7 {w v w' v' : CW} (h : Sim w v) (hC : ∀ k, (58 ≤ k ∨ k < 37) → (k < 18 ∨ 20 ≤ k) → (k < 20 ∨ 23 ≤ k) → w'.1 k = w.1 k ∧ w'.2.1 k = w.2.1 k) (h10 : w'.2.2 10 = w.2.2 10) (hs : ∀ j, j < 3250 → (j < 2870 ∨ 2880 ≤ j) → j ≠ 4 → (j < 2880 ∨ 2920 ≤ j) → v'.1 0 j = v.1 0 j) (h1 : v'.1 1 = v.1 1) (h3 : v'.2.2 3 = v.2.2 3) (p6 : RG w'.1 w'.2.1 (v'.1 0) 6) (p7 : RG w'.1 w'.2.1 (v'.1 0) 7) : Sim w' v' := by
  refine Sim_upd (fun g => g = 6 ∨ g = 7) h (fun k hk => hC k (hk.imp id And.left) ?_ ?_) h10 (fun j hj hp => hs j hj ?_ ?_ ?_) h1 h3 (fun g _ hg => ?_)
  · have f : ∀ k, k < 20 → 18 ≤ k → gR k = 6 := by decide +kernel
    refine Decidable.byContradiction fun q => ?_
    have e := f k (by omega) (by omega)
    rcases hk with hk | hk
    · omega
    · exact hk.2 (Or.inl e)
  · have f : ∀ k, k < 23 → 20 ≤ k → gR k = 7 := by decide +kernel
    refine Decidable.byContradiction fun q => ?_
    have e := f k (by omega) (by omega)
    rcases hk with hk | hk
    · omega
    · exact hk.2 (Or.inr e)
  · have f : ∀ k, k < 2880 → 2870 ≤ k → gP k = 6 := fun k h1 h2 => by simp (disch := omega) only [gP, nltT, nltF, ↓reduceIte]
    refine Decidable.byContradiction fun q => ?_
    have e := f j (by omega) (by omega)
    exact hp (Or.inl e)
  · rintro rfl
    have e : gP 4 = 7 := rfl
    exact hp (Or.inr e)
  · have f : ∀ k, k < 2920 → 2880 ≤ k → gP k = 7 := fun k h1 h2 => by simp (disch := omega) only [gP, nltT, nltF, ↓reduceIte]
    refine Decidable.byContradiction fun q => ?_
    have e := f j (by omega) (by omega)
    exact hp (Or.inr e)
  · rcases hg with rfl | rfl
    · exact p6
    · exact p7
theorem Sim_u1_2 {w v w' v' : CW} (h : Sim w v) (hC : ∀ k, (58 ≤ k ∨ k < 37) → (k < 1 ∨ 2 ≤ k) → (k < 2 ∨ 10 ≤ k) → w'.1 k = w.1 k ∧ w'.2.1 k = w.2.1 k) (h10 : w'.2.2 10 = w.2.2 10) (hs : ∀ j, j < 3250 → j ≠ 9 → (j < 110 ∨ 230 ≤ j) → j ≠ 1 → (j < 230 ∨ 1660 ≤ j) → v'.1 0 j = v.1 0 j) (h1 : v'.1 1 = v.1 1) (h3 : v'.2.2 3 = v.2.2 3) (p1 : RG w'.1 w'.2.1 (v'.1 0) 1) (p2 : RG w'.1 w'.2.1 (v'.1 0) 2) : Sim w' v' := by
  refine Sim_upd (fun g => g = 1 ∨ g = 2) h (fun k hk => hC k (hk.imp id And.left) ?_ ?_) h10 (fun j hj hp => hs j hj ?_ ?_ ?_ ?_) h1 h3 (fun g _ hg => ?_)
  · have f : ∀ k, k < 2 → 1 ≤ k → gR k = 1 := by decide +kernel
    refine Decidable.byContradiction fun q => ?_
    have e := f k (by omega) (by omega)
    rcases hk with hk | hk
    · omega
    · exact hk.2 (Or.inl e)
  · have f : ∀ k, k < 10 → 2 ≤ k → gR k = 2 := by decide +kernel
    refine Decidable.byContradiction fun q => ?_
    have e := f k (by omega) (by omega)
    rcases hk with hk | hk
    · omega
    · exact hk.2 (Or.inr e)
  · rintro rfl
    have e : gP 9 = 1 := rfl
    exact hp (Or.inl e)
  · have f : ∀ k, k < 230 → 110 ≤ k → gP k = 1 := fun k h1 h2 => by simp (disch := omega) only [gP, nltT, nltF, ↓reduceIte]
    refine Decidable.byContradiction fun q => ?_
    have e := f j (by omega) (by omega)
    exact hp (Or.inl e)
  · rintro rfl
    have e : gP 1 = 2 := rfl
    exact hp (Or.inr e)
  · have f : ∀ k, k < 1660 → 230 ≤ k → gP k = 2 := fun k h1 h2 => by simp (disch := omega) only [gP, nltT, nltF, ↓reduceIte]
    refine Decidable.byContradiction fun q => ?_
    have e := f j (by omega) (by omega)
    exact hp (Or.inr e)
  · rcases hg with rfl | rfl
    · exact p1
    · exact p2
theorem Sim_u1_3 {w v w' v' : CW} (h : Sim w v) (hC : ∀ k, (58 ≤ k ∨ k < 37) → (k < 1 ∨ 2 ≤ k) → (k < 10 ∨ 12 ≤ k) → w'.1 k = w.1 k ∧ w'.2.1 k = w.2.1 k) (h10 : w'.2.2 10 = w.2.2 10) (hs : ∀ j, j < 3250 → j ≠ 9 → (j < 110 ∨ 230 ≤ j) → j ≠ 2 → (j < 1660 ∨ 2270 ≤ j) → v'.1 0 j = v.1 0 j) (h1 : v'.1 1 = v.1 1) (h3 : v'.2.2 3 = v.2.2 3) (p1 : RG w'.1 w'.2.1 (v'.1 0) 1) (p3 : RG w'.1 w'.2.1 (v'.1 0) 3) : Sim w' v' := by
  refine Sim_upd (fun g => g = 1 ∨ g = 3) h (fun k hk => hC k (hk.imp id And.left) ?_ ?_) h10 (fun j hj hp => hs j hj ?_ ?_ ?_ ?_) h1 h3 (fun g _ hg => ?_)
  · have f : ∀ k, k < 2 → 1 ≤ k → gR k = 1 := by decide +kernel
    refine Decidable.byContradiction fun q => ?_
    have e := f k (by omega) (by omega)
    rcases hk with hk | hk
    · omega
    · exact hk.2 (Or.inl e)
  · have f : ∀ k, k < 12 → 10 ≤ k → gR k = 3 := by decide +kernel
    refine Decidable.byContradiction fun q => ?_
    have e := f k (by omega) (by omega)
    rcases hk with hk | hk
    · omega
    · exact hk.2 (Or.inr e)
  · rintro rfl
    have e : gP 9 = 1 := rfl
    exact hp (Or.inl e)
  · have f : ∀ k, k < 230 → 110 ≤ k → gP k = 1 := fun k h1 h2 => by simp (disch := omega) only [gP, nltT, nltF, ↓reduceIte]
    refine Decidable.byContradiction fun q => ?_
    have e := f j (by omega) (by omega)
    exact hp (Or.inl e)
  · rintro rfl
    have e : gP 2 = 3 := rfl
    exact hp (Or.inr e)
  · have f : ∀ k, k < 2270 → 1660 ≤ k → gP k = 3 := fun k h1 h2 => by simp (disch := omega) only [gP, nltT, nltF, ↓reduceIte]
    refine Decidable.byContradiction fun q => ?_
    have e := f j (by omega) (by omega)
    exact hp (Or.inr e)
  · rcases hg with rfl | rfl
    · exact p1
    · exact p3
theorem Sim.g0 {w v : CW} (h : Sim w v) : w.1 0 0 = v.1 0 0 ∧ Bd (v.1 0 0) 999 := h.1 0 (by decide)
theorem Sim.i0 {w v : CW} (h : w.1 0 0 = v.1 0 0 ∧ Bd (v.1 0 0) 999) : RG w.1 w.2.1 (v.1 0) 0 := h
theorem Sim.g1 {w v : CW} (h : Sim w v) : ∃ m, m ≤ 120 ∧ w.2.1 1 = nI m ∧ v.1 0 9 = nI m ∧ ∀ i, i < m → w.1 1 i = v.1 0 (110 + i) ∧ Bd (v.1 0 (110 + i)) 255 := h.1 1 (by decide)
theorem Sim.i1 {w v : CW} (h : ∃ m, m ≤ 120 ∧ w.2.1 1 = nI m ∧ v.1 0 9 = nI m ∧ ∀ i, i < m → w.1 1 i = v.1 0 (110 + i) ∧ Bd (v.1 0 (110 + i)) 255) : RG w.1 w.2.1 (v.1 0) 1 := h
theorem Sim.g2 {w v : CW} (h : Sim w v) : ∃ m, m ≤ 8 ∧ w.2.1 2 = nI m ∧ w.2.1 3 = nI m ∧ v.1 0 1 = nI m ∧ ∃ d : Nat → Nat, (∀ a, a < m → w.1 2 a = nI (d a) ∧ v.1 0 (230 + a) = nI (d a) ∧ d a ≤ 999) ∧ Rep (w.1 3) (ordR d m) ∧ ∀ a, a < m → cWay w.1 (v.1 0) a := h.1 2 (by decide)
theorem Sim.i2 {w v : CW} (h : ∃ m, m ≤ 8 ∧ w.2.1 2 = nI m ∧ w.2.1 3 = nI m ∧ v.1 0 1 = nI m ∧ ∃ d : Nat → Nat, (∀ a, a < m → w.1 2 a = nI (d a) ∧ v.1 0 (230 + a) = nI (d a) ∧ d a ≤ 999) ∧ Rep (w.1 3) (ordR d m) ∧ ∀ a, a < m → cWay w.1 (v.1 0) a) : RG w.1 w.2.1 (v.1 0) 2 := h
theorem Sim.g3 {w v : CW} (h : Sim w v) : ∃ m, m ≤ 10 ∧ w.2.1 10 = nI m ∧ v.1 0 2 = nI m ∧ ∀ x, x < m → ∃ z, 1 ≤ z ∧ z ≤ 60 ∧ w.1 10 x = nI z ∧ v.1 0 (1660 + x) = nI z ∧ ∀ i, i < z → (w.1 11 (x * 60 + i) = -1 ∧ v.1 0 (1670 + 60 * x + i) = nI 32) ∨ ∃ c, c < 26 ∧ w.1 11 (x * 60 + i) = nI c ∧ v.1 0 (1670 + 60 * x + i) = nI (97 + c) := h.1 3 (by decide)
theorem Sim.i3 {w v : CW} (h : ∃ m, m ≤ 10 ∧ w.2.1 10 = nI m ∧ v.1 0 2 = nI m ∧ ∀ x, x < m → ∃ z, 1 ≤ z ∧ z ≤ 60 ∧ w.1 10 x = nI z ∧ v.1 0 (1660 + x) = nI z ∧ ∀ i, i < z → (w.1 11 (x * 60 + i) = -1 ∧ v.1 0 (1670 + 60 * x + i) = nI 32) ∨ ∃ c, c < 26 ∧ w.1 11 (x * 60 + i) = nI c ∧ v.1 0 (1670 + 60 * x + i) = nI (97 + c)) : RG w.1 w.2.1 (v.1 0) 3 := h
theorem Sim.g4 {w v : CW} (h : Sim w v) : ∀ i, i < 27 → w.1 12 i = v.1 0 (20 + i) ∧ Br (v.1 0 (20 + i)) 1 9 ∧ w.1 13 i = v.1 0 (50 + i) ∧ w.1 14 i = v.1 0 (80 + i) := h.1 4 (by decide)
theorem Sim.i4 {w v : CW} (h : ∀ i, i < 27 → w.1 12 i = v.1 0 (20 + i) ∧ Br (v.1 0 (20 + i)) 1 9 ∧ w.1 13 i = v.1 0 (50 + i) ∧ w.1 14 i = v.1 0 (80 + i)) : RG w.1 w.2.1 (v.1 0) 4 := h
theorem Sim.g5 {w v : CW} (h : Sim w v) : ∃ m, m ≤ 20 ∧ w.2.1 15 = nI m ∧ v.1 0 3 = nI m ∧ ∀ p, p < m → w.1 15 p = v.1 0 (2310 + p) ∧ w.1 16 p = v.1 0 (2290 + p) ∧ Bd (v.1 0 (2290 + p)) 1 ∧ ∀ k, k < 27 → w.1 17 (p * 27 + k) = v.1 0 (2330 + 27 * p + k) := h.1 5 (by decide)
theorem Sim.i5 {w v : CW} (h : ∃ m, m ≤ 20 ∧ w.2.1 15 = nI m ∧ v.1 0 3 = nI m ∧ ∀ p, p < m → w.1 15 p = v.1 0 (2310 + p) ∧ w.1 16 p = v.1 0 (2290 + p) ∧ Bd (v.1 0 (2290 + p)) 1 ∧ ∀ k, k < 27 → w.1 17 (p * 27 + k) = v.1 0 (2330 + 27 * p + k)) : RG w.1 w.2.1 (v.1 0) 5 := h
theorem Sim.g6 {w v : CW} (h : Sim w v) : ∀ k, k < 4 → w.1 18 k = v.1 0 (2870 + k) ∧ Bd (v.1 0 (2870 + k)) 99 ∧ ((∃ m, m ≤ 1000 ∧ w.1 19 k = nI m ∧ v.1 0 (2874 + k) = nI m) ∨ (w.1 19 k = nI 9999 ∧ v.1 0 (2874 + k) = nI 1001)) := h.1 6 (by decide)
theorem Sim.i6 {w v : CW} (h : ∀ k, k < 4 → w.1 18 k = v.1 0 (2870 + k) ∧ Bd (v.1 0 (2870 + k)) 99 ∧ ((∃ m, m ≤ 1000 ∧ w.1 19 k = nI m ∧ v.1 0 (2874 + k) = nI m) ∨ (w.1 19 k = nI 9999 ∧ v.1 0 (2874 + k) = nI 1001))) : RG w.1 w.2.1 (v.1 0) 6 := h
theorem Sim.g7 {w v : CW} (h : Sim w v) : ∃ m, m ≤ 12 ∧ w.2.1 20 = nI m ∧ w.2.1 21 = nI m ∧ w.2.1 22 = nI m ∧ v.1 0 4 = nI m ∧ ∀ j, j < m → w.1 20 j = v.1 0 (2880 + j) ∧ w.1 21 j = v.1 0 (2892 + j) ∧ w.1 22 j = v.1 0 (2904 + j) := h.1 7 (by decide)
theorem Sim.i7 {w v : CW} (h : ∃ m, m ≤ 12 ∧ w.2.1 20 = nI m ∧ w.2.1 21 = nI m ∧ w.2.1 22 = nI m ∧ v.1 0 4 = nI m ∧ ∀ j, j < m → w.1 20 j = v.1 0 (2880 + j) ∧ w.1 21 j = v.1 0 (2892 + j) ∧ w.1 22 j = v.1 0 (2904 + j)) : RG w.1 w.2.1 (v.1 0) 7 := h
theorem Sim.g8 {w v : CW} (h : Sim w v) : ∃ m, m ≤ 40 ∧ w.2.1 23 = nI m ∧ w.2.1 24 = nI m ∧ w.2.1 25 = nI m ∧ w.2.1 26 = nI m ∧ v.1 0 5 = nI m ∧ ∀ j, j < m → w.1 23 j = v.1 0 (2920 + j) ∧ w.1 24 j = v.1 0 (2960 + j) ∧ w.1 25 j = v.1 0 (3000 + j) ∧ w.1 26 j = v.1 0 (3040 + j) ∧ Bd (v.1 0 (2920 + j)) 6 ∧ Bd (v.1 0 (2960 + j)) 29 ∧ Bd (v.1 0 (3000 + j)) 255 ∧ Bd (v.1 0 (3040 + j)) 9 := h.1 8 (by decide)
theorem Sim.i8 {w v : CW} (h : ∃ m, m ≤ 40 ∧ w.2.1 23 = nI m ∧ w.2.1 24 = nI m ∧ w.2.1 25 = nI m ∧ w.2.1 26 = nI m ∧ v.1 0 5 = nI m ∧ ∀ j, j < m → w.1 23 j = v.1 0 (2920 + j) ∧ w.1 24 j = v.1 0 (2960 + j) ∧ w.1 25 j = v.1 0 (3000 + j) ∧ w.1 26 j = v.1 0 (3040 + j) ∧ Bd (v.1 0 (2920 + j)) 6 ∧ Bd (v.1 0 (2960 + j)) 29 ∧ Bd (v.1 0 (3000 + j)) 255 ∧ Bd (v.1 0 (3040 + j)) 9) : RG w.1 w.2.1 (v.1 0) 8 := h
theorem Sim.g9 {w v : CW} (h : Sim w v) : ∃ m, m ≤ 7 ∧ w.2.1 27 = nI m ∧ v.1 0 6 = nI m ∧ ∀ j, j < m → w.1 27 j = v.1 0 (3080 + j) ∧ Bd (v.1 0 (3080 + j)) 65535 := h.1 9 (by decide)
theorem Sim.i9 {w v : CW} (h : ∃ m, m ≤ 7 ∧ w.2.1 27 = nI m ∧ v.1 0 6 = nI m ∧ ∀ j, j < m → w.1 27 j = v.1 0 (3080 + j) ∧ Bd (v.1 0 (3080 + j)) 65535) : RG w.1 w.2.1 (v.1 0) 9 := h
theorem Sim.g10 {w v : CW} (h : Sim w v) : ∃ m, m ≤ 10 ∧ w.2.1 28 = nI m ∧ v.1 0 7 = nI m ∧ ∀ j, j < m → w.1 28 j = v.1 0 (3090 + j) ∧ Bd (v.1 0 (3090 + j)) 9999 := h.1 10 (by decide)
theorem Sim.i10 {w v : CW} (h : ∃ m, m ≤ 10 ∧ w.2.1 28 = nI m ∧ v.1 0 7 = nI m ∧ ∀ j, j < m → w.1 28 j = v.1 0 (3090 + j) ∧ Bd (v.1 0 (3090 + j)) 9999) : RG w.1 w.2.1 (v.1 0) 10 := h
theorem Sim.g11 {w v : CW} (h : Sim w v) : ∃ m, m ≤ 30 ∧ w.2.1 29 = nI m ∧ v.1 0 10 = nI m ∧ ∀ j, j < m → ∃ a b, a < 10 ∧ b < 10 ∧ w.1 29 j = nI (10 * a + b) ∧ v.1 0 (3100 + j) = nI a ∧ v.1 0 (3130 + j) = nI b := h.1 11 (by decide)
theorem Sim.i11 {w v : CW} (h : ∃ m, m ≤ 30 ∧ w.2.1 29 = nI m ∧ v.1 0 10 = nI m ∧ ∀ j, j < m → ∃ a b, a < 10 ∧ b < 10 ∧ w.1 29 j = nI (10 * a + b) ∧ v.1 0 (3100 + j) = nI a ∧ v.1 0 (3130 + j) = nI b) : RG w.1 w.2.1 (v.1 0) 11 := h
theorem Sim.g12 {w v : CW} (h : Sim w v) : ∃ m, m ≤ 6 ∧ w.2.1 30 = nI m ∧ w.2.1 31 = nI m ∧ w.2.1 32 = nI m ∧ v.1 0 8 = nI m ∧ ∀ j, j < m → w.1 30 j = v.1 0 (3160 + j) ∧ w.1 31 j = v.1 0 (3166 + j) ∧ w.1 32 j = v.1 0 (3172 + j) ∧ Br (v.1 0 (3160 + j)) 1 9999 ∧ Bd (v.1 0 (3166 + j)) 999 ∧ Bd (v.1 0 (3172 + j)) 40 := h.1 12 (by decide)
theorem Sim.i12 {w v : CW} (h : ∃ m, m ≤ 6 ∧ w.2.1 30 = nI m ∧ w.2.1 31 = nI m ∧ w.2.1 32 = nI m ∧ v.1 0 8 = nI m ∧ ∀ j, j < m → w.1 30 j = v.1 0 (3160 + j) ∧ w.1 31 j = v.1 0 (3166 + j) ∧ w.1 32 j = v.1 0 (3172 + j) ∧ Br (v.1 0 (3160 + j)) 1 9999 ∧ Bd (v.1 0 (3166 + j)) 999 ∧ Bd (v.1 0 (3172 + j)) 40) : RG w.1 w.2.1 (v.1 0) 12 := h
theorem Sim.g13 {w v : CW} (h : Sim w v) : ∃ m, m ≤ 20 ∧ w.2.1 33 = nI m ∧ w.2.1 34 = nI m ∧ w.2.1 35 = nI m ∧ v.1 0 11 = nI m ∧ ∀ j, j < m → w.1 33 j = v.1 0 (3180 + j) ∧ w.1 34 j = v.1 0 (3200 + j) ∧ w.1 35 j = v.1 0 (3220 + j) ∧ Bd (v.1 0 (3180 + j)) 5 ∧ Bd (v.1 0 (3200 + j)) 999 ∧ Br (v.1 0 (3220 + j)) 1 9999 := h.1 13 (by decide)
theorem Sim.i13 {w v : CW} (h : ∃ m, m ≤ 20 ∧ w.2.1 33 = nI m ∧ w.2.1 34 = nI m ∧ w.2.1 35 = nI m ∧ v.1 0 11 = nI m ∧ ∀ j, j < m → w.1 33 j = v.1 0 (3180 + j) ∧ w.1 34 j = v.1 0 (3200 + j) ∧ w.1 35 j = v.1 0 (3220 + j) ∧ Bd (v.1 0 (3180 + j)) 5 ∧ Bd (v.1 0 (3200 + j)) 999 ∧ Br (v.1 0 (3220 + j)) 1 9999) : RG w.1 w.2.1 (v.1 0) 13 := h
theorem Sim.g14 {w v : CW} (h : Sim w v) : ∀ j, j < 8 → w.1 36 j = v.1 0 (3240 + j) ∧ Bd (v.1 0 (3240 + j)) 9999 := h.1 14 (by decide)
theorem Sim.i14 {w v : CW} (h : ∀ j, j < 8 → w.1 36 j = v.1 0 (3240 + j) ∧ Bd (v.1 0 (3240 + j)) 9999) : RG w.1 w.2.1 (v.1 0) 14 := h
