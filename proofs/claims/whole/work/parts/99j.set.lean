/-! both set the same lines -/
theorem kc1 (u : CW) (c k : Nat) (a b : Int32) : KpC u (sC (sC u 48 c a) 49 k b) := by
  refine ⟨⟨fun t ht => ?_, fun t ht => rfl, fun t ht => rfl⟩, fun t ht => ?_, ?_, rfl⟩ <;> simp (disch := omega) only [sC_s, sC_n, sC_2, sN_1, sN_s, sN_n, sN_2, sS_1, sS_2, sS_s, sS_n, upd_s, upd_e, upd_n]
theorem kc2 (u : CW) (a : Int32) : KpC u (sS u 9 a) := by
  refine ⟨⟨fun t ht => rfl, fun t ht => rfl, fun t ht => ?_⟩, fun t ht => rfl, rfl, ?_⟩ <;> simp (disch := omega) only [sC_s, sC_n, sC_2, sN_1, sN_s, sN_n, sN_2, sS_1, sS_2, sS_s, sS_n, upd_s, upd_e, upd_n]
theorem kc3 (u : CW) (L : Nat) (a b d : Int32) : KpC u (sS (sC (sC u 48 26 a) 47 L b) 8 d) := by
  refine ⟨⟨fun t ht => ?_, fun t ht => rfl, fun t ht => ?_⟩, fun t ht => ?_, ?_, ?_⟩ <;> simp (disch := omega) only [sC_s, sC_n, sC_2, sN_1, sN_s, sN_n, sN_2, sS_1, sS_2, sS_s, sS_n, upd_s, upd_e, upd_n]
theorem kc4 (u : CW) (L : Nat) (b d : Int32) : KpC u (sS (sC u 47 L b) 8 d) := by
  refine ⟨⟨fun t ht => ?_, fun t ht => rfl, fun t ht => ?_⟩, fun t ht => ?_, ?_, ?_⟩ <;> simp (disch := omega) only [sC_s, sC_n, sC_2, sN_1, sN_s, sN_n, sN_2, sS_1, sS_2, sS_s, sS_n, upd_s, upd_e, upd_n]
theorem l_set {x z : Nat} {ch WD : Nat → Nat} {A : CA} : ∀ (d k w h' p s L q r : Nat) (u y : CW), z ≤ k + d → StC u z ch WD A → EnvR y x z ch WD A → TabA y z ch WD A 0 → AtK (PA z A WD) (ltF z ch) (TA y) (TC u) k w h' p → Outs u y k L → s ≤ 2 * k → 2 * d + 1 ≤ q → d + 1 ≤ r → ∃ u' y' L', f_X6_setOut_L13 q (nI k) (nI w) (nI p) (nI s) u = some u' ∧ f_X12_sets_L203 (nI x) (nI z) r (nI k) (nI w) (nI h') y = some (1, y') ∧ KpC u u' ∧ KpR y y' ∧ Outs u' y' z L' := by
  intro d
  induction d with
  | zero =>
    intro k w h' p s L q r u y hd hS hE hT hI hO hs hq hr
    obtain ⟨k1, -⟩ := hI
    have k1 : k ≤ z := k1
    have hz := hS.env.2.1
    have h40 := hS.env.2.2.1
    have : k = z := by omega
    subst this
    obtain ⟨q, rfl⟩ : ∃ q', q = q' + 1 := ⟨q - 1, by omega⟩
    obtain ⟨r, rfl⟩ : ∃ r', r = r' + 1 := ⟨r - 1, by omega⟩
    have s2 : f_X5_size u 40 ≤ nI k := by
      unfold f_X5_size; rw [h40]; exact Int32.le_refl _
    refine ⟨u, y, L, ?_, ?_, KpC.refl u, KpR.refl y, hO⟩
    · rw [f_X6_setOut_L13]
      split
      · rfl
      · first
        | rfl
        | rw [if_pos s2]
    · rw [f_X12_sets_L203, if_pos (Int32.le_refl _)]
  | succ d ih =>
    intro k w h' p s L q r u y hd hS hE hT hI hO hs hq hr
    by_cases cz : z ≤ k + d
    · exact ih k w h' p s L q r u y cz hS hE hT hI hO hs (by omega) (by omega)
    have hEE : EE = 1000000 := rfl
    have hkz : k < z := by omega
    have hz := hS.env.2.1
    have hkN : k < (PA z A WD).1 := hkz
    obtain ⟨q, rfl⟩ : ∃ q', q = q' + 1 + 1 := ⟨q - 2, by omega⟩
    obtain ⟨r, rfl⟩ : ∃ r', r = r' + 1 := ⟨r - 1, by omega⟩
    have hP := (hE.2.2.1.ok z ch WD).1
    have hA := hT.isA
    have hC := hS.tab.isC
    obtain ⟨k1, w1, h2, p3, v1, v2, rl⟩ := id hI
    have w1 : w ≤ colN A := w1
    have L1 := hO.2.2.2.1
    obtain ⟨u1, hL⟩ := hS.lst hkz
    have hO1 := hO.lfr hL.lfr
    have hS1 := hL.lfr.kp.st hS
    have hTo : TAok y A z (k + 1) := fun i _ h2 w hw p hp => hT.1 i (Nat.zero_le _) h2 w hw p hp
    by_cases hl : ltF z ch k = true
    · obtain ⟨hex, hiff⟩ := at_letter hP hA hC hI hl
      obtain ⟨n, hn, n1, n2, n3⟩ := l_242 hE hTo hl w1 h2 (V := TA y k w h') (by omega) (fun _ => rfl) (fun _ => rfl) hex
      have n13 : 1 ≤ n ∧ n ≤ 3 := by omega
      have hc := (hiff n n13.1 n13.2).mpr n2
      have hcb : ∀ m, n < m → m ≤ 3 → cuC (PA z A WD) (pwF WD A.2.1 z ch) (puF A.2.1 z ch) (TC u) k m w p ≠ TA y k w h' := fun m m1 m2 e => by
        obtain ⟨a, b⟩ := n3 m m1 m2
        rcases (hiff m (by omega) m2).mp e with e | e
        · exact a e
        · exact b e
      obtain ⟨i, i9, i1, i2, i3⟩ := hS.pickL hkz hl hL w1 p3 v2 v1 hn hc hcb
      have sP := stepP hS hkz hL p3 (show s < 120 by omega) i9 i1 i2 i3 (q + 1)
      rw [if_pos hl] at sP
      obtain ⟨b1, b2, b3, b4⟩ := by_letter hP hA hC hI hl n13.1 n13.2 hc
      have b3 : k + n ≤ z := b3
      obtain ⟨r1, r2⟩ := refP hE hT hl w1 h2 hn b3 rfl (by omega) rfl n1 hO.2.1 (show L < 61 by omega) r
      obtain ⟨l1, l2⟩ := ltF_iff.mp hl
      have hch := (hE.1.2.2.2.2 k l1).2
      have h6 := hL.h6
      rw [if_pos hl] at h6
      -- the class's state after the piece
      obtain ⟨u2, e2, kp2, O2⟩ : ∃ u2, (f_X6_setPiece u1 (nI k) (nI n)).2 = u2 ∧ KpC u u2 ∧ Outs u2 (yA y k n (ch k - 97)) (k + n) L := by
        by_cases c1 : n = 1
        · subst c1
          exact ⟨_, setP_one hS1.env hl h6, hL.lfr.kp.trans (kc1 _ _ _ _ _), hO1.pieceOne (by omega) (by omega)⟩
        · have hn' : n = 2 ∨ n = 3 := by omega
          exact ⟨_, setP_more hn', hL.lfr.kp.trans (kc2 _ _), hO1.pieceMore (by omega) (by omega) hn'⟩
      rw [e2] at sP
      have S2 := kp2.st hS
      have kpy := yA_kp y k n (ch k - 97)
      rcases b4 with ⟨g1, g2⟩ | ⟨g1, g2, g3, g4, g5, g6, g7⟩
      · rw [sP, r1 g1]
        have I2 : AtK (PA z A WD) (ltF z ch) (TA (yA y k n (ch k - 97))) (TC u2) (k + n) (w + pwF WD A.2.1 z ch k n) (if ltF z ch (k + n) = true then 1 else 0) (min (p + 1) 2) := by rw [kpy.ta, kp2.tc]; exact g2
        obtain ⟨u', y', L', f1, f2, f3, f4, f5⟩ := ih _ _ _ _ (s + 1) L (q + 1) r u2 _ (by omega) S2 (kpy.env hE) (kpy.tab hT) I2 O2 (by omega) (by omega) (by omega)
        exact ⟨u', y', L', f1, f2, kp2.trans f3, kpy.trans f4, f5⟩
      · have hk2 : k + n < z := (ltF_iff.mp g2).1
        obtain ⟨u3, hL3⟩ := S2.lst hk2
        have tc2 := kp2.tc
        have E3 := S2.pickE hk2 g2 hL3 b2 (show (2 : Nat) < 3 by decide) (V := TC u (k + n) (w + pwF WD A.2.1 z ch k n) 2) (by rw [tc2]) g5 (by rw [tc2]; exact g6)
        have sE := stepE S2 hk2 hL3 (show s + 1 < 120 by omega) E3 q
        have h63 := hL3.h6
        rw [if_pos g2] at h63
        have O3 := O2.lfr hL3.lfr
        rw [endL_l h63 O3.1 (by omega)] at sE
        have O4 := O3.endL (by omega) (by omega)
        have kp4 := (kp2.trans hL3.lfr.kp).trans (kc3 u3 L (u3.1 48 26 + nI 1) (nI (k + n)) (nI (L + 1)))
        have S4 := kp4.st hS
        have kpy4 := kpy.trans (yB_kp (yA y k n (ch k - 97)) L (k + n))
        have I4 : AtK (PA z A WD) (ltF z ch) (TA (yB (yA y k n (ch k - 97)) L (k + n))) (TC (sS (sC (sC u3 48 26 (u3.1 48 26 + nI 1)) 47 L (nI (k + n))) 8 (nI (L + 1)))) (k + n) 0 0 0 := by rw [kpy4.ta, kp4.tc]; exact g7
        rw [sP, g3, sE, r2 g1]
        obtain ⟨u', y', L', f1, f2, f3, f4, f5⟩ := ih _ _ _ _ (s + 1 + 1) (L + 1) q r _ _ (by omega) S4 (kpy4.env hE) (kpy4.tab hT) I4 O4 (by omega) (by omega) (by omega)
        exact ⟨u', y', L', f1, f2, kp4.trans f3, kpy4.trans f4, f5⟩
    · obtain ⟨n, n1, n2, n3, n4, n5⟩ := l_465 hE hTo hkz w1 (V := TA y k w h') (by omega)
      have hbl := at_blank hP hA hC hI hl hkN
      obtain ⟨r1, r2⟩ := refB hE hT hkz hl w1 h2 n2 rfl (by omega) n3 hO.2.1 (show L < 61 by omega) r
      have h6 := hL.h6
      rw [if_neg hl] at h6
      by_cases cn : n ≤ mosN A
      · obtain ⟨i, i9, i1, i2, i3⟩ := hS.pickB hkz hl hL w1 p3 v2 v1 n1 cn ((hbl n).mpr (n4 cn)) (fun m m1 m2 e => n5 m m1 m2 ((hbl m).mp e))
        have sP := stepP hS hkz hL p3 (show s < 120 by omega) i9 i1 i2 i3 (q + 1)
        rw [if_neg hl, setP_blank h6] at sP
        obtain ⟨b1, b2⟩ := by_blank hP hA hC hI hl hkN (n4 cn)
        have kp2 := hL.lfr.kp
        rw [sP, r1 cn]
        have I2 : AtK (PA z A WD) (ltF z ch) (TA y) (TC u1) (k + 1) (w + n) 0 0 := by rw [kp2.tc]; exact b2
        obtain ⟨u', y', L', f1, f2, f3, f4, f5⟩ := ih _ _ _ _ (s + 1) L (q + 1) r u1 y (by omega) hS1 hE hT I2 (hO1.up (by omega)) (by omega) (by omega) (by omega)
        exact ⟨u', y', L', f1, f2, kp2.trans f3, f4, f5⟩
      · have E3 := hS.pickN hkz hl hL w1 p3 v2 v1 (fun m m1 m2 e => n5 m m1 (by omega) ((hbl m).mp e))
        have sE := stepE hS hkz hL (show s < 120 by omega) E3 (q + 1)
        rw [endL_b h6 hO1.1 (by omega)] at sE
        have b2 := end_blank hP hA hC hI hl hkN (fun m m1 m2 => n5 m m1 (by have m2 : m ≤ mosN A := m2; omega))
        have kp2 := hL.lfr.kp.trans (kc4 u1 L (nI (k + 1)) (nI (L + 1)))
        have kpy := yE_kp y L (k + 1)
        rw [sE, r2 cn]
        have I2 : AtK (PA z A WD) (ltF z ch) (TA (yE y L (k + 1))) (TC (sS (sC u1 47 L (nI (k + 1))) 8 (nI (L + 1)))) (k + 1) 0 0 0 := by rw [kpy.ta, kp2.tc]; exact b2
        obtain ⟨u', y', L', f1, f2, f3, f4, f5⟩ := ih _ _ _ _ (s + 1) (L + 1) (q + 1) r _ _ (by omega) (kp2.st hS) (kpy.env hE) (kpy.tab hT) I2 (hO1.endB (by omega)) (by omega) (by omega) (by omega)
        exact ⟨u', y', L', f1, f2, kp2.trans f3, kpy.trans f4, f5⟩
