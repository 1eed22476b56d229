/-! the making of the parts, and of LeadLetters -/
theorem kn_X5_fill : CN yX5_fill 1 := ⟨by decide +kernel, by decide +kernel, by decide +kernel⟩
theorem kn_X5_put : CN yX5_put 2 := ⟨by decide +kernel, by decide +kernel, by decide +kernel⟩
theorem kn_X10_init : CN yX10_init 2 := ⟨by decide +kernel, by decide +kernel, by decide +kernel⟩
theorem kn_X0_init : CN yX0_init 0 := ⟨by decide +kernel, by decide +kernel, by decide +kernel⟩
theorem kn_X9_init : CN yX9_init 1 := ⟨by decide +kernel, by decide +kernel, by decide +kernel⟩
theorem kn_X8_init : CN yX8_init 1 := ⟨by decide +kernel, by decide +kernel, by decide +kernel⟩
theorem kn_X6_init : CN yX6_init 2 := ⟨by decide +kernel, by decide +kernel, by decide +kernel⟩
theorem kn_X4_init : CN yX4_init 1 := ⟨by decide +kernel, by decide +kernel, by decide +kernel⟩
theorem kn_X2_init : CN yX2_init 1 := ⟨by decide +kernel, by decide +kernel, by decide +kernel⟩
theorem kn_X1_init : CN yX1_init 1 := ⟨by decide +kernel, by decide +kernel, by decide +kernel⟩
theorem kn_X3_init : CN yX3_init 1 := ⟨by decide +kernel, by decide +kernel, by decide +kernel⟩
theorem kn_X11_init : CN yX11_init 0 := ⟨by decide +kernel, by decide +kernel, by decide +kernel⟩
set_option maxHeartbeats 4000000 in
set_option maxRecDepth 100000 in
theorem k_put (l : Launch) (B : BX) (n : Nat) (e : Nat → va_E) (j a : Nat) (hj : j < n) (ha : a < n) (v1 : Value) (hej : e j = .inr (6, [.ref (B.2.2.1 + a), v1])) (K : Nat) (hK : K < 2 ^ 31) (f : Nat → Int32) (hea : e a = eI B K f) (i : Nat) (hi : i < K) (v : Int32) : MBx l B yX5_put cX5_put 3 none (rmB 1 0 0 20) [.ref (B.2.2.1 + j), .int (nI i), .int v] n e (BV B n (uE e a (eI B K (upd f i v)))) 0 0 := by
  refine bM_start (by decide +kernel) (Nat.le_of_ble_eq_true rfl) ?_
  intro p env s m below meth c ls X hH hl
  have hS : va_S (bA B) s.heap s.heap [] := va_S.rf
  have hx := X.1.1
  have hb := X.1.2.1
  have hl : lv_has ls 3 [(0, .ref (B.2.2.1 + j)), (1, .int (nI i)), (2, .int v)] := hl
  refine lv_iload_n hx hb dX5_put_0 rfl (lv_at hl 1 rfl) ?_
  refine lv_if_lt (tgt := 20) hx hb dX5_put_1 (by decide) (fun hc => absurd hc (nI_pos (by omega))) (fun hc => ?_)
  refine lv_iload_n hx hb dX5_put_4 rfl (lv_at hl 1 rfl) ?_
  refine lv_aload_n hx hb dX5_put_5 rfl (lv_at hl 0 rfl) ?_
  refine b_get (C := RX5) (T := TX5) (N := 2) X hH j hj hej rfl inBX5 0 (by decide) rfl bw169 dX5_put_6 ?_
  refine b_ilen X hH a ha hea dX5_put_9 ?_
  refine lv_icmp_ge (tgt := 20) hx hb dX5_put_10 (by decide) (fun hc => absurd hc (nI_ge (b := K) hi hK)) (fun hc => ?_)
  refine lv_aload_n hx hb dX5_put_13 rfl (lv_at hl 0 rfl) ?_
  refine b_get (C := RX5) (T := TX5) (N := 2) X hH j hj hej rfl inBX5 0 (by decide) rfl bw169 dX5_put_14 ?_
  refine lv_iload_n hx hb dX5_put_17 rfl (lv_at hl 1 rfl) ?_
  refine lv_iload_n hx hb dX5_put_18 rfl (lv_at hl 2 rfl) ?_
  refine b_ist X hH hS a ha hea (vp_in_nI hi hK) dX5_put_19 (fun H locs hH hS => ?_)
  rw [nI_clamp (by omega)] at hH
  exact bEv X hH hS (Nat.zero_le _) (Nat.zero_le _) dX5_put_20
set_option maxHeartbeats 4000000 in
set_option maxRecDepth 100000 in
theorem k_fill (l : Launch) (B : BX) (n : Nat) (e : Nat → va_E) (j a : Nat) (hj : j < n) (ha : a < n) (hne : j ≠ a) (v1 : Value) (hej : e j = .inr (6, [.ref (B.2.2.1 + a), v1])) (K : Nat) (hK : K < 2 ^ 31) (f : Nat → Int32) (hea : e a = eI B K f) (v : Int32) : MBx l B yX5_fill cX5_fill 3 none (rmB 1 0 0 20) [.ref (B.2.2.1 + j), .int v] n e (BV B n (uE e a (eI B K (fun t => if t < K then v else f t)))) 0 0 := by
  refine bM_start (by decide +kernel) (Nat.le_of_ble_eq_true rfl) ?_
  intro p env s m below meth c ls X hH hl
  have hS : va_S (bA B) s.heap s.heap [] := va_S.rf
  have hx := X.1.1
  have hb := X.1.2.1
  have hl : lv_has ls 3 [(0, .ref (B.2.2.1 + j)), (1, .int v)] := hl
  generalize hargs : ([.ref (B.2.2.1 + j), .int v] : List Value).toArray = args at X ⊢
  generalize hQ : MQ below (BV B n (uE e a (eI B K (fun t => if t < K then v else f t)))) args s 0 0 (bA B) = Q
  have hL : ∀ (m0 i : Nat) (H : Heap) (locs : List Loc) (ls : Array Slot), i ≤ K → K - i < m0 → bH B n (uE e a (eI B K (fun t => if t < i then v else f t))) H → va_S (bA B) s.heap H locs → lv_has ls 3 [(2, .int (nI i)), (0, .ref (B.2.2.1 + j)), (1, .int v)] → W p l env (rmB 1 0 0 20) s m args below meth c H locs 0 0 Q (F0 m 2 ls []) := by
    intro m0
    induction m0 with
    | zero => intro i H locs ls h1 h2; omega
    | succ m0 ih =>
      intro i H locs ls h1 h2 hH hS hl
      have hej' := (uE_n e (eI B K (fun t => if t < i then v else f t)) hne).trans hej
      refine lv_iload_n hx hb dX5_fill_2 rfl (lv_at hl 0 rfl) ?_
      refine lv_aload_n hx hb dX5_fill_3 rfl (lv_at hl 1 rfl) ?_
      refine b_get (C := RX5) (T := TX5) (N := 2) X hH j hj hej' rfl inBX5 0 (by decide) rfl bw169 dX5_fill_4 ?_
      refine b_ilen X hH a ha (uE_s _ _ _) dX5_fill_7 ?_
      refine lv_icmp_ge (tgt := 24) hx hb dX5_fill_8 (by decide) (fun hc => ?_) (fun hc => ?_)
      · have e' : i = K := by
          rcases Nat.lt_or_ge i K with q | q
          · exact absurd hc (nI_ge (b := K) q hK)
          · omega
        subst e'
        subst hQ
        exact bEv X hH hS (Nat.zero_le _) (Nat.zero_le _) dX5_fill_24
      have hi : i < K := by
        rcases Nat.lt_or_ge i K with q | q
        · exact q
        · exact absurd (nI_le (a := K) q (by omega)) hc
      refine lv_aload_n hx hb dX5_fill_11 rfl (lv_at hl 1 rfl) ?_
      refine b_get (C := RX5) (T := TX5) (N := 2) X hH j hj hej' rfl inBX5 0 (by decide) rfl bw169 dX5_fill_12 ?_
      refine lv_iload_n hx hb dX5_fill_15 rfl (lv_at hl 0 rfl) ?_
      refine lv_iload_n hx hb dX5_fill_16 rfl (lv_at hl 2 rfl) ?_
      refine b_ist X hH hS a ha (uE_s _ _ _) (vp_in_nI hi hK) dX5_fill_17 (fun H locs hH hS => ?_)
      rw [nI_clamp (by omega), uE_uE] at hH
      have ef : upd (fun t => if t < i then v else f t) i v = (fun t => if t < (i + 1) then v else f t) := by
        funext t
        unfold upd
        by_cases h : t = i
        · subst h; simp
        · by_cases h3 : t < i
          · simp [h, h3, Nat.lt_succ_of_lt h3]
          · simp [h, h3, show ¬ t < i + 1 by omega]
      rw [ef] at hH
      refine lv_iinc (v := nI (i + 1)) (lv' := [(2, .int (nI (i + 1))), (0, .ref (B.2.2.1 + j)), (1, .int v)]) hx hb dX5_fill_18 hl (k := 0) rfl (nI_1 i) (by decide) rfl (fun ls hl => ?_)
      refine lv_goto (tgt := 2) hx hb dX5_fill_21 (by decide) ?_
      exact ih (i + 1) _ _ _ (by omega) (by omega) hH hS hl
  refine lv_iconst (v := 0) hx hb dX5_fill_0 (by decide) ?_
  refine lv_istore_n (lv' := [(2, .int 0), (0, .ref (B.2.2.1 + j)), (1, .int v)]) hx hb dX5_fill_1 rfl hl (by decide) rfl (fun ls hl => ?_)
  refine hL (K + 1) 0 _ _ _ (by omega) (by omega) (bH_congr hH (fun k _ => ?_)) hS hl
  by_cases h : k = a
  · subst h; rw [uE_s, hea]; simp
  · exact uE_n _ _ h
abbrev uPlN (B : BX) (e : Nat → va_E) (n K jr ja jc jb N : Nat) (f g : Nat → Option Nat) (q : Nat) : Nat → va_E := (uE (uE (uRow B (uE (uE (uRow B e n K) ja (eQ B N (va_up f q (some (B.2.2.1 + n))))) jr (eLst B ja (q + 1))) (n + 2) K) jb (eQ B N (va_up g q (some (B.2.2.1 + (n + 2)))))) jc (eLst B jb (q + 1)))
abbrev uPlF (B : BX) (e : Nat → va_E) (n K jr jc : Nat) : Nat → va_E := (uE (uE (uRow B (uE (uE (uRow B e n K) (n + 2) (eQ B 10 (va_up (fun _ => none) 0 (some (B.2.2.1 + n))))) jr (eLst B (n + 2) 1)) (n + 3) K) (n + 5) (eQ B 10 (va_up (fun _ => none) 0 (some (B.2.2.1 + (n + 3)))))) jc (eLst B (n + 5) 1))
abbrev fCut (f : Nat → Option Nat) (q : Nat) : Nat → Option Nat := fun i => if i < q then f i else none
abbrev uPlG (B : BX) (e : Nat → va_E) (n K jr jc N2 : Nat) (f g : Nat → Option Nat) (q : Nat) : Nat → va_E := (uE (uE (uRow B (uE (uE (uRow B e n K) (n + 2) (eQ B N2 (va_up (fCut f q) q (some (B.2.2.1 + n))))) jr (eLst B (n + 2) (q + 1))) (n + 3) K) (n + 5) (eQ B N2 (va_up (fCut g q) q (some (B.2.2.1 + (n + 3)))))) jc (eLst B (n + 5) (q + 1)))
abbrev uX10_1 (B : BX) (e : Nat → va_E) (f g : Nat → Option Nat) : Nat → va_E := uE e 14 (.inr (11, [.ref (B.2.2.1 + 10), .null, .null, .null, .null, .null, .null, .null, .null, .int 0]))
abbrev uX10_2 (B : BX) (e : Nat → va_E) (f g : Nat → Option Nat) : Nat → va_E := uPlN B (uX10_1 B e f g) 15 8 2 6 3 9 10 f g 2
abbrev faX10_1 (B : BX) (f : Nat → Option Nat) : Nat → Option Nat := (va_up f 2 (some (B.2.2.1 + 15)))
abbrev fbX10_1 (B : BX) (g : Nat → Option Nat) : Nat → Option Nat := (va_up g 2 (some (B.2.2.1 + (15 + 2))))
abbrev uX10_3 (B : BX) (e : Nat → va_E) (f g : Nat → Option Nat) : Nat → va_E := uE (uX10_2 B e f g) 14 (.inr (11, [.ref (B.2.2.1 + 10), .ref (B.2.2.1 + 15), .null, .null, .null, .null, .null, .null, .null, .int 0]))
abbrev uX10_4 (B : BX) (e : Nat → va_E) (f g : Nat → Option Nat) : Nat → va_E := uPlN B (uX10_3 B e f g) 19 8 2 6 3 9 10 (faX10_1 B f) (fbX10_1 B g) 3
abbrev faX10_2 (B : BX) (f : Nat → Option Nat) : Nat → Option Nat := (va_up (faX10_1 B f) 3 (some (B.2.2.1 + 19)))
abbrev fbX10_2 (B : BX) (g : Nat → Option Nat) : Nat → Option Nat := (va_up (fbX10_1 B g) 3 (some (B.2.2.1 + (19 + 2))))
abbrev uX10_5 (B : BX) (e : Nat → va_E) (f g : Nat → Option Nat) : Nat → va_E := uE (uX10_4 B e f g) 14 (.inr (11, [.ref (B.2.2.1 + 10), .ref (B.2.2.1 + 15), .ref (B.2.2.1 + 19), .null, .null, .null, .null, .null, .null, .int 0]))
abbrev uX10_6 (B : BX) (e : Nat → va_E) (f g : Nat → Option Nat) : Nat → va_E := uPlN B (uX10_5 B e f g) 23 9 2 6 3 9 10 (faX10_2 B f) (fbX10_2 B g) 4
abbrev faX10_3 (B : BX) (f : Nat → Option Nat) : Nat → Option Nat := (va_up (faX10_2 B f) 4 (some (B.2.2.1 + 23)))
abbrev fbX10_3 (B : BX) (g : Nat → Option Nat) : Nat → Option Nat := (va_up (fbX10_2 B g) 4 (some (B.2.2.1 + (23 + 2))))
abbrev uX10_7 (B : BX) (e : Nat → va_E) (f g : Nat → Option Nat) : Nat → va_E := uE (uX10_6 B e f g) 14 (.inr (11, [.ref (B.2.2.1 + 10), .ref (B.2.2.1 + 15), .ref (B.2.2.1 + 19), .ref (B.2.2.1 + 23), .null, .null, .null, .null, .null, .int 0]))
abbrev uX10_8 (B : BX) (e : Nat → va_E) (f g : Nat → Option Nat) : Nat → va_E := uPlN B (uX10_7 B e f g) 27 9 2 6 3 9 10 (faX10_3 B f) (fbX10_3 B g) 5
abbrev faX10_4 (B : BX) (f : Nat → Option Nat) : Nat → Option Nat := (va_up (faX10_3 B f) 5 (some (B.2.2.1 + 27)))
abbrev fbX10_4 (B : BX) (g : Nat → Option Nat) : Nat → Option Nat := (va_up (fbX10_3 B g) 5 (some (B.2.2.1 + (27 + 2))))
abbrev uX10_9 (B : BX) (e : Nat → va_E) (f g : Nat → Option Nat) : Nat → va_E := uE (uX10_8 B e f g) 14 (.inr (11, [.ref (B.2.2.1 + 10), .ref (B.2.2.1 + 15), .ref (B.2.2.1 + 19), .ref (B.2.2.1 + 23), .ref (B.2.2.1 + 27), .null, .null, .null, .null, .int 0]))
abbrev uX10_10 (B : BX) (e : Nat → va_E) (f g : Nat → Option Nat) : Nat → va_E := uPlN B (uX10_9 B e f g) 31 72 2 6 3 9 10 (faX10_4 B f) (fbX10_4 B g) 6
abbrev faX10_5 (B : BX) (f : Nat → Option Nat) : Nat → Option Nat := (va_up (faX10_4 B f) 6 (some (B.2.2.1 + 31)))
abbrev fbX10_5 (B : BX) (g : Nat → Option Nat) : Nat → Option Nat := (va_up (fbX10_4 B g) 6 (some (B.2.2.1 + (31 + 2))))
abbrev uX10_11 (B : BX) (e : Nat → va_E) (f g : Nat → Option Nat) : Nat → va_E := uE (uX10_10 B e f g) 14 (.inr (11, [.ref (B.2.2.1 + 10), .ref (B.2.2.1 + 15), .ref (B.2.2.1 + 19), .ref (B.2.2.1 + 23), .ref (B.2.2.1 + 27), .ref (B.2.2.1 + 31), .null, .null, .null, .int 0]))
abbrev uX10_12 (B : BX) (e : Nat → va_E) (f g : Nat → Option Nat) : Nat → va_E := uPlN B (uX10_11 B e f g) 35 72 2 6 3 9 10 (faX10_5 B f) (fbX10_5 B g) 7
abbrev faX10_6 (B : BX) (f : Nat → Option Nat) : Nat → Option Nat := (va_up (faX10_5 B f) 7 (some (B.2.2.1 + 35)))
abbrev fbX10_6 (B : BX) (g : Nat → Option Nat) : Nat → Option Nat := (va_up (fbX10_5 B g) 7 (some (B.2.2.1 + (35 + 2))))
abbrev uX10_13 (B : BX) (e : Nat → va_E) (f g : Nat → Option Nat) : Nat → va_E := uE (uX10_12 B e f g) 14 (.inr (11, [.ref (B.2.2.1 + 10), .ref (B.2.2.1 + 15), .ref (B.2.2.1 + 19), .ref (B.2.2.1 + 23), .ref (B.2.2.1 + 27), .ref (B.2.2.1 + 31), .ref (B.2.2.1 + 35), .null, .null, .int 0]))
abbrev uX10_14 (B : BX) (e : Nat → va_E) (f g : Nat → Option Nat) : Nat → va_E := uPlN B (uX10_13 B e f g) 39 72 2 6 3 9 10 (faX10_6 B f) (fbX10_6 B g) 8
abbrev faX10_7 (B : BX) (f : Nat → Option Nat) : Nat → Option Nat := (va_up (faX10_6 B f) 8 (some (B.2.2.1 + 39)))
abbrev fbX10_7 (B : BX) (g : Nat → Option Nat) : Nat → Option Nat := (va_up (fbX10_6 B g) 8 (some (B.2.2.1 + (39 + 2))))
abbrev uX10_15 (B : BX) (e : Nat → va_E) (f g : Nat → Option Nat) : Nat → va_E := uE (uX10_14 B e f g) 14 (.inr (11, [.ref (B.2.2.1 + 10), .ref (B.2.2.1 + 15), .ref (B.2.2.1 + 19), .ref (B.2.2.1 + 23), .ref (B.2.2.1 + 27), .ref (B.2.2.1 + 31), .ref (B.2.2.1 + 35), .ref (B.2.2.1 + 39), .null, .int 0]))
abbrev uX10_16 (B : BX) (e : Nat → va_E) (f g : Nat → Option Nat) : Nat → va_E := uPlN B (uX10_15 B e f g) 43 72 2 6 3 9 10 (faX10_7 B f) (fbX10_7 B g) 9
abbrev faX10_8 (B : BX) (f : Nat → Option Nat) : Nat → Option Nat := (va_up (faX10_7 B f) 9 (some (B.2.2.1 + 43)))
abbrev fbX10_8 (B : BX) (g : Nat → Option Nat) : Nat → Option Nat := (va_up (fbX10_7 B g) 9 (some (B.2.2.1 + (43 + 2))))
abbrev uX10_17 (B : BX) (e : Nat → va_E) (f g : Nat → Option Nat) : Nat → va_E := uE (uX10_16 B e f g) 14 (.inr (11, [.ref (B.2.2.1 + 10), .ref (B.2.2.1 + 15), .ref (B.2.2.1 + 19), .ref (B.2.2.1 + 23), .ref (B.2.2.1 + 27), .ref (B.2.2.1 + 31), .ref (B.2.2.1 + 35), .ref (B.2.2.1 + 39), .ref (B.2.2.1 + 43), .int 0]))
abbrev uX10_18 (B : BX) (e : Nat → va_E) (f g : Nat → Option Nat) : Nat → va_E := uE (uX10_17 B e f g) 14 (.inr (11, [.ref (B.2.2.1 + 10), .ref (B.2.2.1 + 15), .ref (B.2.2.1 + 19), .ref (B.2.2.1 + 23), .ref (B.2.2.1 + 27), .ref (B.2.2.1 + 31), .ref (B.2.2.1 + 35), .ref (B.2.2.1 + 39), .ref (B.2.2.1 + 43), .int 0]))
set_option maxHeartbeats 4000000 in
set_option maxRecDepth 100000 in
theorem k_X10 (l : Launch) (B : BX) (e : Nat → va_E) (f g : Nat → Option Nat) (he14 : e 14 = .inr (11, [.null, .null, .null, .null, .null, .null, .null, .null, .null, .int 0])) (he1 : e 1 = eShf B 2 3) (he2 : e 2 = eLst B 6 2) (he3 : e 3 = eLst B 9 2) (he6 : e 6 = eQ B 10 f) (he9 : e 9 = eQ B 10 g) : MBx l B yX10_init cX10_init 3 none (rmB 8 32 676 320) [.ref (B.2.2.1 + 14), .ref (B.2.2.1 + 1), .ref (B.2.2.1 + 10)] 15 e (BV B 47 (uX10_18 B e f g)) 32 676 := by
  refine bM_start (by decide +kernel) (Nat.le_of_ble_eq_true rfl) ?_
  intro p env s m below meth c ls X hH hl
  have hS : va_S (bA B) s.heap s.heap [] := va_S.rf
  have hx := X.1.1
  have hb := X.1.2.1
  have hl : lv_has ls 3 [(0, .ref (B.2.2.1 + 14)), (1, .ref (B.2.2.1 + 1)), (2, .ref (B.2.2.1 + 10))] := hl
  refine lv_aload_n hx hb dX10_init_0 rfl (lv_at hl 0 rfl) ?_
  refine b_obj X hl bw243 bw118 bw119 ⟨Nat.le_of_ble_eq_true rfl, Nat.le_of_ble_eq_true rfl⟩ dX10_init_1 ?_
  refine lv_aload_n hx hb dX10_init_4 rfl (lv_at hl 0 rfl) ?_
  refine lv_aload_n hx hb dX10_init_5 rfl (lv_at hl 2 rfl) ?_
  refine b_putF (C := RX10) (T := TX10) (N := 10) X rfl hH hS 14 (by decide) (show e 14 = .inr (11, [.null, .null, .null, .null, .null, .null, .null, .null, .null, .int 0]) from he14) rfl inBX10 tyX10 tyX10_ok nmX10 0 (by decide) bw245 rfl rfl rfl rfl (Nat.le_of_ble_eq_true rfl) dX10_init_6 (fun H locs hH hS => ?_)
  have hH : bH B 15 (uX10_1 B e f g) H := hH
  refine lv_aload_n hx hb dX10_init_9 rfl (lv_at hl 0 rfl) ?_
  refine lv_aload_n hx hb dX10_init_10 rfl (lv_at hl 1 rfl) ?_
  refine lv_bipush (v := 8) hx hb dX10_init_11 (by decide) ?_
  refine b_size X hH (by decide) rfl (fun hz => ?_)
  refine bGr (b_vrun (rest := [.ref (B.2.2.1 + 14)]) X (k_plN l B 15 (uX10_1 B e f g) 1 2 3 6 9 (by decide) (by decide) (by decide) (by decide) (by decide) (by decide) (show (uX10_1 B e f g) 1 = eShf B 2 3 from he1) 2 (show (uX10_1 B e f g) 2 = eLst B 6 2 from he2) (show (uX10_1 B e f g) 3 = eLst B 9 2 from he3) 10 (by decide) (by decide) f g (show (uX10_1 B e f g) 6 = eQ B 10 f from he6) (show (uX10_1 B e f g) 9 = eQ B 10 g from he9) 8 8 (by decide) (by decide) (by decide) (by decide)) bw244 bw160 bw161 bw87 bw162 kn_X7_place ⟨rfl, rfl, Nat.le_of_ble_eq_true rfl, Nat.le_of_ble_eq_true rfl⟩ (b_rec X hH 1 (by decide) (show (uX10_1 B e f g) 1 = eShf B 2 3 from he1) rfl) hH hS hz hl rfl (Nat.le_of_ble_eq_true rfl) dX10_init_13 ⟨Nat.le_of_ble_eq_true rfl, Nat.le_of_ble_eq_true rfl⟩) hS (fun H locs hH hS => ?_)
  have hH : bH B 19 (uX10_2 B e f g) H := hH
  refine b_putF (C := RX10) (T := TX10) (N := 10) X rfl hH hS 14 (by decide) (show (uX10_2 B e f g) 14 = .inr (11, [.ref (B.2.2.1 + 10), .null, .null, .null, .null, .null, .null, .null, .null, .int 0]) from rfl) rfl inBX10 tyX10 tyX10_ok nmX10 1 (by decide) bw246 rfl rfl rfl rfl (Nat.le_of_ble_eq_true rfl) dX10_init_16 (fun H locs hH hS => ?_)
  have hH : bH B 19 (uX10_3 B e f g) H := hH
  refine lv_aload_n hx hb dX10_init_19 rfl (lv_at hl 0 rfl) ?_
  refine lv_aload_n hx hb dX10_init_20 rfl (lv_at hl 1 rfl) ?_
  refine lv_bipush (v := 8) hx hb dX10_init_21 (by decide) ?_
  refine b_size X hH (by decide) rfl (fun hz => ?_)
  refine bGr (b_vrun (rest := [.ref (B.2.2.1 + 14)]) X (k_plN l B 19 (uX10_3 B e f g) 1 2 3 6 9 (by decide) (by decide) (by decide) (by decide) (by decide) (by decide) (show (uX10_3 B e f g) 1 = eShf B 2 3 from he1) 3 (show (uX10_3 B e f g) 2 = eLst B 6 3 from rfl) (show (uX10_3 B e f g) 3 = eLst B 9 3 from rfl) 10 (by decide) (by decide) (faX10_1 B f) (fbX10_1 B g) (show (uX10_3 B e f g) 6 = eQ B 10 (faX10_1 B f) from rfl) (show (uX10_3 B e f g) 9 = eQ B 10 (fbX10_1 B g) from rfl) 8 8 (by decide) (by decide) (by decide) (by decide)) bw244 bw160 bw161 bw87 bw162 kn_X7_place ⟨rfl, rfl, Nat.le_of_ble_eq_true rfl, Nat.le_of_ble_eq_true rfl⟩ (b_rec X hH 1 (by decide) (show (uX10_3 B e f g) 1 = eShf B 2 3 from he1) rfl) hH hS hz hl rfl (Nat.le_of_ble_eq_true rfl) dX10_init_23 ⟨Nat.le_of_ble_eq_true rfl, Nat.le_of_ble_eq_true rfl⟩) hS (fun H locs hH hS => ?_)
  have hH : bH B 23 (uX10_4 B e f g) H := hH
  refine b_putF (C := RX10) (T := TX10) (N := 10) X rfl hH hS 14 (by decide) (show (uX10_4 B e f g) 14 = .inr (11, [.ref (B.2.2.1 + 10), .ref (B.2.2.1 + 15), .null, .null, .null, .null, .null, .null, .null, .int 0]) from rfl) rfl inBX10 tyX10 tyX10_ok nmX10 2 (by decide) bw249 rfl rfl rfl rfl (Nat.le_of_ble_eq_true rfl) dX10_init_26 (fun H locs hH hS => ?_)
  have hH : bH B 23 (uX10_5 B e f g) H := hH
  refine lv_aload_n hx hb dX10_init_29 rfl (lv_at hl 0 rfl) ?_
  refine lv_aload_n hx hb dX10_init_30 rfl (lv_at hl 1 rfl) ?_
  refine lv_bipush (v := 9) hx hb dX10_init_31 (by decide) ?_
  refine b_size X hH (by decide) rfl (fun hz => ?_)
  refine bGr (b_vrun (rest := [.ref (B.2.2.1 + 14)]) X (k_plN l B 23 (uX10_5 B e f g) 1 2 3 6 9 (by decide) (by decide) (by decide) (by decide) (by decide) (by decide) (show (uX10_5 B e f g) 1 = eShf B 2 3 from he1) 4 (show (uX10_5 B e f g) 2 = eLst B 6 4 from rfl) (show (uX10_5 B e f g) 3 = eLst B 9 4 from rfl) 10 (by decide) (by decide) (faX10_2 B f) (fbX10_2 B g) (show (uX10_5 B e f g) 6 = eQ B 10 (faX10_2 B f) from rfl) (show (uX10_5 B e f g) 9 = eQ B 10 (fbX10_2 B g) from rfl) 9 9 (by decide) (by decide) (by decide) (by decide)) bw244 bw160 bw161 bw87 bw162 kn_X7_place ⟨rfl, rfl, Nat.le_of_ble_eq_true rfl, Nat.le_of_ble_eq_true rfl⟩ (b_rec X hH 1 (by decide) (show (uX10_5 B e f g) 1 = eShf B 2 3 from he1) rfl) hH hS hz hl rfl (Nat.le_of_ble_eq_true rfl) dX10_init_33 ⟨Nat.le_of_ble_eq_true rfl, Nat.le_of_ble_eq_true rfl⟩) hS (fun H locs hH hS => ?_)
  have hH : bH B 27 (uX10_6 B e f g) H := hH
  refine b_putF (C := RX10) (T := TX10) (N := 10) X rfl hH hS 14 (by decide) (show (uX10_6 B e f g) 14 = .inr (11, [.ref (B.2.2.1 + 10), .ref (B.2.2.1 + 15), .ref (B.2.2.1 + 19), .null, .null, .null, .null, .null, .null, .int 0]) from rfl) rfl inBX10 tyX10 tyX10_ok nmX10 3 (by decide) bw251 rfl rfl rfl rfl (Nat.le_of_ble_eq_true rfl) dX10_init_36 (fun H locs hH hS => ?_)
  have hH : bH B 27 (uX10_7 B e f g) H := hH
  refine lv_aload_n hx hb dX10_init_39 rfl (lv_at hl 0 rfl) ?_
  refine lv_aload_n hx hb dX10_init_40 rfl (lv_at hl 1 rfl) ?_
  refine lv_bipush (v := 9) hx hb dX10_init_41 (by decide) ?_
  refine b_size X hH (by decide) rfl (fun hz => ?_)
  refine bGr (b_vrun (rest := [.ref (B.2.2.1 + 14)]) X (k_plN l B 27 (uX10_7 B e f g) 1 2 3 6 9 (by decide) (by decide) (by decide) (by decide) (by decide) (by decide) (show (uX10_7 B e f g) 1 = eShf B 2 3 from he1) 5 (show (uX10_7 B e f g) 2 = eLst B 6 5 from rfl) (show (uX10_7 B e f g) 3 = eLst B 9 5 from rfl) 10 (by decide) (by decide) (faX10_3 B f) (fbX10_3 B g) (show (uX10_7 B e f g) 6 = eQ B 10 (faX10_3 B f) from rfl) (show (uX10_7 B e f g) 9 = eQ B 10 (fbX10_3 B g) from rfl) 9 9 (by decide) (by decide) (by decide) (by decide)) bw244 bw160 bw161 bw87 bw162 kn_X7_place ⟨rfl, rfl, Nat.le_of_ble_eq_true rfl, Nat.le_of_ble_eq_true rfl⟩ (b_rec X hH 1 (by decide) (show (uX10_7 B e f g) 1 = eShf B 2 3 from he1) rfl) hH hS hz hl rfl (Nat.le_of_ble_eq_true rfl) dX10_init_43 ⟨Nat.le_of_ble_eq_true rfl, Nat.le_of_ble_eq_true rfl⟩) hS (fun H locs hH hS => ?_)
  have hH : bH B 31 (uX10_8 B e f g) H := hH
  refine b_putF (C := RX10) (T := TX10) (N := 10) X rfl hH hS 14 (by decide) (show (uX10_8 B e f g) 14 = .inr (11, [.ref (B.2.2.1 + 10), .ref (B.2.2.1 + 15), .ref (B.2.2.1 + 19), .ref (B.2.2.1 + 23), .null, .null, .null, .null, .null, .int 0]) from rfl) rfl inBX10 tyX10 tyX10_ok nmX10 4 (by decide) bw252 rfl rfl rfl rfl (Nat.le_of_ble_eq_true rfl) dX10_init_46 (fun H locs hH hS => ?_)
  have hH : bH B 31 (uX10_9 B e f g) H := hH
  refine lv_aload_n hx hb dX10_init_49 rfl (lv_at hl 0 rfl) ?_
  refine lv_aload_n hx hb dX10_init_50 rfl (lv_at hl 1 rfl) ?_
  refine lv_bipush (v := 72) hx hb dX10_init_51 (by decide) ?_
  refine b_size X hH (by decide) rfl (fun hz => ?_)
  refine bGr (b_vrun (rest := [.ref (B.2.2.1 + 14)]) X (k_plN l B 31 (uX10_9 B e f g) 1 2 3 6 9 (by decide) (by decide) (by decide) (by decide) (by decide) (by decide) (show (uX10_9 B e f g) 1 = eShf B 2 3 from he1) 6 (show (uX10_9 B e f g) 2 = eLst B 6 6 from rfl) (show (uX10_9 B e f g) 3 = eLst B 9 6 from rfl) 10 (by decide) (by decide) (faX10_4 B f) (fbX10_4 B g) (show (uX10_9 B e f g) 6 = eQ B 10 (faX10_4 B f) from rfl) (show (uX10_9 B e f g) 9 = eQ B 10 (fbX10_4 B g) from rfl) 72 72 (by decide) (by decide) (by decide) (by decide)) bw244 bw160 bw161 bw87 bw162 kn_X7_place ⟨rfl, rfl, Nat.le_of_ble_eq_true rfl, Nat.le_of_ble_eq_true rfl⟩ (b_rec X hH 1 (by decide) (show (uX10_9 B e f g) 1 = eShf B 2 3 from he1) rfl) hH hS hz hl rfl (Nat.le_of_ble_eq_true rfl) dX10_init_53 ⟨Nat.le_of_ble_eq_true rfl, Nat.le_of_ble_eq_true rfl⟩) hS (fun H locs hH hS => ?_)
  have hH : bH B 35 (uX10_10 B e f g) H := hH
  refine b_putF (C := RX10) (T := TX10) (N := 10) X rfl hH hS 14 (by decide) (show (uX10_10 B e f g) 14 = .inr (11, [.ref (B.2.2.1 + 10), .ref (B.2.2.1 + 15), .ref (B.2.2.1 + 19), .ref (B.2.2.1 + 23), .ref (B.2.2.1 + 27), .null, .null, .null, .null, .int 0]) from rfl) rfl inBX10 tyX10 tyX10_ok nmX10 5 (by decide) bw254 rfl rfl rfl rfl (Nat.le_of_ble_eq_true rfl) dX10_init_56 (fun H locs hH hS => ?_)
  have hH : bH B 35 (uX10_11 B e f g) H := hH
  refine lv_aload_n hx hb dX10_init_59 rfl (lv_at hl 0 rfl) ?_
  refine lv_aload_n hx hb dX10_init_60 rfl (lv_at hl 1 rfl) ?_
  refine lv_bipush (v := 72) hx hb dX10_init_61 (by decide) ?_
  refine b_size X hH (by decide) rfl (fun hz => ?_)
  refine bGr (b_vrun (rest := [.ref (B.2.2.1 + 14)]) X (k_plN l B 35 (uX10_11 B e f g) 1 2 3 6 9 (by decide) (by decide) (by decide) (by decide) (by decide) (by decide) (show (uX10_11 B e f g) 1 = eShf B 2 3 from he1) 7 (show (uX10_11 B e f g) 2 = eLst B 6 7 from rfl) (show (uX10_11 B e f g) 3 = eLst B 9 7 from rfl) 10 (by decide) (by decide) (faX10_5 B f) (fbX10_5 B g) (show (uX10_11 B e f g) 6 = eQ B 10 (faX10_5 B f) from rfl) (show (uX10_11 B e f g) 9 = eQ B 10 (fbX10_5 B g) from rfl) 72 72 (by decide) (by decide) (by decide) (by decide)) bw244 bw160 bw161 bw87 bw162 kn_X7_place ⟨rfl, rfl, Nat.le_of_ble_eq_true rfl, Nat.le_of_ble_eq_true rfl⟩ (b_rec X hH 1 (by decide) (show (uX10_11 B e f g) 1 = eShf B 2 3 from he1) rfl) hH hS hz hl rfl (Nat.le_of_ble_eq_true rfl) dX10_init_63 ⟨Nat.le_of_ble_eq_true rfl, Nat.le_of_ble_eq_true rfl⟩) hS (fun H locs hH hS => ?_)
  have hH : bH B 39 (uX10_12 B e f g) H := hH
  refine b_putF (C := RX10) (T := TX10) (N := 10) X rfl hH hS 14 (by decide) (show (uX10_12 B e f g) 14 = .inr (11, [.ref (B.2.2.1 + 10), .ref (B.2.2.1 + 15), .ref (B.2.2.1 + 19), .ref (B.2.2.1 + 23), .ref (B.2.2.1 + 27), .ref (B.2.2.1 + 31), .null, .null, .null, .int 0]) from rfl) rfl inBX10 tyX10 tyX10_ok nmX10 6 (by decide) bw256 rfl rfl rfl rfl (Nat.le_of_ble_eq_true rfl) dX10_init_66 (fun H locs hH hS => ?_)
  have hH : bH B 39 (uX10_13 B e f g) H := hH
  refine lv_aload_n hx hb dX10_init_69 rfl (lv_at hl 0 rfl) ?_
  refine lv_aload_n hx hb dX10_init_70 rfl (lv_at hl 1 rfl) ?_
  refine lv_bipush (v := 72) hx hb dX10_init_71 (by decide) ?_
  refine b_size X hH (by decide) rfl (fun hz => ?_)
  refine bGr (b_vrun (rest := [.ref (B.2.2.1 + 14)]) X (k_plN l B 39 (uX10_13 B e f g) 1 2 3 6 9 (by decide) (by decide) (by decide) (by decide) (by decide) (by decide) (show (uX10_13 B e f g) 1 = eShf B 2 3 from he1) 8 (show (uX10_13 B e f g) 2 = eLst B 6 8 from rfl) (show (uX10_13 B e f g) 3 = eLst B 9 8 from rfl) 10 (by decide) (by decide) (faX10_6 B f) (fbX10_6 B g) (show (uX10_13 B e f g) 6 = eQ B 10 (faX10_6 B f) from rfl) (show (uX10_13 B e f g) 9 = eQ B 10 (fbX10_6 B g) from rfl) 72 72 (by decide) (by decide) (by decide) (by decide)) bw244 bw160 bw161 bw87 bw162 kn_X7_place ⟨rfl, rfl, Nat.le_of_ble_eq_true rfl, Nat.le_of_ble_eq_true rfl⟩ (b_rec X hH 1 (by decide) (show (uX10_13 B e f g) 1 = eShf B 2 3 from he1) rfl) hH hS hz hl rfl (Nat.le_of_ble_eq_true rfl) dX10_init_73 ⟨Nat.le_of_ble_eq_true rfl, Nat.le_of_ble_eq_true rfl⟩) hS (fun H locs hH hS => ?_)
  have hH : bH B 43 (uX10_14 B e f g) H := hH
  refine b_putF (C := RX10) (T := TX10) (N := 10) X rfl hH hS 14 (by decide) (show (uX10_14 B e f g) 14 = .inr (11, [.ref (B.2.2.1 + 10), .ref (B.2.2.1 + 15), .ref (B.2.2.1 + 19), .ref (B.2.2.1 + 23), .ref (B.2.2.1 + 27), .ref (B.2.2.1 + 31), .ref (B.2.2.1 + 35), .null, .null, .int 0]) from rfl) rfl inBX10 tyX10 tyX10_ok nmX10 7 (by decide) bw258 rfl rfl rfl rfl (Nat.le_of_ble_eq_true rfl) dX10_init_76 (fun H locs hH hS => ?_)
  have hH : bH B 43 (uX10_15 B e f g) H := hH
  refine lv_aload_n hx hb dX10_init_79 rfl (lv_at hl 0 rfl) ?_
  refine lv_aload_n hx hb dX10_init_80 rfl (lv_at hl 1 rfl) ?_
  refine lv_bipush (v := 72) hx hb dX10_init_81 (by decide) ?_
  refine b_size X hH (by decide) rfl (fun hz => ?_)
  refine bGr (b_vrun (rest := [.ref (B.2.2.1 + 14)]) X (k_plN l B 43 (uX10_15 B e f g) 1 2 3 6 9 (by decide) (by decide) (by decide) (by decide) (by decide) (by decide) (show (uX10_15 B e f g) 1 = eShf B 2 3 from he1) 9 (show (uX10_15 B e f g) 2 = eLst B 6 9 from rfl) (show (uX10_15 B e f g) 3 = eLst B 9 9 from rfl) 10 (by decide) (by decide) (faX10_7 B f) (fbX10_7 B g) (show (uX10_15 B e f g) 6 = eQ B 10 (faX10_7 B f) from rfl) (show (uX10_15 B e f g) 9 = eQ B 10 (fbX10_7 B g) from rfl) 72 72 (by decide) (by decide) (by decide) (by decide)) bw244 bw160 bw161 bw87 bw162 kn_X7_place ⟨rfl, rfl, Nat.le_of_ble_eq_true rfl, Nat.le_of_ble_eq_true rfl⟩ (b_rec X hH 1 (by decide) (show (uX10_15 B e f g) 1 = eShf B 2 3 from he1) rfl) hH hS hz hl rfl (Nat.le_of_ble_eq_true rfl) dX10_init_83 ⟨Nat.le_of_ble_eq_true rfl, Nat.le_of_ble_eq_true rfl⟩) hS (fun H locs hH hS => ?_)
  have hH : bH B 47 (uX10_16 B e f g) H := hH
  refine b_putF (C := RX10) (T := TX10) (N := 10) X rfl hH hS 14 (by decide) (show (uX10_16 B e f g) 14 = .inr (11, [.ref (B.2.2.1 + 10), .ref (B.2.2.1 + 15), .ref (B.2.2.1 + 19), .ref (B.2.2.1 + 23), .ref (B.2.2.1 + 27), .ref (B.2.2.1 + 31), .ref (B.2.2.1 + 35), .ref (B.2.2.1 + 39), .null, .int 0]) from rfl) rfl inBX10 tyX10 tyX10_ok nmX10 8 (by decide) bw260 rfl rfl rfl rfl (Nat.le_of_ble_eq_true rfl) dX10_init_86 (fun H locs hH hS => ?_)
  have hH : bH B 47 (uX10_17 B e f g) H := hH
  refine lv_aload_n hx hb dX10_init_89 rfl (lv_at hl 0 rfl) ?_
  refine lv_iconst (v := 0) hx hb dX10_init_90 (by decide) ?_
  refine b_put (C := RX10) (T := TX10) (N := 10) X hH hS 14 (by decide) (show (uX10_17 B e f g) 14 = .inr (11, [.ref (B.2.2.1 + 10), .ref (B.2.2.1 + 15), .ref (B.2.2.1 + 19), .ref (B.2.2.1 + 23), .ref (B.2.2.1 + 27), .ref (B.2.2.1 + 31), .ref (B.2.2.1 + 35), .ref (B.2.2.1 + 39), .ref (B.2.2.1 + 43), .int 0]) from rfl) rfl inBX10 tyX10 tyX10_ok nmX10 9 (by decide) bw262 rfl rfl rfl (Nat.le_of_ble_eq_true rfl) dX10_init_91 (fun H locs hH hS => ?_)
  have hH : bH B 47 (uX10_18 B e f g) H := hH
  exact bEv X hH hS (Nat.le_of_ble_eq_true rfl) (Nat.le_of_ble_eq_true rfl) dX10_init_94
abbrev uX0_1 (B : BX) (e : Nat → va_E) : Nat → va_E := uE e 48 (.inr (6, [.null, .int 0]))
abbrev uX0_2 (B : BX) (e : Nat → va_E) : Nat → va_E := uE (uE (uX0_1 B e) 49 (eI B 72 (fun _ => 0))) 48 (eRow B 49)
abbrev uX0_3 (B : BX) (e : Nat → va_E) : Nat → va_E := uE (uX0_2 B e) 47 (.inr (1, [.int 0, .int 0, .int 0, .int 0, .int 0, .ref (B.2.2.1 + 48), .null, .null]))
abbrev uX0_4 (B : BX) (e : Nat → va_E) : Nat → va_E := uE (uX0_3 B e) 50 (.inr (6, [.null, .int 0]))
abbrev uX0_5 (B : BX) (e : Nat → va_E) : Nat → va_E := uE (uE (uX0_4 B e) 51 (eI B 72 (fun _ => 0))) 50 (eRow B 51)
abbrev uX0_6 (B : BX) (e : Nat → va_E) : Nat → va_E := uE (uX0_5 B e) 47 (.inr (1, [.int 0, .int 0, .int 0, .int 0, .int 0, .ref (B.2.2.1 + 48), .ref (B.2.2.1 + 50), .null]))
abbrev uX0_7 (B : BX) (e : Nat → va_E) : Nat → va_E := uE (uX0_6 B e) 52 (.inr (6, [.null, .int 0]))
abbrev uX0_8 (B : BX) (e : Nat → va_E) : Nat → va_E := uE (uE (uX0_7 B e) 53 (eI B 72 (fun _ => 0))) 52 (eRow B 53)
abbrev uX0_9 (B : BX) (e : Nat → va_E) : Nat → va_E := uE (uX0_8 B e) 47 (.inr (1, [.int 0, .int 0, .int 0, .int 0, .int 0, .ref (B.2.2.1 + 48), .ref (B.2.2.1 + 50), .ref (B.2.2.1 + 52)]))
set_option maxHeartbeats 4000000 in
set_option maxRecDepth 100000 in
theorem k_X0 (l : Launch) (B : BX) (e : Nat → va_E) (he47 : e 47 = .inr (1, [.int 0, .int 0, .int 0, .int 0, .int 0, .null, .null, .null])) : MBx l B yX0_init cX0_init 1 none (rmB 8 6 222 320) [.ref (B.2.2.1 + 47)] 48 e (BV B 54 (uX0_9 B e)) 6 222 := by
  refine bM_start (by decide +kernel) (Nat.le_of_ble_eq_true rfl) ?_
  intro p env s m below meth c ls X hH hl
  have hS : va_S (bA B) s.heap s.heap [] := va_S.rf
  have hx := X.1.1
  have hb := X.1.2.1
  have hl : lv_has ls 1 [(0, .ref (B.2.2.1 + 47))] := hl
  refine lv_aload_n hx hb dX0_init_0 rfl (lv_at hl 0 rfl) ?_
  refine b_obj X hl bw289 bw118 bw119 ⟨Nat.le_of_ble_eq_true rfl, Nat.le_of_ble_eq_true rfl⟩ dX0_init_1 ?_
  refine lv_aload_n hx hb dX0_init_4 rfl (lv_at hl 0 rfl) ?_
  refine b_new (ci := 6) (fs := [.null, .int 0]) X hH hS rfl rfl inBX5 tyX5 tyX5_ok bw290 bw164 bw91 (by decide) (Nat.le_of_ble_eq_true rfl) (Nat.le_of_ble_eq_true rfl) dX0_init_5 (fun H hH hS => ?_)
  have hH : bH B 49 (uX0_1 B e) H := hH
  refine lv_dup hx hb dX0_init_8 rfl ?_
  refine lv_bipush (v := 72) hx hb dX0_init_9 (by decide) ?_
  refine b_size X hH (by decide) rfl (fun hz => ?_)
  refine bGv (b_irun (rest := [.ref (B.2.2.1 + 48), .ref (B.2.2.1 + 47)]) X (k_row l B 49 (uX0_1 B e) 48 (by decide) .null (show (uX0_1 B e) 48 = eRow0 from rfl) 72 72 (by decide) (by decide) (by decide) (by decide)) rfl bw291 bw166 bw91 bw167 kn_X5_init ⟨rfl, rfl, Nat.le_of_ble_eq_true rfl, Nat.le_of_ble_eq_true rfl⟩ hH hS hz hl rfl (Nat.le_of_ble_eq_true rfl) dX0_init_11 ⟨Nat.le_of_ble_eq_true rfl, Nat.le_of_ble_eq_true rfl⟩) hS (fun H locs hH hS => ?_)
  have hH : bH B 50 (uX0_2 B e) H := hH
  refine b_putF (C := RX0) (T := TX0) (N := 8) X rfl hH hS 47 (by decide) (show (uX0_2 B e) 47 = .inr (1, [.int 0, .int 0, .int 0, .int 0, .int 0, .null, .null, .null]) from he47) rfl inBX0 tyX0 tyX0_ok nmX0 5 (by decide) bw302 rfl rfl rfl rfl (Nat.le_of_ble_eq_true rfl) dX0_init_14 (fun H locs hH hS => ?_)
  have hH : bH B 50 (uX0_3 B e) H := hH
  refine lv_aload_n hx hb dX0_init_17 rfl (lv_at hl 0 rfl) ?_
  refine b_new (ci := 6) (fs := [.null, .int 0]) X hH hS rfl rfl inBX5 tyX5 tyX5_ok bw290 bw164 bw91 (by decide) (Nat.le_of_ble_eq_true rfl) (Nat.le_of_ble_eq_true rfl) dX0_init_18 (fun H hH hS => ?_)
  have hH : bH B 51 (uX0_4 B e) H := hH
  refine lv_dup hx hb dX0_init_21 rfl ?_
  refine lv_bipush (v := 72) hx hb dX0_init_22 (by decide) ?_
  refine b_size X hH (by decide) rfl (fun hz => ?_)
  refine bGv (b_irun (rest := [.ref (B.2.2.1 + 50), .ref (B.2.2.1 + 47)]) X (k_row l B 51 (uX0_4 B e) 50 (by decide) .null (show (uX0_4 B e) 50 = eRow0 from rfl) 72 72 (by decide) (by decide) (by decide) (by decide)) rfl bw291 bw166 bw91 bw167 kn_X5_init ⟨rfl, rfl, Nat.le_of_ble_eq_true rfl, Nat.le_of_ble_eq_true rfl⟩ hH hS hz hl rfl (Nat.le_of_ble_eq_true rfl) dX0_init_24 ⟨Nat.le_of_ble_eq_true rfl, Nat.le_of_ble_eq_true rfl⟩) hS (fun H locs hH hS => ?_)
  have hH : bH B 52 (uX0_5 B e) H := hH
  refine b_putF (C := RX0) (T := TX0) (N := 8) X rfl hH hS 47 (by decide) (show (uX0_5 B e) 47 = .inr (1, [.int 0, .int 0, .int 0, .int 0, .int 0, .ref (B.2.2.1 + 48), .null, .null]) from rfl) rfl inBX0 tyX0 tyX0_ok nmX0 6 (by decide) bw304 rfl rfl rfl rfl (Nat.le_of_ble_eq_true rfl) dX0_init_27 (fun H locs hH hS => ?_)
  have hH : bH B 52 (uX0_6 B e) H := hH
  refine lv_aload_n hx hb dX0_init_30 rfl (lv_at hl 0 rfl) ?_
  refine b_new (ci := 6) (fs := [.null, .int 0]) X hH hS rfl rfl inBX5 tyX5 tyX5_ok bw290 bw164 bw91 (by decide) (Nat.le_of_ble_eq_true rfl) (Nat.le_of_ble_eq_true rfl) dX0_init_31 (fun H hH hS => ?_)
  have hH : bH B 53 (uX0_7 B e) H := hH
  refine lv_dup hx hb dX0_init_34 rfl ?_
  refine lv_bipush (v := 72) hx hb dX0_init_35 (by decide) ?_
  refine b_size X hH (by decide) rfl (fun hz => ?_)
  refine bGv (b_irun (rest := [.ref (B.2.2.1 + 52), .ref (B.2.2.1 + 47)]) X (k_row l B 53 (uX0_7 B e) 52 (by decide) .null (show (uX0_7 B e) 52 = eRow0 from rfl) 72 72 (by decide) (by decide) (by decide) (by decide)) rfl bw291 bw166 bw91 bw167 kn_X5_init ⟨rfl, rfl, Nat.le_of_ble_eq_true rfl, Nat.le_of_ble_eq_true rfl⟩ hH hS hz hl rfl (Nat.le_of_ble_eq_true rfl) dX0_init_37 ⟨Nat.le_of_ble_eq_true rfl, Nat.le_of_ble_eq_true rfl⟩) hS (fun H locs hH hS => ?_)
  have hH : bH B 54 (uX0_8 B e) H := hH
  refine b_putF (C := RX0) (T := TX0) (N := 8) X rfl hH hS 47 (by decide) (show (uX0_8 B e) 47 = .inr (1, [.int 0, .int 0, .int 0, .int 0, .int 0, .ref (B.2.2.1 + 48), .ref (B.2.2.1 + 50), .null]) from rfl) rfl inBX0 tyX0 tyX0_ok nmX0 7 (by decide) bw306 rfl rfl rfl rfl (Nat.le_of_ble_eq_true rfl) dX0_init_40 (fun H locs hH hS => ?_)
  have hH : bH B 54 (uX0_9 B e) H := hH
  exact bEv X hH hS (Nat.le_of_ble_eq_true rfl) (Nat.le_of_ble_eq_true rfl) dX0_init_43
abbrev uX9_1 (B : BX) (e : Nat → va_E) (f g : Nat → Option Nat) : Nat → va_E := uPlG B e 55 10 2 3 15 f g 10
abbrev faX9_1 (B : BX) (f : Nat → Option Nat) : Nat → Option Nat := (va_up (fCut f 10) 10 (some (B.2.2.1 + 55)))
abbrev fbX9_1 (B : BX) (g : Nat → Option Nat) : Nat → Option Nat := (va_up (fCut g 10) 10 (some (B.2.2.1 + (55 + 3))))
abbrev uX9_2 (B : BX) (e : Nat → va_E) (f g : Nat → Option Nat) : Nat → va_E := uE (uX9_1 B e f g) 54 (.inr (10, [.ref (B.2.2.1 + 55), .null]))
abbrev uX9_3 (B : BX) (e : Nat → va_E) (f g : Nat → Option Nat) : Nat → va_E := uPlN B (uX9_2 B e f g) 61 600 2 57 3 60 15 (faX9_1 B f) (fbX9_1 B g) 11
abbrev faX9_2 (B : BX) (f : Nat → Option Nat) : Nat → Option Nat := (va_up (faX9_1 B f) 11 (some (B.2.2.1 + 61)))
abbrev fbX9_2 (B : BX) (g : Nat → Option Nat) : Nat → Option Nat := (va_up (fbX9_1 B g) 11 (some (B.2.2.1 + (61 + 2))))
abbrev uX9_4 (B : BX) (e : Nat → va_E) (f g : Nat → Option Nat) : Nat → va_E := uE (uX9_3 B e f g) 54 (.inr (10, [.ref (B.2.2.1 + 55), .ref (B.2.2.1 + 61)]))
set_option maxHeartbeats 4000000 in
set_option maxRecDepth 100000 in
theorem k_X9 (l : Launch) (B : BX) (e : Nat → va_E) (f g : Nat → Option Nat) (he1 : e 1 = eShf B 2 3) (he2 : e 2 = eLst B 6 10) (he3 : e 3 = eLst B 9 10) (he6 : e 6 = eQ B 10 f) (he9 : e 9 = eQ B 10 g) (he54 : e 54 = .inr (10, [.null, .null])) (hrf55 : RWS B 55 e f) (hrg55 : RWS B 55 e g) : MBx l B yX9_init cX9_init 2 none (rmB 8 10 1258 320) [.ref (B.2.2.1 + 54), .ref (B.2.2.1 + 1)] 55 e (BV B 65 (uX9_4 B e f g)) 10 1258 := by
  refine bM_start (by decide +kernel) (Nat.le_of_ble_eq_true rfl) ?_
  intro p env s m below meth c ls X hH hl
  have hS : va_S (bA B) s.heap s.heap [] := va_S.rf
  have hx := X.1.1
  have hb := X.1.2.1
  have hl : lv_has ls 2 [(0, .ref (B.2.2.1 + 54)), (1, .ref (B.2.2.1 + 1))] := hl
  refine lv_aload_n hx hb dX9_init_0 rfl (lv_at hl 0 rfl) ?_
  refine b_obj X hl bw330 bw118 bw119 ⟨Nat.le_of_ble_eq_true rfl, Nat.le_of_ble_eq_true rfl⟩ dX9_init_1 ?_
  refine lv_aload_n hx hb dX9_init_4 rfl (lv_at hl 0 rfl) ?_
  refine lv_aload_n hx hb dX9_init_5 rfl (lv_at hl 1 rfl) ?_
  refine lv_bipush (v := 10) hx hb dX9_init_6 (by decide) ?_
  refine b_size X hH (by decide) rfl (fun hz => ?_)
  refine bGr (b_vrun (rest := [.ref (B.2.2.1 + 54)]) X (k_plG l B 55 e 1 2 3 6 9 (by decide) (by decide) (by decide) (by decide) (by decide) (by decide) (show e 1 = eShf B 2 3 from he1) 10 (show e 2 = eLst B 6 10 from he2) (show e 3 = eLst B 9 10 from he3) f g (show e 6 = eQ B 10 f from he6) (show e 9 = eQ B 10 g from he9) hrf55 hrg55 15 15 (by decide) (by decide) (by decide) (by decide) (by decide) (by decide) (by decide) (by decide) (by decide) 10 10 (by decide) (by decide) (by decide) (by decide)) bw331 bw160 bw161 bw87 bw162 kn_X7_place ⟨rfl, rfl, Nat.le_of_ble_eq_true rfl, Nat.le_of_ble_eq_true rfl⟩ (b_rec X hH 1 (by decide) (show e 1 = eShf B 2 3 from he1) rfl) hH hS hz hl rfl (Nat.le_of_ble_eq_true rfl) dX9_init_8 ⟨Nat.le_of_ble_eq_true rfl, Nat.le_of_ble_eq_true rfl⟩) hS (fun H locs hH hS => ?_)
  have hH : bH B 61 (uX9_1 B e f g) H := hH
  refine b_putF (C := RX9) (T := TX9) (N := 2) X rfl hH hS 54 (by decide) (show (uX9_1 B e f g) 54 = .inr (10, [.null, .null]) from he54) rfl inBX9 tyX9 tyX9_ok nmX9 0 (by decide) bw332 rfl rfl rfl rfl (Nat.le_of_ble_eq_true rfl) dX9_init_11 (fun H locs hH hS => ?_)
  have hH : bH B 61 (uX9_2 B e f g) H := hH
  refine lv_aload_n hx hb dX9_init_14 rfl (lv_at hl 0 rfl) ?_
  refine lv_aload_n hx hb dX9_init_15 rfl (lv_at hl 1 rfl) ?_
  refine lv_sipush (v := 600) hx hb dX9_init_16 (by decide) ?_
  refine b_size X hH (by decide) rfl (fun hz => ?_)
  refine bGr (b_vrun (rest := [.ref (B.2.2.1 + 54)]) X (k_plN l B 61 (uX9_2 B e f g) 1 2 3 57 60 (by decide) (by decide) (by decide) (by decide) (by decide) (by decide) (show (uX9_2 B e f g) 1 = eShf B 2 3 from he1) 11 (show (uX9_2 B e f g) 2 = eLst B 57 11 from rfl) (show (uX9_2 B e f g) 3 = eLst B 60 11 from rfl) 15 (by decide) (by decide) (faX9_1 B f) (fbX9_1 B g) (show (uX9_2 B e f g) 57 = eQ B 15 (faX9_1 B f) from rfl) (show (uX9_2 B e f g) 60 = eQ B 15 (fbX9_1 B g) from rfl) 600 600 (by decide) (by decide) (by decide) (by decide)) bw331 bw160 bw161 bw87 bw162 kn_X7_place ⟨rfl, rfl, Nat.le_of_ble_eq_true rfl, Nat.le_of_ble_eq_true rfl⟩ (b_rec X hH 1 (by decide) (show (uX9_2 B e f g) 1 = eShf B 2 3 from he1) rfl) hH hS hz hl rfl (Nat.le_of_ble_eq_true rfl) dX9_init_19 ⟨Nat.le_of_ble_eq_true rfl, Nat.le_of_ble_eq_true rfl⟩) hS (fun H locs hH hS => ?_)
  have hH : bH B 65 (uX9_3 B e f g) H := hH
  refine b_putF (C := RX9) (T := TX9) (N := 2) X rfl hH hS 54 (by decide) (show (uX9_3 B e f g) 54 = .inr (10, [.ref (B.2.2.1 + 55), .null]) from rfl) rfl inBX9 tyX9 tyX9_ok nmX9 1 (by decide) bw334 rfl rfl rfl rfl (Nat.le_of_ble_eq_true rfl) dX9_init_22 (fun H locs hH hS => ?_)
  have hH : bH B 65 (uX9_4 B e f g) H := hH
  exact bEv X hH hS (Nat.le_of_ble_eq_true rfl) (Nat.le_of_ble_eq_true rfl) dX9_init_25
abbrev uX8_1 (B : BX) (e : Nat → va_E) (f g : Nat → Option Nat) : Nat → va_E := uPlN B e 66 27 2 57 3 60 15 f g 12
abbrev faX8_1 (B : BX) (f : Nat → Option Nat) : Nat → Option Nat := (va_up f 12 (some (B.2.2.1 + 66)))
abbrev fbX8_1 (B : BX) (g : Nat → Option Nat) : Nat → Option Nat := (va_up g 12 (some (B.2.2.1 + (66 + 2))))
abbrev uX8_2 (B : BX) (e : Nat → va_E) (f g : Nat → Option Nat) : Nat → va_E := uE (uX8_1 B e f g) 65 (.inr (9, [.ref (B.2.2.1 + 66), .null, .null, .null, .null, .null]))
abbrev uX8_3 (B : BX) (e : Nat → va_E) (f g : Nat → Option Nat) : Nat → va_E := uPlN B (uX8_2 B e f g) 70 27 2 57 3 60 15 (faX8_1 B f) (fbX8_1 B g) 13
abbrev faX8_2 (B : BX) (f : Nat → Option Nat) : Nat → Option Nat := (va_up (faX8_1 B f) 13 (some (B.2.2.1 + 70)))
abbrev fbX8_2 (B : BX) (g : Nat → Option Nat) : Nat → Option Nat := (va_up (fbX8_1 B g) 13 (some (B.2.2.1 + (70 + 2))))
abbrev uX8_4 (B : BX) (e : Nat → va_E) (f g : Nat → Option Nat) : Nat → va_E := uE (uX8_3 B e f g) 65 (.inr (9, [.ref (B.2.2.1 + 66), .ref (B.2.2.1 + 70), .null, .null, .null, .null]))
abbrev uX8_5 (B : BX) (e : Nat → va_E) (f g : Nat → Option Nat) : Nat → va_E := uPlN B (uX8_4 B e f g) 74 27 2 57 3 60 15 (faX8_2 B f) (fbX8_2 B g) 14
abbrev faX8_3 (B : BX) (f : Nat → Option Nat) : Nat → Option Nat := (va_up (faX8_2 B f) 14 (some (B.2.2.1 + 74)))
abbrev fbX8_3 (B : BX) (g : Nat → Option Nat) : Nat → Option Nat := (va_up (fbX8_2 B g) 14 (some (B.2.2.1 + (74 + 2))))
abbrev uX8_6 (B : BX) (e : Nat → va_E) (f g : Nat → Option Nat) : Nat → va_E := uE (uX8_5 B e f g) 65 (.inr (9, [.ref (B.2.2.1 + 66), .ref (B.2.2.1 + 70), .ref (B.2.2.1 + 74), .null, .null, .null]))
abbrev uX8_7 (B : BX) (e : Nat → va_E) (f g : Nat → Option Nat) : Nat → va_E := uPlG B (uX8_6 B e f g) 78 20 2 3 22 (faX8_3 B f) (fbX8_3 B g) 15
abbrev faX8_4 (B : BX) (f : Nat → Option Nat) : Nat → Option Nat := (va_up (fCut (faX8_3 B f) 15) 15 (some (B.2.2.1 + 78)))
abbrev fbX8_4 (B : BX) (g : Nat → Option Nat) : Nat → Option Nat := (va_up (fCut (fbX8_3 B g) 15) 15 (some (B.2.2.1 + (78 + 3))))
abbrev uX8_8 (B : BX) (e : Nat → va_E) (f g : Nat → Option Nat) : Nat → va_E := uE (uX8_7 B e f g) 65 (.inr (9, [.ref (B.2.2.1 + 66), .ref (B.2.2.1 + 70), .ref (B.2.2.1 + 74), .ref (B.2.2.1 + 78), .null, .null]))
abbrev uX8_9 (B : BX) (e : Nat → va_E) (f g : Nat → Option Nat) : Nat → va_E := uPlN B (uX8_8 B e f g) 84 20 2 80 3 83 22 (faX8_4 B f) (fbX8_4 B g) 16
abbrev faX8_5 (B : BX) (f : Nat → Option Nat) : Nat → Option Nat := (va_up (faX8_4 B f) 16 (some (B.2.2.1 + 84)))
abbrev fbX8_5 (B : BX) (g : Nat → Option Nat) : Nat → Option Nat := (va_up (fbX8_4 B g) 16 (some (B.2.2.1 + (84 + 2))))
abbrev uX8_10 (B : BX) (e : Nat → va_E) (f g : Nat → Option Nat) : Nat → va_E := uE (uX8_9 B e f g) 65 (.inr (9, [.ref (B.2.2.1 + 66), .ref (B.2.2.1 + 70), .ref (B.2.2.1 + 74), .ref (B.2.2.1 + 78), .ref (B.2.2.1 + 84), .null]))
abbrev uX8_11 (B : BX) (e : Nat → va_E) (f g : Nat → Option Nat) : Nat → va_E := uPlN B (uX8_10 B e f g) 88 540 2 80 3 83 22 (faX8_5 B f) (fbX8_5 B g) 17
abbrev faX8_6 (B : BX) (f : Nat → Option Nat) : Nat → Option Nat := (va_up (faX8_5 B f) 17 (some (B.2.2.1 + 88)))
abbrev fbX8_6 (B : BX) (g : Nat → Option Nat) : Nat → Option Nat := (va_up (fbX8_5 B g) 17 (some (B.2.2.1 + (88 + 2))))
abbrev uX8_12 (B : BX) (e : Nat → va_E) (f g : Nat → Option Nat) : Nat → va_E := uE (uX8_11 B e f g) 65 (.inr (9, [.ref (B.2.2.1 + 66), .ref (B.2.2.1 + 70), .ref (B.2.2.1 + 74), .ref (B.2.2.1 + 78), .ref (B.2.2.1 + 84), .ref (B.2.2.1 + 88)]))
abbrev uX8_13 (B : BX) (e : Nat → va_E) (f g : Nat → Option Nat) : Nat → va_E := uE (uX8_12 B e f g) 67 (eI B 27 (fun t => if t < 27 then 2 else (fun _ => 0) t))
abbrev uX8_14 (B : BX) (e : Nat → va_E) (f g : Nat → Option Nat) : Nat → va_E := uE (uX8_13 B e f g) 67 (eI B 27 (upd (fun t => if t < 27 then 2 else (fun _ => 0) t) 26 1))
set_option maxHeartbeats 4000000 in
set_option maxRecDepth 100000 in
theorem k_X8 (l : Launch) (B : BX) (e : Nat → va_E) (f g : Nat → Option Nat) (he1 : e 1 = eShf B 2 3) (he2 : e 2 = eLst B 57 12) (he3 : e 3 = eLst B 60 12) (he57 : e 57 = eQ B 15 f) (he60 : e 60 = eQ B 15 g) (he65 : e 65 = .inr (9, [.null, .null, .null, .null, .null, .null])) (hrf78 : RWS B 78 (uX8_6 B e f g) (faX8_3 B f)) (hrg78 : RWS B 78 (uX8_6 B e f g) (fbX8_3 B g)) : MBx l B yX8_init cX8_init 2 none (rmB 8 26 1390 320) [.ref (B.2.2.1 + 65), .ref (B.2.2.1 + 1)] 66 e (BV B 92 (uX8_14 B e f g)) 26 1390 := by
  refine bM_start (by decide +kernel) (Nat.le_of_ble_eq_true rfl) ?_
  intro p env s m below meth c ls X hH hl
  have hS : va_S (bA B) s.heap s.heap [] := va_S.rf
  have hx := X.1.1
  have hb := X.1.2.1
  have hl : lv_has ls 2 [(0, .ref (B.2.2.1 + 65)), (1, .ref (B.2.2.1 + 1))] := hl
  refine lv_aload_n hx hb dX8_init_0 rfl (lv_at hl 0 rfl) ?_
  refine b_obj X hl bw345 bw118 bw119 ⟨Nat.le_of_ble_eq_true rfl, Nat.le_of_ble_eq_true rfl⟩ dX8_init_1 ?_
  refine lv_aload_n hx hb dX8_init_4 rfl (lv_at hl 0 rfl) ?_
  refine lv_aload_n hx hb dX8_init_5 rfl (lv_at hl 1 rfl) ?_
  refine lv_bipush (v := 27) hx hb dX8_init_6 (by decide) ?_
  refine b_size X hH (by decide) rfl (fun hz => ?_)
  refine bGr (b_vrun (rest := [.ref (B.2.2.1 + 65)]) X (k_plN l B 66 e 1 2 3 57 60 (by decide) (by decide) (by decide) (by decide) (by decide) (by decide) (show e 1 = eShf B 2 3 from he1) 12 (show e 2 = eLst B 57 12 from he2) (show e 3 = eLst B 60 12 from he3) 15 (by decide) (by decide) f g (show e 57 = eQ B 15 f from he57) (show e 60 = eQ B 15 g from he60) 27 27 (by decide) (by decide) (by decide) (by decide)) bw346 bw160 bw161 bw87 bw162 kn_X7_place ⟨rfl, rfl, Nat.le_of_ble_eq_true rfl, Nat.le_of_ble_eq_true rfl⟩ (b_rec X hH 1 (by decide) (show e 1 = eShf B 2 3 from he1) rfl) hH hS hz hl rfl (Nat.le_of_ble_eq_true rfl) dX8_init_8 ⟨Nat.le_of_ble_eq_true rfl, Nat.le_of_ble_eq_true rfl⟩) hS (fun H locs hH hS => ?_)
  have hH : bH B 70 (uX8_1 B e f g) H := hH
  refine b_putF (C := RX8) (T := TX8) (N := 6) X rfl hH hS 65 (by decide) (show (uX8_1 B e f g) 65 = .inr (9, [.null, .null, .null, .null, .null, .null]) from he65) rfl inBX8 tyX8 tyX8_ok nmX8 0 (by decide) bw355 rfl rfl rfl rfl (Nat.le_of_ble_eq_true rfl) dX8_init_11 (fun H locs hH hS => ?_)
  have hH : bH B 70 (uX8_2 B e f g) H := hH
  refine lv_aload_n hx hb dX8_init_14 rfl (lv_at hl 0 rfl) ?_
  refine lv_aload_n hx hb dX8_init_15 rfl (lv_at hl 1 rfl) ?_
  refine lv_bipush (v := 27) hx hb dX8_init_16 (by decide) ?_
  refine b_size X hH (by decide) rfl (fun hz => ?_)
  refine bGr (b_vrun (rest := [.ref (B.2.2.1 + 65)]) X (k_plN l B 70 (uX8_2 B e f g) 1 2 3 57 60 (by decide) (by decide) (by decide) (by decide) (by decide) (by decide) (show (uX8_2 B e f g) 1 = eShf B 2 3 from he1) 13 (show (uX8_2 B e f g) 2 = eLst B 57 13 from rfl) (show (uX8_2 B e f g) 3 = eLst B 60 13 from rfl) 15 (by decide) (by decide) (faX8_1 B f) (fbX8_1 B g) (show (uX8_2 B e f g) 57 = eQ B 15 (faX8_1 B f) from rfl) (show (uX8_2 B e f g) 60 = eQ B 15 (fbX8_1 B g) from rfl) 27 27 (by decide) (by decide) (by decide) (by decide)) bw346 bw160 bw161 bw87 bw162 kn_X7_place ⟨rfl, rfl, Nat.le_of_ble_eq_true rfl, Nat.le_of_ble_eq_true rfl⟩ (b_rec X hH 1 (by decide) (show (uX8_2 B e f g) 1 = eShf B 2 3 from he1) rfl) hH hS hz hl rfl (Nat.le_of_ble_eq_true rfl) dX8_init_18 ⟨Nat.le_of_ble_eq_true rfl, Nat.le_of_ble_eq_true rfl⟩) hS (fun H locs hH hS => ?_)
  have hH : bH B 74 (uX8_3 B e f g) H := hH
  refine b_putF (C := RX8) (T := TX8) (N := 6) X rfl hH hS 65 (by decide) (show (uX8_3 B e f g) 65 = .inr (9, [.ref (B.2.2.1 + 66), .null, .null, .null, .null, .null]) from rfl) rfl inBX8 tyX8 tyX8_ok nmX8 1 (by decide) bw357 rfl rfl rfl rfl (Nat.le_of_ble_eq_true rfl) dX8_init_21 (fun H locs hH hS => ?_)
  have hH : bH B 74 (uX8_4 B e f g) H := hH
  refine lv_aload_n hx hb dX8_init_24 rfl (lv_at hl 0 rfl) ?_
  refine lv_aload_n hx hb dX8_init_25 rfl (lv_at hl 1 rfl) ?_
  refine lv_bipush (v := 27) hx hb dX8_init_26 (by decide) ?_
  refine b_size X hH (by decide) rfl (fun hz => ?_)
  refine bGr (b_vrun (rest := [.ref (B.2.2.1 + 65)]) X (k_plN l B 74 (uX8_4 B e f g) 1 2 3 57 60 (by decide) (by decide) (by decide) (by decide) (by decide) (by decide) (show (uX8_4 B e f g) 1 = eShf B 2 3 from he1) 14 (show (uX8_4 B e f g) 2 = eLst B 57 14 from rfl) (show (uX8_4 B e f g) 3 = eLst B 60 14 from rfl) 15 (by decide) (by decide) (faX8_2 B f) (fbX8_2 B g) (show (uX8_4 B e f g) 57 = eQ B 15 (faX8_2 B f) from rfl) (show (uX8_4 B e f g) 60 = eQ B 15 (fbX8_2 B g) from rfl) 27 27 (by decide) (by decide) (by decide) (by decide)) bw346 bw160 bw161 bw87 bw162 kn_X7_place ⟨rfl, rfl, Nat.le_of_ble_eq_true rfl, Nat.le_of_ble_eq_true rfl⟩ (b_rec X hH 1 (by decide) (show (uX8_4 B e f g) 1 = eShf B 2 3 from he1) rfl) hH hS hz hl rfl (Nat.le_of_ble_eq_true rfl) dX8_init_28 ⟨Nat.le_of_ble_eq_true rfl, Nat.le_of_ble_eq_true rfl⟩) hS (fun H locs hH hS => ?_)
  have hH : bH B 78 (uX8_5 B e f g) H := hH
  refine b_putF (C := RX8) (T := TX8) (N := 6) X rfl hH hS 65 (by decide) (show (uX8_5 B e f g) 65 = .inr (9, [.ref (B.2.2.1 + 66), .ref (B.2.2.1 + 70), .null, .null, .null, .null]) from rfl) rfl inBX8 tyX8 tyX8_ok nmX8 2 (by decide) bw359 rfl rfl rfl rfl (Nat.le_of_ble_eq_true rfl) dX8_init_31 (fun H locs hH hS => ?_)
  have hH : bH B 78 (uX8_6 B e f g) H := hH
  refine lv_aload_n hx hb dX8_init_34 rfl (lv_at hl 0 rfl) ?_
  refine lv_aload_n hx hb dX8_init_35 rfl (lv_at hl 1 rfl) ?_
  refine lv_bipush (v := 20) hx hb dX8_init_36 (by decide) ?_
  refine b_size X hH (by decide) rfl (fun hz => ?_)
  refine bGr (b_vrun (rest := [.ref (B.2.2.1 + 65)]) X (k_plG l B 78 (uX8_6 B e f g) 1 2 3 57 60 (by decide) (by decide) (by decide) (by decide) (by decide) (by decide) (show (uX8_6 B e f g) 1 = eShf B 2 3 from he1) 15 (show (uX8_6 B e f g) 2 = eLst B 57 15 from rfl) (show (uX8_6 B e f g) 3 = eLst B 60 15 from rfl) (faX8_3 B f) (fbX8_3 B g) (show (uX8_6 B e f g) 57 = eQ B 15 (faX8_3 B f) from rfl) (show (uX8_6 B e f g) 60 = eQ B 15 (fbX8_3 B g) from rfl) hrf78 hrg78 22 22 (by decide) (by decide) (by decide) (by decide) (by decide) (by decide) (by decide) (by decide) (by decide) 20 20 (by decide) (by decide) (by decide) (by decide)) bw346 bw160 bw161 bw87 bw162 kn_X7_place ⟨rfl, rfl, Nat.le_of_ble_eq_true rfl, Nat.le_of_ble_eq_true rfl⟩ (b_rec X hH 1 (by decide) (show (uX8_6 B e f g) 1 = eShf B 2 3 from he1) rfl) hH hS hz hl rfl (Nat.le_of_ble_eq_true rfl) dX8_init_38 ⟨Nat.le_of_ble_eq_true rfl, Nat.le_of_ble_eq_true rfl⟩) hS (fun H locs hH hS => ?_)
  have hH : bH B 84 (uX8_7 B e f g) H := hH
  refine b_putF (C := RX8) (T := TX8) (N := 6) X rfl hH hS 65 (by decide) (show (uX8_7 B e f g) 65 = .inr (9, [.ref (B.2.2.1 + 66), .ref (B.2.2.1 + 70), .ref (B.2.2.1 + 74), .null, .null, .null]) from rfl) rfl inBX8 tyX8 tyX8_ok nmX8 3 (by decide) bw361 rfl rfl rfl rfl (Nat.le_of_ble_eq_true rfl) dX8_init_41 (fun H locs hH hS => ?_)
  have hH : bH B 84 (uX8_8 B e f g) H := hH
  refine lv_aload_n hx hb dX8_init_44 rfl (lv_at hl 0 rfl) ?_
  refine lv_aload_n hx hb dX8_init_45 rfl (lv_at hl 1 rfl) ?_
  refine lv_bipush (v := 20) hx hb dX8_init_46 (by decide) ?_
  refine b_size X hH (by decide) rfl (fun hz => ?_)
  refine bGr (b_vrun (rest := [.ref (B.2.2.1 + 65)]) X (k_plN l B 84 (uX8_8 B e f g) 1 2 3 80 83 (by decide) (by decide) (by decide) (by decide) (by decide) (by decide) (show (uX8_8 B e f g) 1 = eShf B 2 3 from he1) 16 (show (uX8_8 B e f g) 2 = eLst B 80 16 from rfl) (show (uX8_8 B e f g) 3 = eLst B 83 16 from rfl) 22 (by decide) (by decide) (faX8_4 B f) (fbX8_4 B g) (show (uX8_8 B e f g) 80 = eQ B 22 (faX8_4 B f) from rfl) (show (uX8_8 B e f g) 83 = eQ B 22 (fbX8_4 B g) from rfl) 20 20 (by decide) (by decide) (by decide) (by decide)) bw346 bw160 bw161 bw87 bw162 kn_X7_place ⟨rfl, rfl, Nat.le_of_ble_eq_true rfl, Nat.le_of_ble_eq_true rfl⟩ (b_rec X hH 1 (by decide) (show (uX8_8 B e f g) 1 = eShf B 2 3 from he1) rfl) hH hS hz hl rfl (Nat.le_of_ble_eq_true rfl) dX8_init_48 ⟨Nat.le_of_ble_eq_true rfl, Nat.le_of_ble_eq_true rfl⟩) hS (fun H locs hH hS => ?_)
  have hH : bH B 88 (uX8_9 B e f g) H := hH
  refine b_putF (C := RX8) (T := TX8) (N := 6) X rfl hH hS 65 (by decide) (show (uX8_9 B e f g) 65 = .inr (9, [.ref (B.2.2.1 + 66), .ref (B.2.2.1 + 70), .ref (B.2.2.1 + 74), .ref (B.2.2.1 + 78), .null, .null]) from rfl) rfl inBX8 tyX8 tyX8_ok nmX8 4 (by decide) bw363 rfl rfl rfl rfl (Nat.le_of_ble_eq_true rfl) dX8_init_51 (fun H locs hH hS => ?_)
  have hH : bH B 88 (uX8_10 B e f g) H := hH
  refine lv_aload_n hx hb dX8_init_54 rfl (lv_at hl 0 rfl) ?_
  refine lv_aload_n hx hb dX8_init_55 rfl (lv_at hl 1 rfl) ?_
  refine lv_sipush (v := 540) hx hb dX8_init_56 (by decide) ?_
  refine b_size X hH (by decide) rfl (fun hz => ?_)
  refine bGr (b_vrun (rest := [.ref (B.2.2.1 + 65)]) X (k_plN l B 88 (uX8_10 B e f g) 1 2 3 80 83 (by decide) (by decide) (by decide) (by decide) (by decide) (by decide) (show (uX8_10 B e f g) 1 = eShf B 2 3 from he1) 17 (show (uX8_10 B e f g) 2 = eLst B 80 17 from rfl) (show (uX8_10 B e f g) 3 = eLst B 83 17 from rfl) 22 (by decide) (by decide) (faX8_5 B f) (fbX8_5 B g) (show (uX8_10 B e f g) 80 = eQ B 22 (faX8_5 B f) from rfl) (show (uX8_10 B e f g) 83 = eQ B 22 (fbX8_5 B g) from rfl) 540 540 (by decide) (by decide) (by decide) (by decide)) bw346 bw160 bw161 bw87 bw162 kn_X7_place ⟨rfl, rfl, Nat.le_of_ble_eq_true rfl, Nat.le_of_ble_eq_true rfl⟩ (b_rec X hH 1 (by decide) (show (uX8_10 B e f g) 1 = eShf B 2 3 from he1) rfl) hH hS hz hl rfl (Nat.le_of_ble_eq_true rfl) dX8_init_59 ⟨Nat.le_of_ble_eq_true rfl, Nat.le_of_ble_eq_true rfl⟩) hS (fun H locs hH hS => ?_)
  have hH : bH B 92 (uX8_11 B e f g) H := hH
  refine b_putF (C := RX8) (T := TX8) (N := 6) X rfl hH hS 65 (by decide) (show (uX8_11 B e f g) 65 = .inr (9, [.ref (B.2.2.1 + 66), .ref (B.2.2.1 + 70), .ref (B.2.2.1 + 74), .ref (B.2.2.1 + 78), .ref (B.2.2.1 + 84), .null]) from rfl) rfl inBX8 tyX8 tyX8_ok nmX8 5 (by decide) bw364 rfl rfl rfl rfl (Nat.le_of_ble_eq_true rfl) dX8_init_62 (fun H locs hH hS => ?_)
  have hH : bH B 92 (uX8_12 B e f g) H := hH
  refine lv_aload_n hx hb dX8_init_65 rfl (lv_at hl 0 rfl) ?_
  refine b_get (C := RX8) (T := TX8) (N := 6) X hH 65 (by decide) (show (uX8_12 B e f g) 65 = .inr (9, [.ref (B.2.2.1 + 66), .ref (B.2.2.1 + 70), .ref (B.2.2.1 + 74), .ref (B.2.2.1 + 78), .ref (B.2.2.1 + 84), .ref (B.2.2.1 + 88)]) from rfl) rfl inBX8 0 (by decide) rfl bw355 dX8_init_66 ?_
  refine lv_iconst (v := 2) hx hb dX8_init_69 (by decide) ?_
  refine b_size X hH (by decide) rfl (fun hz => ?_)
  refine bGv (b_vrun (rest := []) X (k_fill l B 92 (uX8_12 B e f g) 66 67 (by decide) (by decide) (by decide) (.int 0) (show (uX8_12 B e f g) 66 = eRow B 67 from rfl) 27 (by decide) (fun _ => 0) (show (uX8_12 B e f g) 67 = eI B 27 (fun _ => 0) from rfl) 2) bw347 bw348 bw349 bw91 bw350 kn_X5_fill ⟨rfl, rfl, Nat.le_of_ble_eq_true rfl, Nat.le_of_ble_eq_true rfl⟩ (b_rec X hH 66 (by decide) (show (uX8_12 B e f g) 66 = eRow B 67 from rfl) rfl) hH hS hz hl rfl (Nat.le_of_ble_eq_true rfl) dX8_init_70 ⟨Nat.le_of_ble_eq_true rfl, Nat.le_of_ble_eq_true rfl⟩) hS (fun H locs hH hS => ?_)
  have hH : bH B 92 (uX8_13 B e f g) H := hH
  refine lv_aload_n hx hb dX8_init_73 rfl (lv_at hl 0 rfl) ?_
  refine b_get (C := RX8) (T := TX8) (N := 6) X hH 65 (by decide) (show (uX8_13 B e f g) 65 = .inr (9, [.ref (B.2.2.1 + 66), .ref (B.2.2.1 + 70), .ref (B.2.2.1 + 74), .ref (B.2.2.1 + 78), .ref (B.2.2.1 + 84), .ref (B.2.2.1 + 88)]) from rfl) rfl inBX8 0 (by decide) rfl bw355 dX8_init_74 ?_
  refine lv_bipush (v := 26) hx hb dX8_init_77 (by decide) ?_
  refine lv_iconst (v := 1) hx hb dX8_init_79 (by decide) ?_
  refine b_size X hH (by decide) rfl (fun hz => ?_)
  refine bGv (b_vrun (rest := []) X (k_put l B 92 (uX8_13 B e f g) 66 67 (by decide) (by decide) (.int 0) (show (uX8_13 B e f g) 66 = eRow B 67 from rfl) 27 (by decide) (fun t => if t < 27 then 2 else (fun _ => 0) t) (show (uX8_13 B e f g) 67 = eI B 27 (fun t => if t < 27 then 2 else (fun _ => 0) t) from rfl) 26 (by decide) 1) bw351 bw352 bw353 bw91 bw354 kn_X5_put ⟨rfl, rfl, Nat.le_of_ble_eq_true rfl, Nat.le_of_ble_eq_true rfl⟩ (b_rec X hH 66 (by decide) (show (uX8_13 B e f g) 66 = eRow B 67 from rfl) rfl) hH hS hz hl rfl (Nat.le_of_ble_eq_true rfl) dX8_init_80 ⟨Nat.le_of_ble_eq_true rfl, Nat.le_of_ble_eq_true rfl⟩) hS (fun H locs hH hS => ?_)
  have hH : bH B 92 (uX8_14 B e f g) H := hH
  exact bEv X hH hS (Nat.le_of_ble_eq_true rfl) (Nat.le_of_ble_eq_true rfl) dX8_init_83
abbrev uX6_1 (B : BX) (e : Nat → va_E) : Nat → va_E := uE e 92 (.inr (7, [.ref (B.2.2.1 + 47), .null, .null, .null, .null, .null, .null, .null, .null, .null, .null, .null, .int 0, .int 0, .int 0, .int 0]))
abbrev uX6_2 (B : BX) (e : Nat → va_E) : Nat → va_E := uE (uX6_1 B e) 92 (.inr (7, [.ref (B.2.2.1 + 47), .ref (B.2.2.1 + 66), .null, .null, .null, .null, .null, .null, .null, .null, .null, .null, .int 0, .int 0, .int 0, .int 0]))
abbrev uX6_3 (B : BX) (e : Nat → va_E) : Nat → va_E := uE (uX6_2 B e) 93 (.inr (6, [.null, .int 0]))
abbrev uX6_4 (B : BX) (e : Nat → va_E) : Nat → va_E := uE (uE (uX6_3 B e) 94 (eI B 60 (fun _ => 0))) 93 (eRow B 94)
abbrev uX6_5 (B : BX) (e : Nat → va_E) : Nat → va_E := uE (uX6_4 B e) 92 (.inr (7, [.ref (B.2.2.1 + 47), .ref (B.2.2.1 + 66), .ref (B.2.2.1 + 93), .null, .null, .null, .null, .null, .null, .null, .null, .null, .int 0, .int 0, .int 0, .int 0]))
abbrev uX6_6 (B : BX) (e : Nat → va_E) : Nat → va_E := uE (uX6_5 B e) 95 (.inr (6, [.null, .int 0]))
abbrev uX6_7 (B : BX) (e : Nat → va_E) : Nat → va_E := uE (uE (uX6_6 B e) 96 (eI B 60 (fun _ => 0))) 95 (eRow B 96)
abbrev uX6_8 (B : BX) (e : Nat → va_E) : Nat → va_E := uE (uX6_7 B e) 92 (.inr (7, [.ref (B.2.2.1 + 47), .ref (B.2.2.1 + 66), .ref (B.2.2.1 + 93), .ref (B.2.2.1 + 95), .null, .null, .null, .null, .null, .null, .null, .null, .int 0, .int 0, .int 0, .int 0]))
abbrev uX6_9 (B : BX) (e : Nat → va_E) : Nat → va_E := uE (uX6_8 B e) 97 (.inr (6, [.null, .int 0]))
abbrev uX6_10 (B : BX) (e : Nat → va_E) : Nat → va_E := uE (uE (uX6_9 B e) 98 (eI B 60 (fun _ => 0))) 97 (eRow B 98)
abbrev uX6_11 (B : BX) (e : Nat → va_E) : Nat → va_E := uE (uX6_10 B e) 92 (.inr (7, [.ref (B.2.2.1 + 47), .ref (B.2.2.1 + 66), .ref (B.2.2.1 + 93), .ref (B.2.2.1 + 95), .ref (B.2.2.1 + 97), .null, .null, .null, .null, .null, .null, .null, .int 0, .int 0, .int 0, .int 0]))
abbrev uX6_12 (B : BX) (e : Nat → va_E) : Nat → va_E := uE (uX6_11 B e) 99 (.inr (6, [.null, .int 0]))
abbrev uX6_13 (B : BX) (e : Nat → va_E) : Nat → va_E := uE (uE (uX6_12 B e) 100 (eI B 9 (fun _ => 0))) 99 (eRow B 100)
abbrev uX6_14 (B : BX) (e : Nat → va_E) : Nat → va_E := uE (uX6_13 B e) 92 (.inr (7, [.ref (B.2.2.1 + 47), .ref (B.2.2.1 + 66), .ref (B.2.2.1 + 93), .ref (B.2.2.1 + 95), .ref (B.2.2.1 + 97), .ref (B.2.2.1 + 99), .null, .null, .null, .null, .null, .null, .int 0, .int 0, .int 0, .int 0]))
abbrev uX6_15 (B : BX) (e : Nat → va_E) : Nat → va_E := uE (uX6_14 B e) 101 (.inr (6, [.null, .int 0]))
abbrev uX6_16 (B : BX) (e : Nat → va_E) : Nat → va_E := uE (uE (uX6_15 B e) 102 (eI B 9 (fun _ => 0))) 101 (eRow B 102)
abbrev uX6_17 (B : BX) (e : Nat → va_E) : Nat → va_E := uE (uX6_16 B e) 92 (.inr (7, [.ref (B.2.2.1 + 47), .ref (B.2.2.1 + 66), .ref (B.2.2.1 + 93), .ref (B.2.2.1 + 95), .ref (B.2.2.1 + 97), .ref (B.2.2.1 + 99), .ref (B.2.2.1 + 101), .null, .null, .null, .null, .null, .int 0, .int 0, .int 0, .int 0]))
abbrev uX6_18 (B : BX) (e : Nat → va_E) : Nat → va_E := uE (uX6_17 B e) 103 (.inr (6, [.null, .int 0]))
abbrev uX6_19 (B : BX) (e : Nat → va_E) : Nat → va_E := uE (uE (uX6_18 B e) 104 (eI B 9 (fun _ => 0))) 103 (eRow B 104)
abbrev uX6_20 (B : BX) (e : Nat → va_E) : Nat → va_E := uE (uX6_19 B e) 92 (.inr (7, [.ref (B.2.2.1 + 47), .ref (B.2.2.1 + 66), .ref (B.2.2.1 + 93), .ref (B.2.2.1 + 95), .ref (B.2.2.1 + 97), .ref (B.2.2.1 + 99), .ref (B.2.2.1 + 101), .ref (B.2.2.1 + 103), .null, .null, .null, .null, .int 0, .int 0, .int 0, .int 0]))
abbrev uX6_21 (B : BX) (e : Nat → va_E) : Nat → va_E := uE (uX6_20 B e) 105 (.inr (6, [.null, .int 0]))
abbrev uX6_22 (B : BX) (e : Nat → va_E) : Nat → va_E := uE (uE (uX6_21 B e) 106 (eI B 7503 (fun _ => 0))) 105 (eRow B 106)
abbrev uX6_23 (B : BX) (e : Nat → va_E) : Nat → va_E := uE (uX6_22 B e) 92 (.inr (7, [.ref (B.2.2.1 + 47), .ref (B.2.2.1 + 66), .ref (B.2.2.1 + 93), .ref (B.2.2.1 + 95), .ref (B.2.2.1 + 97), .ref (B.2.2.1 + 99), .ref (B.2.2.1 + 101), .ref (B.2.2.1 + 103), .ref (B.2.2.1 + 105), .null, .null, .null, .int 0, .int 0, .int 0, .int 0]))
abbrev uX6_24 (B : BX) (e : Nat → va_E) : Nat → va_E := uE (uX6_23 B e) 107 (.inr (6, [.null, .int 0]))
abbrev uX6_25 (B : BX) (e : Nat → va_E) : Nat → va_E := uE (uE (uX6_24 B e) 108 (eI B 61 (fun _ => 0))) 107 (eRow B 108)
abbrev uX6_26 (B : BX) (e : Nat → va_E) : Nat → va_E := uE (uX6_25 B e) 92 (.inr (7, [.ref (B.2.2.1 + 47), .ref (B.2.2.1 + 66), .ref (B.2.2.1 + 93), .ref (B.2.2.1 + 95), .ref (B.2.2.1 + 97), .ref (B.2.2.1 + 99), .ref (B.2.2.1 + 101), .ref (B.2.2.1 + 103), .ref (B.2.2.1 + 105), .ref (B.2.2.1 + 107), .null, .null, .int 0, .int 0, .int 0, .int 0]))
abbrev uX6_27 (B : BX) (e : Nat → va_E) : Nat → va_E := uE (uX6_26 B e) 109 (.inr (6, [.null, .int 0]))
abbrev uX6_28 (B : BX) (e : Nat → va_E) : Nat → va_E := uE (uE (uX6_27 B e) 110 (eI B 27 (fun _ => 0))) 109 (eRow B 110)
abbrev uX6_29 (B : BX) (e : Nat → va_E) : Nat → va_E := uE (uX6_28 B e) 92 (.inr (7, [.ref (B.2.2.1 + 47), .ref (B.2.2.1 + 66), .ref (B.2.2.1 + 93), .ref (B.2.2.1 + 95), .ref (B.2.2.1 + 97), .ref (B.2.2.1 + 99), .ref (B.2.2.1 + 101), .ref (B.2.2.1 + 103), .ref (B.2.2.1 + 105), .ref (B.2.2.1 + 107), .ref (B.2.2.1 + 109), .null, .int 0, .int 0, .int 0, .int 0]))
abbrev uX6_30 (B : BX) (e : Nat → va_E) : Nat → va_E := uE (uX6_29 B e) 111 (.inr (6, [.null, .int 0]))
abbrev uX6_31 (B : BX) (e : Nat → va_E) : Nat → va_E := uE (uE (uX6_30 B e) 112 (eI B 60 (fun _ => 0))) 111 (eRow B 112)
abbrev uX6_32 (B : BX) (e : Nat → va_E) : Nat → va_E := uE (uX6_31 B e) 92 (.inr (7, [.ref (B.2.2.1 + 47), .ref (B.2.2.1 + 66), .ref (B.2.2.1 + 93), .ref (B.2.2.1 + 95), .ref (B.2.2.1 + 97), .ref (B.2.2.1 + 99), .ref (B.2.2.1 + 101), .ref (B.2.2.1 + 103), .ref (B.2.2.1 + 105), .ref (B.2.2.1 + 107), .ref (B.2.2.1 + 109), .ref (B.2.2.1 + 111), .int 0, .int 0, .int 0, .int 0]))
set_option maxHeartbeats 4000000 in
set_option maxRecDepth 100000 in
theorem k_X6 (l : Launch) (B : BX) (e : Nat → va_E) (he92 : e 92 = .inr (7, [.null, .null, .null, .null, .null, .null, .null, .null, .null, .null, .null, .null, .int 0, .int 0, .int 0, .int 0])) : MBx l B yX6_init cX6_init 3 none (rmB 8 20 7878 320) [.ref (B.2.2.1 + 92), .ref (B.2.2.1 + 47), .ref (B.2.2.1 + 66)] 93 e (BV B 113 (uX6_32 B e)) 20 7878 := by
  refine bM_start (by decide +kernel) (Nat.le_of_ble_eq_true rfl) ?_
  intro p env s m below meth c ls X hH hl
  have hS : va_S (bA B) s.heap s.heap [] := va_S.rf
  have hx := X.1.1
  have hb := X.1.2.1
  have hl : lv_has ls 3 [(0, .ref (B.2.2.1 + 92)), (1, .ref (B.2.2.1 + 47)), (2, .ref (B.2.2.1 + 66))] := hl
  refine lv_aload_n hx hb dX6_init_0 rfl (lv_at hl 0 rfl) ?_
  refine b_obj X hl bw383 bw118 bw119 ⟨Nat.le_of_ble_eq_true rfl, Nat.le_of_ble_eq_true rfl⟩ dX6_init_1 ?_
  refine lv_aload_n hx hb dX6_init_4 rfl (lv_at hl 0 rfl) ?_
  refine lv_aload_n hx hb dX6_init_5 rfl (lv_at hl 1 rfl) ?_
  refine b_putF (C := RX6) (T := TX6) (N := 16) X rfl hH hS 92 (by decide) (show e 92 = .inr (7, [.null, .null, .null, .null, .null, .null, .null, .null, .null, .null, .null, .null, .int 0, .int 0, .int 0, .int 0]) from he92) rfl inBX6 tyX6 tyX6_ok nmX6 0 (by decide) bw386 rfl rfl rfl rfl (Nat.le_of_ble_eq_true rfl) dX6_init_6 (fun H locs hH hS => ?_)
  have hH : bH B 93 (uX6_1 B e) H := hH
  refine lv_aload_n hx hb dX6_init_9 rfl (lv_at hl 0 rfl) ?_
  refine lv_aload_n hx hb dX6_init_10 rfl (lv_at hl 2 rfl) ?_
  refine b_putF (C := RX6) (T := TX6) (N := 16) X rfl hH hS 92 (by decide) (show (uX6_1 B e) 92 = .inr (7, [.ref (B.2.2.1 + 47), .null, .null, .null, .null, .null, .null, .null, .null, .null, .null, .null, .int 0, .int 0, .int 0, .int 0]) from rfl) rfl inBX6 tyX6 tyX6_ok nmX6 1 (by decide) bw387 rfl rfl rfl rfl (Nat.le_of_ble_eq_true rfl) dX6_init_11 (fun H locs hH hS => ?_)
  have hH : bH B 93 (uX6_2 B e) H := hH
  refine lv_aload_n hx hb dX6_init_14 rfl (lv_at hl 0 rfl) ?_
  refine b_new (ci := 6) (fs := [.null, .int 0]) X hH hS rfl rfl inBX5 tyX5 tyX5_ok bw384 bw164 bw91 (by decide) (Nat.le_of_ble_eq_true rfl) (Nat.le_of_ble_eq_true rfl) dX6_init_15 (fun H hH hS => ?_)
  have hH : bH B 94 (uX6_3 B e) H := hH
  refine lv_dup hx hb dX6_init_18 rfl ?_
  refine lv_bipush (v := 60) hx hb dX6_init_19 (by decide) ?_
  refine b_size X hH (by decide) rfl (fun hz => ?_)
  refine bGv (b_irun (rest := [.ref (B.2.2.1 + 93), .ref (B.2.2.1 + 92)]) X (k_row l B 94 (uX6_3 B e) 93 (by decide) .null (show (uX6_3 B e) 93 = eRow0 from rfl) 60 60 (by decide) (by decide) (by decide) (by decide)) rfl bw385 bw166 bw91 bw167 kn_X5_init ⟨rfl, rfl, Nat.le_of_ble_eq_true rfl, Nat.le_of_ble_eq_true rfl⟩ hH hS hz hl rfl (Nat.le_of_ble_eq_true rfl) dX6_init_21 ⟨Nat.le_of_ble_eq_true rfl, Nat.le_of_ble_eq_true rfl⟩) hS (fun H locs hH hS => ?_)
  have hH : bH B 95 (uX6_4 B e) H := hH
  refine b_putF (C := RX6) (T := TX6) (N := 16) X rfl hH hS 92 (by decide) (show (uX6_4 B e) 92 = .inr (7, [.ref (B.2.2.1 + 47), .ref (B.2.2.1 + 66), .null, .null, .null, .null, .null, .null, .null, .null, .null, .null, .int 0, .int 0, .int 0, .int 0]) from rfl) rfl inBX6 tyX6 tyX6_ok nmX6 2 (by decide) bw388 rfl rfl rfl rfl (Nat.le_of_ble_eq_true rfl) dX6_init_24 (fun H locs hH hS => ?_)
  have hH : bH B 95 (uX6_5 B e) H := hH
  refine lv_aload_n hx hb dX6_init_27 rfl (lv_at hl 0 rfl) ?_
  refine b_new (ci := 6) (fs := [.null, .int 0]) X hH hS rfl rfl inBX5 tyX5 tyX5_ok bw384 bw164 bw91 (by decide) (Nat.le_of_ble_eq_true rfl) (Nat.le_of_ble_eq_true rfl) dX6_init_28 (fun H hH hS => ?_)
  have hH : bH B 96 (uX6_6 B e) H := hH
  refine lv_dup hx hb dX6_init_31 rfl ?_
  refine lv_bipush (v := 60) hx hb dX6_init_32 (by decide) ?_
  refine b_size X hH (by decide) rfl (fun hz => ?_)
  refine bGv (b_irun (rest := [.ref (B.2.2.1 + 95), .ref (B.2.2.1 + 92)]) X (k_row l B 96 (uX6_6 B e) 95 (by decide) .null (show (uX6_6 B e) 95 = eRow0 from rfl) 60 60 (by decide) (by decide) (by decide) (by decide)) rfl bw385 bw166 bw91 bw167 kn_X5_init ⟨rfl, rfl, Nat.le_of_ble_eq_true rfl, Nat.le_of_ble_eq_true rfl⟩ hH hS hz hl rfl (Nat.le_of_ble_eq_true rfl) dX6_init_34 ⟨Nat.le_of_ble_eq_true rfl, Nat.le_of_ble_eq_true rfl⟩) hS (fun H locs hH hS => ?_)
  have hH : bH B 97 (uX6_7 B e) H := hH
  refine b_putF (C := RX6) (T := TX6) (N := 16) X rfl hH hS 92 (by decide) (show (uX6_7 B e) 92 = .inr (7, [.ref (B.2.2.1 + 47), .ref (B.2.2.1 + 66), .ref (B.2.2.1 + 93), .null, .null, .null, .null, .null, .null, .null, .null, .null, .int 0, .int 0, .int 0, .int 0]) from rfl) rfl inBX6 tyX6 tyX6_ok nmX6 3 (by decide) bw390 rfl rfl rfl rfl (Nat.le_of_ble_eq_true rfl) dX6_init_37 (fun H locs hH hS => ?_)
  have hH : bH B 97 (uX6_8 B e) H := hH
  refine lv_aload_n hx hb dX6_init_40 rfl (lv_at hl 0 rfl) ?_
  refine b_new (ci := 6) (fs := [.null, .int 0]) X hH hS rfl rfl inBX5 tyX5 tyX5_ok bw384 bw164 bw91 (by decide) (Nat.le_of_ble_eq_true rfl) (Nat.le_of_ble_eq_true rfl) dX6_init_41 (fun H hH hS => ?_)
  have hH : bH B 98 (uX6_9 B e) H := hH
  refine lv_dup hx hb dX6_init_44 rfl ?_
  refine lv_bipush (v := 60) hx hb dX6_init_45 (by decide) ?_
  refine b_size X hH (by decide) rfl (fun hz => ?_)
  refine bGv (b_irun (rest := [.ref (B.2.2.1 + 97), .ref (B.2.2.1 + 92)]) X (k_row l B 98 (uX6_9 B e) 97 (by decide) .null (show (uX6_9 B e) 97 = eRow0 from rfl) 60 60 (by decide) (by decide) (by decide) (by decide)) rfl bw385 bw166 bw91 bw167 kn_X5_init ⟨rfl, rfl, Nat.le_of_ble_eq_true rfl, Nat.le_of_ble_eq_true rfl⟩ hH hS hz hl rfl (Nat.le_of_ble_eq_true rfl) dX6_init_47 ⟨Nat.le_of_ble_eq_true rfl, Nat.le_of_ble_eq_true rfl⟩) hS (fun H locs hH hS => ?_)
  have hH : bH B 99 (uX6_10 B e) H := hH
  refine b_putF (C := RX6) (T := TX6) (N := 16) X rfl hH hS 92 (by decide) (show (uX6_10 B e) 92 = .inr (7, [.ref (B.2.2.1 + 47), .ref (B.2.2.1 + 66), .ref (B.2.2.1 + 93), .ref (B.2.2.1 + 95), .null, .null, .null, .null, .null, .null, .null, .null, .int 0, .int 0, .int 0, .int 0]) from rfl) rfl inBX6 tyX6 tyX6_ok nmX6 4 (by decide) bw391 rfl rfl rfl rfl (Nat.le_of_ble_eq_true rfl) dX6_init_50 (fun H locs hH hS => ?_)
  have hH : bH B 99 (uX6_11 B e) H := hH
  refine lv_aload_n hx hb dX6_init_53 rfl (lv_at hl 0 rfl) ?_
  refine b_new (ci := 6) (fs := [.null, .int 0]) X hH hS rfl rfl inBX5 tyX5 tyX5_ok bw384 bw164 bw91 (by decide) (Nat.le_of_ble_eq_true rfl) (Nat.le_of_ble_eq_true rfl) dX6_init_54 (fun H hH hS => ?_)
  have hH : bH B 100 (uX6_12 B e) H := hH
  refine lv_dup hx hb dX6_init_57 rfl ?_
  refine lv_bipush (v := 9) hx hb dX6_init_58 (by decide) ?_
  refine b_size X hH (by decide) rfl (fun hz => ?_)
  refine bGv (b_irun (rest := [.ref (B.2.2.1 + 99), .ref (B.2.2.1 + 92)]) X (k_row l B 100 (uX6_12 B e) 99 (by decide) .null (show (uX6_12 B e) 99 = eRow0 from rfl) 9 9 (by decide) (by decide) (by decide) (by decide)) rfl bw385 bw166 bw91 bw167 kn_X5_init ⟨rfl, rfl, Nat.le_of_ble_eq_true rfl, Nat.le_of_ble_eq_true rfl⟩ hH hS hz hl rfl (Nat.le_of_ble_eq_true rfl) dX6_init_60 ⟨Nat.le_of_ble_eq_true rfl, Nat.le_of_ble_eq_true rfl⟩) hS (fun H locs hH hS => ?_)
  have hH : bH B 101 (uX6_13 B e) H := hH
  refine b_putF (C := RX6) (T := TX6) (N := 16) X rfl hH hS 92 (by decide) (show (uX6_13 B e) 92 = .inr (7, [.ref (B.2.2.1 + 47), .ref (B.2.2.1 + 66), .ref (B.2.2.1 + 93), .ref (B.2.2.1 + 95), .ref (B.2.2.1 + 97), .null, .null, .null, .null, .null, .null, .null, .int 0, .int 0, .int 0, .int 0]) from rfl) rfl inBX6 tyX6 tyX6_ok nmX6 5 (by decide) bw392 rfl rfl rfl rfl (Nat.le_of_ble_eq_true rfl) dX6_init_63 (fun H locs hH hS => ?_)
  have hH : bH B 101 (uX6_14 B e) H := hH
  refine lv_aload_n hx hb dX6_init_66 rfl (lv_at hl 0 rfl) ?_
  refine b_new (ci := 6) (fs := [.null, .int 0]) X hH hS rfl rfl inBX5 tyX5 tyX5_ok bw384 bw164 bw91 (by decide) (Nat.le_of_ble_eq_true rfl) (Nat.le_of_ble_eq_true rfl) dX6_init_67 (fun H hH hS => ?_)
  have hH : bH B 102 (uX6_15 B e) H := hH
  refine lv_dup hx hb dX6_init_70 rfl ?_
  refine lv_bipush (v := 9) hx hb dX6_init_71 (by decide) ?_
  refine b_size X hH (by decide) rfl (fun hz => ?_)
  refine bGv (b_irun (rest := [.ref (B.2.2.1 + 101), .ref (B.2.2.1 + 92)]) X (k_row l B 102 (uX6_15 B e) 101 (by decide) .null (show (uX6_15 B e) 101 = eRow0 from rfl) 9 9 (by decide) (by decide) (by decide) (by decide)) rfl bw385 bw166 bw91 bw167 kn_X5_init ⟨rfl, rfl, Nat.le_of_ble_eq_true rfl, Nat.le_of_ble_eq_true rfl⟩ hH hS hz hl rfl (Nat.le_of_ble_eq_true rfl) dX6_init_73 ⟨Nat.le_of_ble_eq_true rfl, Nat.le_of_ble_eq_true rfl⟩) hS (fun H locs hH hS => ?_)
  have hH : bH B 103 (uX6_16 B e) H := hH
  refine b_putF (C := RX6) (T := TX6) (N := 16) X rfl hH hS 92 (by decide) (show (uX6_16 B e) 92 = .inr (7, [.ref (B.2.2.1 + 47), .ref (B.2.2.1 + 66), .ref (B.2.2.1 + 93), .ref (B.2.2.1 + 95), .ref (B.2.2.1 + 97), .ref (B.2.2.1 + 99), .null, .null, .null, .null, .null, .null, .int 0, .int 0, .int 0, .int 0]) from rfl) rfl inBX6 tyX6 tyX6_ok nmX6 6 (by decide) bw393 rfl rfl rfl rfl (Nat.le_of_ble_eq_true rfl) dX6_init_76 (fun H locs hH hS => ?_)
  have hH : bH B 103 (uX6_17 B e) H := hH
  refine lv_aload_n hx hb dX6_init_79 rfl (lv_at hl 0 rfl) ?_
  refine b_new (ci := 6) (fs := [.null, .int 0]) X hH hS rfl rfl inBX5 tyX5 tyX5_ok bw384 bw164 bw91 (by decide) (Nat.le_of_ble_eq_true rfl) (Nat.le_of_ble_eq_true rfl) dX6_init_80 (fun H hH hS => ?_)
  have hH : bH B 104 (uX6_18 B e) H := hH
  refine lv_dup hx hb dX6_init_83 rfl ?_
  refine lv_bipush (v := 9) hx hb dX6_init_84 (by decide) ?_
  refine b_size X hH (by decide) rfl (fun hz => ?_)
  refine bGv (b_irun (rest := [.ref (B.2.2.1 + 103), .ref (B.2.2.1 + 92)]) X (k_row l B 104 (uX6_18 B e) 103 (by decide) .null (show (uX6_18 B e) 103 = eRow0 from rfl) 9 9 (by decide) (by decide) (by decide) (by decide)) rfl bw385 bw166 bw91 bw167 kn_X5_init ⟨rfl, rfl, Nat.le_of_ble_eq_true rfl, Nat.le_of_ble_eq_true rfl⟩ hH hS hz hl rfl (Nat.le_of_ble_eq_true rfl) dX6_init_86 ⟨Nat.le_of_ble_eq_true rfl, Nat.le_of_ble_eq_true rfl⟩) hS (fun H locs hH hS => ?_)
  have hH : bH B 105 (uX6_19 B e) H := hH
  refine b_putF (C := RX6) (T := TX6) (N := 16) X rfl hH hS 92 (by decide) (show (uX6_19 B e) 92 = .inr (7, [.ref (B.2.2.1 + 47), .ref (B.2.2.1 + 66), .ref (B.2.2.1 + 93), .ref (B.2.2.1 + 95), .ref (B.2.2.1 + 97), .ref (B.2.2.1 + 99), .ref (B.2.2.1 + 101), .null, .null, .null, .null, .null, .int 0, .int 0, .int 0, .int 0]) from rfl) rfl inBX6 tyX6 tyX6_ok nmX6 7 (by decide) bw394 rfl rfl rfl rfl (Nat.le_of_ble_eq_true rfl) dX6_init_89 (fun H locs hH hS => ?_)
  have hH : bH B 105 (uX6_20 B e) H := hH
  refine lv_aload_n hx hb dX6_init_92 rfl (lv_at hl 0 rfl) ?_
  refine b_new (ci := 6) (fs := [.null, .int 0]) X hH hS rfl rfl inBX5 tyX5 tyX5_ok bw384 bw164 bw91 (by decide) (Nat.le_of_ble_eq_true rfl) (Nat.le_of_ble_eq_true rfl) dX6_init_93 (fun H hH hS => ?_)
  have hH : bH B 106 (uX6_21 B e) H := hH
  refine lv_dup hx hb dX6_init_96 rfl ?_
  refine lv_sipush (v := 7503) hx hb dX6_init_97 (by decide) ?_
  refine b_size X hH (by decide) rfl (fun hz => ?_)
  refine bGv (b_irun (rest := [.ref (B.2.2.1 + 105), .ref (B.2.2.1 + 92)]) X (k_row l B 106 (uX6_21 B e) 105 (by decide) .null (show (uX6_21 B e) 105 = eRow0 from rfl) 7503 7503 (by decide) (by decide) (by decide) (by decide)) rfl bw385 bw166 bw91 bw167 kn_X5_init ⟨rfl, rfl, Nat.le_of_ble_eq_true rfl, Nat.le_of_ble_eq_true rfl⟩ hH hS hz hl rfl (Nat.le_of_ble_eq_true rfl) dX6_init_100 ⟨Nat.le_of_ble_eq_true rfl, Nat.le_of_ble_eq_true rfl⟩) hS (fun H locs hH hS => ?_)
  have hH : bH B 107 (uX6_22 B e) H := hH
  refine b_putF (C := RX6) (T := TX6) (N := 16) X rfl hH hS 92 (by decide) (show (uX6_22 B e) 92 = .inr (7, [.ref (B.2.2.1 + 47), .ref (B.2.2.1 + 66), .ref (B.2.2.1 + 93), .ref (B.2.2.1 + 95), .ref (B.2.2.1 + 97), .ref (B.2.2.1 + 99), .ref (B.2.2.1 + 101), .ref (B.2.2.1 + 103), .null, .null, .null, .null, .int 0, .int 0, .int 0, .int 0]) from rfl) rfl inBX6 tyX6 tyX6_ok nmX6 8 (by decide) bw395 rfl rfl rfl rfl (Nat.le_of_ble_eq_true rfl) dX6_init_103 (fun H locs hH hS => ?_)
  have hH : bH B 107 (uX6_23 B e) H := hH
  refine lv_aload_n hx hb dX6_init_106 rfl (lv_at hl 0 rfl) ?_
  refine b_new (ci := 6) (fs := [.null, .int 0]) X hH hS rfl rfl inBX5 tyX5 tyX5_ok bw384 bw164 bw91 (by decide) (Nat.le_of_ble_eq_true rfl) (Nat.le_of_ble_eq_true rfl) dX6_init_107 (fun H hH hS => ?_)
  have hH : bH B 108 (uX6_24 B e) H := hH
  refine lv_dup hx hb dX6_init_110 rfl ?_
  refine lv_bipush (v := 61) hx hb dX6_init_111 (by decide) ?_
  refine b_size X hH (by decide) rfl (fun hz => ?_)
  refine bGv (b_irun (rest := [.ref (B.2.2.1 + 107), .ref (B.2.2.1 + 92)]) X (k_row l B 108 (uX6_24 B e) 107 (by decide) .null (show (uX6_24 B e) 107 = eRow0 from rfl) 61 61 (by decide) (by decide) (by decide) (by decide)) rfl bw385 bw166 bw91 bw167 kn_X5_init ⟨rfl, rfl, Nat.le_of_ble_eq_true rfl, Nat.le_of_ble_eq_true rfl⟩ hH hS hz hl rfl (Nat.le_of_ble_eq_true rfl) dX6_init_113 ⟨Nat.le_of_ble_eq_true rfl, Nat.le_of_ble_eq_true rfl⟩) hS (fun H locs hH hS => ?_)
  have hH : bH B 109 (uX6_25 B e) H := hH
  refine b_putF (C := RX6) (T := TX6) (N := 16) X rfl hH hS 92 (by decide) (show (uX6_25 B e) 92 = .inr (7, [.ref (B.2.2.1 + 47), .ref (B.2.2.1 + 66), .ref (B.2.2.1 + 93), .ref (B.2.2.1 + 95), .ref (B.2.2.1 + 97), .ref (B.2.2.1 + 99), .ref (B.2.2.1 + 101), .ref (B.2.2.1 + 103), .ref (B.2.2.1 + 105), .null, .null, .null, .int 0, .int 0, .int 0, .int 0]) from rfl) rfl inBX6 tyX6 tyX6_ok nmX6 9 (by decide) bw396 rfl rfl rfl rfl (Nat.le_of_ble_eq_true rfl) dX6_init_116 (fun H locs hH hS => ?_)
  have hH : bH B 109 (uX6_26 B e) H := hH
  refine lv_aload_n hx hb dX6_init_119 rfl (lv_at hl 0 rfl) ?_
  refine b_new (ci := 6) (fs := [.null, .int 0]) X hH hS rfl rfl inBX5 tyX5 tyX5_ok bw384 bw164 bw91 (by decide) (Nat.le_of_ble_eq_true rfl) (Nat.le_of_ble_eq_true rfl) dX6_init_120 (fun H hH hS => ?_)
  have hH : bH B 110 (uX6_27 B e) H := hH
  refine lv_dup hx hb dX6_init_123 rfl ?_
  refine lv_bipush (v := 27) hx hb dX6_init_124 (by decide) ?_
  refine b_size X hH (by decide) rfl (fun hz => ?_)
  refine bGv (b_irun (rest := [.ref (B.2.2.1 + 109), .ref (B.2.2.1 + 92)]) X (k_row l B 110 (uX6_27 B e) 109 (by decide) .null (show (uX6_27 B e) 109 = eRow0 from rfl) 27 27 (by decide) (by decide) (by decide) (by decide)) rfl bw385 bw166 bw91 bw167 kn_X5_init ⟨rfl, rfl, Nat.le_of_ble_eq_true rfl, Nat.le_of_ble_eq_true rfl⟩ hH hS hz hl rfl (Nat.le_of_ble_eq_true rfl) dX6_init_126 ⟨Nat.le_of_ble_eq_true rfl, Nat.le_of_ble_eq_true rfl⟩) hS (fun H locs hH hS => ?_)
  have hH : bH B 111 (uX6_28 B e) H := hH
  refine b_putF (C := RX6) (T := TX6) (N := 16) X rfl hH hS 92 (by decide) (show (uX6_28 B e) 92 = .inr (7, [.ref (B.2.2.1 + 47), .ref (B.2.2.1 + 66), .ref (B.2.2.1 + 93), .ref (B.2.2.1 + 95), .ref (B.2.2.1 + 97), .ref (B.2.2.1 + 99), .ref (B.2.2.1 + 101), .ref (B.2.2.1 + 103), .ref (B.2.2.1 + 105), .ref (B.2.2.1 + 107), .null, .null, .int 0, .int 0, .int 0, .int 0]) from rfl) rfl inBX6 tyX6 tyX6_ok nmX6 10 (by decide) bw398 rfl rfl rfl rfl (Nat.le_of_ble_eq_true rfl) dX6_init_129 (fun H locs hH hS => ?_)
  have hH : bH B 111 (uX6_29 B e) H := hH
  refine lv_aload_n hx hb dX6_init_132 rfl (lv_at hl 0 rfl) ?_
  refine b_new (ci := 6) (fs := [.null, .int 0]) X hH hS rfl rfl inBX5 tyX5 tyX5_ok bw384 bw164 bw91 (by decide) (Nat.le_of_ble_eq_true rfl) (Nat.le_of_ble_eq_true rfl) dX6_init_133 (fun H hH hS => ?_)
  have hH : bH B 112 (uX6_30 B e) H := hH
  refine lv_dup hx hb dX6_init_136 rfl ?_
  refine lv_bipush (v := 60) hx hb dX6_init_137 (by decide) ?_
  refine b_size X hH (by decide) rfl (fun hz => ?_)
  refine bGv (b_irun (rest := [.ref (B.2.2.1 + 111), .ref (B.2.2.1 + 92)]) X (k_row l B 112 (uX6_30 B e) 111 (by decide) .null (show (uX6_30 B e) 111 = eRow0 from rfl) 60 60 (by decide) (by decide) (by decide) (by decide)) rfl bw385 bw166 bw91 bw167 kn_X5_init ⟨rfl, rfl, Nat.le_of_ble_eq_true rfl, Nat.le_of_ble_eq_true rfl⟩ hH hS hz hl rfl (Nat.le_of_ble_eq_true rfl) dX6_init_139 ⟨Nat.le_of_ble_eq_true rfl, Nat.le_of_ble_eq_true rfl⟩) hS (fun H locs hH hS => ?_)
  have hH : bH B 113 (uX6_31 B e) H := hH
  refine b_putF (C := RX6) (T := TX6) (N := 16) X rfl hH hS 92 (by decide) (show (uX6_31 B e) 92 = .inr (7, [.ref (B.2.2.1 + 47), .ref (B.2.2.1 + 66), .ref (B.2.2.1 + 93), .ref (B.2.2.1 + 95), .ref (B.2.2.1 + 97), .ref (B.2.2.1 + 99), .ref (B.2.2.1 + 101), .ref (B.2.2.1 + 103), .ref (B.2.2.1 + 105), .ref (B.2.2.1 + 107), .ref (B.2.2.1 + 109), .null, .int 0, .int 0, .int 0, .int 0]) from rfl) rfl inBX6 tyX6 tyX6_ok nmX6 11 (by decide) bw400 rfl rfl rfl rfl (Nat.le_of_ble_eq_true rfl) dX6_init_142 (fun H locs hH hS => ?_)
  have hH : bH B 113 (uX6_32 B e) H := hH
  exact bEv X hH hS (Nat.le_of_ble_eq_true rfl) (Nat.le_of_ble_eq_true rfl) dX6_init_145
abbrev uX4_1 (B : BX) (e : Nat → va_E) (f g : Nat → Option Nat) : Nat → va_E := uPlN B e 114 4 2 80 3 83 22 f g 18
abbrev faX4_1 (B : BX) (f : Nat → Option Nat) : Nat → Option Nat := (va_up f 18 (some (B.2.2.1 + 114)))
abbrev fbX4_1 (B : BX) (g : Nat → Option Nat) : Nat → Option Nat := (va_up g 18 (some (B.2.2.1 + (114 + 2))))
abbrev uX4_2 (B : BX) (e : Nat → va_E) (f g : Nat → Option Nat) : Nat → va_E := uE (uX4_1 B e f g) 113 (.inr (5, [.ref (B.2.2.1 + 114), .null, .null, .null, .null]))
abbrev uX4_3 (B : BX) (e : Nat → va_E) (f g : Nat → Option Nat) : Nat → va_E := uPlN B (uX4_2 B e f g) 118 4 2 80 3 83 22 (faX4_1 B f) (fbX4_1 B g) 19
abbrev faX4_2 (B : BX) (f : Nat → Option Nat) : Nat → Option Nat := (va_up (faX4_1 B f) 19 (some (B.2.2.1 + 118)))
abbrev fbX4_2 (B : BX) (g : Nat → Option Nat) : Nat → Option Nat := (va_up (fbX4_1 B g) 19 (some (B.2.2.1 + (118 + 2))))
abbrev uX4_4 (B : BX) (e : Nat → va_E) (f g : Nat → Option Nat) : Nat → va_E := uE (uX4_3 B e f g) 113 (.inr (5, [.ref (B.2.2.1 + 114), .ref (B.2.2.1 + 118), .null, .null, .null]))
abbrev uX4_5 (B : BX) (e : Nat → va_E) (f g : Nat → Option Nat) : Nat → va_E := uPlN B (uX4_4 B e f g) 122 12 2 80 3 83 22 (faX4_2 B f) (fbX4_2 B g) 20
abbrev faX4_3 (B : BX) (f : Nat → Option Nat) : Nat → Option Nat := (va_up (faX4_2 B f) 20 (some (B.2.2.1 + 122)))
abbrev fbX4_3 (B : BX) (g : Nat → Option Nat) : Nat → Option Nat := (va_up (fbX4_2 B g) 20 (some (B.2.2.1 + (122 + 2))))
abbrev uX4_6 (B : BX) (e : Nat → va_E) (f g : Nat → Option Nat) : Nat → va_E := uE (uX4_5 B e f g) 113 (.inr (5, [.ref (B.2.2.1 + 114), .ref (B.2.2.1 + 118), .ref (B.2.2.1 + 122), .null, .null]))
abbrev uX4_7 (B : BX) (e : Nat → va_E) (f g : Nat → Option Nat) : Nat → va_E := uPlN B (uX4_6 B e f g) 126 12 2 80 3 83 22 (faX4_3 B f) (fbX4_3 B g) 21
abbrev faX4_4 (B : BX) (f : Nat → Option Nat) : Nat → Option Nat := (va_up (faX4_3 B f) 21 (some (B.2.2.1 + 126)))
abbrev fbX4_4 (B : BX) (g : Nat → Option Nat) : Nat → Option Nat := (va_up (fbX4_3 B g) 21 (some (B.2.2.1 + (126 + 2))))
abbrev uX4_8 (B : BX) (e : Nat → va_E) (f g : Nat → Option Nat) : Nat → va_E := uE (uX4_7 B e f g) 113 (.inr (5, [.ref (B.2.2.1 + 114), .ref (B.2.2.1 + 118), .ref (B.2.2.1 + 122), .ref (B.2.2.1 + 126), .null]))
abbrev uX4_9 (B : BX) (e : Nat → va_E) (f g : Nat → Option Nat) : Nat → va_E := uPlG B (uX4_8 B e f g) 130 12 2 3 33 (faX4_4 B f) (fbX4_4 B g) 22
abbrev faX4_5 (B : BX) (f : Nat → Option Nat) : Nat → Option Nat := (va_up (fCut (faX4_4 B f) 22) 22 (some (B.2.2.1 + 130)))
abbrev fbX4_5 (B : BX) (g : Nat → Option Nat) : Nat → Option Nat := (va_up (fCut (fbX4_4 B g) 22) 22 (some (B.2.2.1 + (130 + 3))))
abbrev uX4_10 (B : BX) (e : Nat → va_E) (f g : Nat → Option Nat) : Nat → va_E := uE (uX4_9 B e f g) 113 (.inr (5, [.ref (B.2.2.1 + 114), .ref (B.2.2.1 + 118), .ref (B.2.2.1 + 122), .ref (B.2.2.1 + 126), .ref (B.2.2.1 + 130)]))
set_option maxHeartbeats 4000000 in
set_option maxRecDepth 100000 in
theorem k_X4 (l : Launch) (B : BX) (e : Nat → va_E) (f g : Nat → Option Nat) (he1 : e 1 = eShf B 2 3) (he2 : e 2 = eLst B 80 18) (he3 : e 3 = eLst B 83 18) (he80 : e 80 = eQ B 22 f) (he83 : e 83 = eQ B 22 g) (he113 : e 113 = .inr (5, [.null, .null, .null, .null, .null])) (hrf130 : RWS B 130 (uX4_8 B e f g) (faX4_4 B f)) (hrg130 : RWS B 130 (uX4_8 B e f g) (fbX4_4 B g)) : MBx l B yX4_init cX4_init 2 none (rmB 8 22 174 320) [.ref (B.2.2.1 + 113), .ref (B.2.2.1 + 1)] 114 e (BV B 136 (uX4_10 B e f g)) 22 174 := by
  refine bM_start (by decide +kernel) (Nat.le_of_ble_eq_true rfl) ?_
  intro p env s m below meth c ls X hH hl
  have hS : va_S (bA B) s.heap s.heap [] := va_S.rf
  have hx := X.1.1
  have hb := X.1.2.1
  have hl : lv_has ls 2 [(0, .ref (B.2.2.1 + 113)), (1, .ref (B.2.2.1 + 1))] := hl
  refine lv_aload_n hx hb dX4_init_0 rfl (lv_at hl 0 rfl) ?_
  refine b_obj X hl bw446 bw118 bw119 ⟨Nat.le_of_ble_eq_true rfl, Nat.le_of_ble_eq_true rfl⟩ dX4_init_1 ?_
  refine lv_aload_n hx hb dX4_init_4 rfl (lv_at hl 0 rfl) ?_
  refine lv_aload_n hx hb dX4_init_5 rfl (lv_at hl 1 rfl) ?_
  refine lv_iconst (v := 4) hx hb dX4_init_6 (by decide) ?_
  refine b_size X hH (by decide) rfl (fun hz => ?_)
  refine bGr (b_vrun (rest := [.ref (B.2.2.1 + 113)]) X (k_plN l B 114 e 1 2 3 80 83 (by decide) (by decide) (by decide) (by decide) (by decide) (by decide) (show e 1 = eShf B 2 3 from he1) 18 (show e 2 = eLst B 80 18 from he2) (show e 3 = eLst B 83 18 from he3) 22 (by decide) (by decide) f g (show e 80 = eQ B 22 f from he80) (show e 83 = eQ B 22 g from he83) 4 4 (by decide) (by decide) (by decide) (by decide)) bw447 bw160 bw161 bw87 bw162 kn_X7_place ⟨rfl, rfl, Nat.le_of_ble_eq_true rfl, Nat.le_of_ble_eq_true rfl⟩ (b_rec X hH 1 (by decide) (show e 1 = eShf B 2 3 from he1) rfl) hH hS hz hl rfl (Nat.le_of_ble_eq_true rfl) dX4_init_7 ⟨Nat.le_of_ble_eq_true rfl, Nat.le_of_ble_eq_true rfl⟩) hS (fun H locs hH hS => ?_)
  have hH : bH B 118 (uX4_1 B e f g) H := hH
  refine b_putF (C := RX4) (T := TX4) (N := 5) X rfl hH hS 113 (by decide) (show (uX4_1 B e f g) 113 = .inr (5, [.null, .null, .null, .null, .null]) from he113) rfl inBX4 tyX4 tyX4_ok nmX4 0 (by decide) bw448 rfl rfl rfl rfl (Nat.le_of_ble_eq_true rfl) dX4_init_10 (fun H locs hH hS => ?_)
  have hH : bH B 118 (uX4_2 B e f g) H := hH
  refine lv_aload_n hx hb dX4_init_13 rfl (lv_at hl 0 rfl) ?_
  refine lv_aload_n hx hb dX4_init_14 rfl (lv_at hl 1 rfl) ?_
  refine lv_iconst (v := 4) hx hb dX4_init_15 (by decide) ?_
  refine b_size X hH (by decide) rfl (fun hz => ?_)
  refine bGr (b_vrun (rest := [.ref (B.2.2.1 + 113)]) X (k_plN l B 118 (uX4_2 B e f g) 1 2 3 80 83 (by decide) (by decide) (by decide) (by decide) (by decide) (by decide) (show (uX4_2 B e f g) 1 = eShf B 2 3 from he1) 19 (show (uX4_2 B e f g) 2 = eLst B 80 19 from rfl) (show (uX4_2 B e f g) 3 = eLst B 83 19 from rfl) 22 (by decide) (by decide) (faX4_1 B f) (fbX4_1 B g) (show (uX4_2 B e f g) 80 = eQ B 22 (faX4_1 B f) from rfl) (show (uX4_2 B e f g) 83 = eQ B 22 (fbX4_1 B g) from rfl) 4 4 (by decide) (by decide) (by decide) (by decide)) bw447 bw160 bw161 bw87 bw162 kn_X7_place ⟨rfl, rfl, Nat.le_of_ble_eq_true rfl, Nat.le_of_ble_eq_true rfl⟩ (b_rec X hH 1 (by decide) (show (uX4_2 B e f g) 1 = eShf B 2 3 from he1) rfl) hH hS hz hl rfl (Nat.le_of_ble_eq_true rfl) dX4_init_16 ⟨Nat.le_of_ble_eq_true rfl, Nat.le_of_ble_eq_true rfl⟩) hS (fun H locs hH hS => ?_)
  have hH : bH B 122 (uX4_3 B e f g) H := hH
  refine b_putF (C := RX4) (T := TX4) (N := 5) X rfl hH hS 113 (by decide) (show (uX4_3 B e f g) 113 = .inr (5, [.ref (B.2.2.1 + 114), .null, .null, .null, .null]) from rfl) rfl inBX4 tyX4 tyX4_ok nmX4 1 (by decide) bw450 rfl rfl rfl rfl (Nat.le_of_ble_eq_true rfl) dX4_init_19 (fun H locs hH hS => ?_)
  have hH : bH B 122 (uX4_4 B e f g) H := hH
  refine lv_aload_n hx hb dX4_init_22 rfl (lv_at hl 0 rfl) ?_
  refine lv_aload_n hx hb dX4_init_23 rfl (lv_at hl 1 rfl) ?_
  refine lv_bipush (v := 12) hx hb dX4_init_24 (by decide) ?_
  refine b_size X hH (by decide) rfl (fun hz => ?_)
  refine bGr (b_vrun (rest := [.ref (B.2.2.1 + 113)]) X (k_plN l B 122 (uX4_4 B e f g) 1 2 3 80 83 (by decide) (by decide) (by decide) (by decide) (by decide) (by decide) (show (uX4_4 B e f g) 1 = eShf B 2 3 from he1) 20 (show (uX4_4 B e f g) 2 = eLst B 80 20 from rfl) (show (uX4_4 B e f g) 3 = eLst B 83 20 from rfl) 22 (by decide) (by decide) (faX4_2 B f) (fbX4_2 B g) (show (uX4_4 B e f g) 80 = eQ B 22 (faX4_2 B f) from rfl) (show (uX4_4 B e f g) 83 = eQ B 22 (fbX4_2 B g) from rfl) 12 12 (by decide) (by decide) (by decide) (by decide)) bw447 bw160 bw161 bw87 bw162 kn_X7_place ⟨rfl, rfl, Nat.le_of_ble_eq_true rfl, Nat.le_of_ble_eq_true rfl⟩ (b_rec X hH 1 (by decide) (show (uX4_4 B e f g) 1 = eShf B 2 3 from he1) rfl) hH hS hz hl rfl (Nat.le_of_ble_eq_true rfl) dX4_init_26 ⟨Nat.le_of_ble_eq_true rfl, Nat.le_of_ble_eq_true rfl⟩) hS (fun H locs hH hS => ?_)
  have hH : bH B 126 (uX4_5 B e f g) H := hH
  refine b_putF (C := RX4) (T := TX4) (N := 5) X rfl hH hS 113 (by decide) (show (uX4_5 B e f g) 113 = .inr (5, [.ref (B.2.2.1 + 114), .ref (B.2.2.1 + 118), .null, .null, .null]) from rfl) rfl inBX4 tyX4 tyX4_ok nmX4 2 (by decide) bw451 rfl rfl rfl rfl (Nat.le_of_ble_eq_true rfl) dX4_init_29 (fun H locs hH hS => ?_)
  have hH : bH B 126 (uX4_6 B e f g) H := hH
  refine lv_aload_n hx hb dX4_init_32 rfl (lv_at hl 0 rfl) ?_
  refine lv_aload_n hx hb dX4_init_33 rfl (lv_at hl 1 rfl) ?_
  refine lv_bipush (v := 12) hx hb dX4_init_34 (by decide) ?_
  refine b_size X hH (by decide) rfl (fun hz => ?_)
  refine bGr (b_vrun (rest := [.ref (B.2.2.1 + 113)]) X (k_plN l B 126 (uX4_6 B e f g) 1 2 3 80 83 (by decide) (by decide) (by decide) (by decide) (by decide) (by decide) (show (uX4_6 B e f g) 1 = eShf B 2 3 from he1) 21 (show (uX4_6 B e f g) 2 = eLst B 80 21 from rfl) (show (uX4_6 B e f g) 3 = eLst B 83 21 from rfl) 22 (by decide) (by decide) (faX4_3 B f) (fbX4_3 B g) (show (uX4_6 B e f g) 80 = eQ B 22 (faX4_3 B f) from rfl) (show (uX4_6 B e f g) 83 = eQ B 22 (fbX4_3 B g) from rfl) 12 12 (by decide) (by decide) (by decide) (by decide)) bw447 bw160 bw161 bw87 bw162 kn_X7_place ⟨rfl, rfl, Nat.le_of_ble_eq_true rfl, Nat.le_of_ble_eq_true rfl⟩ (b_rec X hH 1 (by decide) (show (uX4_6 B e f g) 1 = eShf B 2 3 from he1) rfl) hH hS hz hl rfl (Nat.le_of_ble_eq_true rfl) dX4_init_36 ⟨Nat.le_of_ble_eq_true rfl, Nat.le_of_ble_eq_true rfl⟩) hS (fun H locs hH hS => ?_)
  have hH : bH B 130 (uX4_7 B e f g) H := hH
  refine b_putF (C := RX4) (T := TX4) (N := 5) X rfl hH hS 113 (by decide) (show (uX4_7 B e f g) 113 = .inr (5, [.ref (B.2.2.1 + 114), .ref (B.2.2.1 + 118), .ref (B.2.2.1 + 122), .null, .null]) from rfl) rfl inBX4 tyX4 tyX4_ok nmX4 3 (by decide) bw453 rfl rfl rfl rfl (Nat.le_of_ble_eq_true rfl) dX4_init_39 (fun H locs hH hS => ?_)
  have hH : bH B 130 (uX4_8 B e f g) H := hH
  refine lv_aload_n hx hb dX4_init_42 rfl (lv_at hl 0 rfl) ?_
  refine lv_aload_n hx hb dX4_init_43 rfl (lv_at hl 1 rfl) ?_
  refine lv_bipush (v := 12) hx hb dX4_init_44 (by decide) ?_
  refine b_size X hH (by decide) rfl (fun hz => ?_)
  refine bGr (b_vrun (rest := [.ref (B.2.2.1 + 113)]) X (k_plG l B 130 (uX4_8 B e f g) 1 2 3 80 83 (by decide) (by decide) (by decide) (by decide) (by decide) (by decide) (show (uX4_8 B e f g) 1 = eShf B 2 3 from he1) 22 (show (uX4_8 B e f g) 2 = eLst B 80 22 from rfl) (show (uX4_8 B e f g) 3 = eLst B 83 22 from rfl) (faX4_4 B f) (fbX4_4 B g) (show (uX4_8 B e f g) 80 = eQ B 22 (faX4_4 B f) from rfl) (show (uX4_8 B e f g) 83 = eQ B 22 (fbX4_4 B g) from rfl) hrf130 hrg130 33 33 (by decide) (by decide) (by decide) (by decide) (by decide) (by decide) (by decide) (by decide) (by decide) 12 12 (by decide) (by decide) (by decide) (by decide)) bw447 bw160 bw161 bw87 bw162 kn_X7_place ⟨rfl, rfl, Nat.le_of_ble_eq_true rfl, Nat.le_of_ble_eq_true rfl⟩ (b_rec X hH 1 (by decide) (show (uX4_8 B e f g) 1 = eShf B 2 3 from he1) rfl) hH hS hz hl rfl (Nat.le_of_ble_eq_true rfl) dX4_init_46 ⟨Nat.le_of_ble_eq_true rfl, Nat.le_of_ble_eq_true rfl⟩) hS (fun H locs hH hS => ?_)
  have hH : bH B 136 (uX4_9 B e f g) H := hH
  refine b_putF (C := RX4) (T := TX4) (N := 5) X rfl hH hS 113 (by decide) (show (uX4_9 B e f g) 113 = .inr (5, [.ref (B.2.2.1 + 114), .ref (B.2.2.1 + 118), .ref (B.2.2.1 + 122), .ref (B.2.2.1 + 126), .null]) from rfl) rfl inBX4 tyX4 tyX4_ok nmX4 4 (by decide) bw455 rfl rfl rfl rfl (Nat.le_of_ble_eq_true rfl) dX4_init_49 (fun H locs hH hS => ?_)
  have hH : bH B 136 (uX4_10 B e f g) H := hH
  exact bEv X hH hS (Nat.le_of_ble_eq_true rfl) (Nat.le_of_ble_eq_true rfl) dX4_init_52
abbrev uX2_1 (B : BX) (e : Nat → va_E) (f g : Nat → Option Nat) : Nat → va_E := uPlN B e 137 40 2 132 3 135 33 f g 23
abbrev faX2_1 (B : BX) (f : Nat → Option Nat) : Nat → Option Nat := (va_up f 23 (some (B.2.2.1 + 137)))
abbrev fbX2_1 (B : BX) (g : Nat → Option Nat) : Nat → Option Nat := (va_up g 23 (some (B.2.2.1 + (137 + 2))))
abbrev uX2_2 (B : BX) (e : Nat → va_E) (f g : Nat → Option Nat) : Nat → va_E := uE (uX2_1 B e f g) 136 (.inr (3, [.ref (B.2.2.1 + 137), .null, .null, .null, .null]))
abbrev uX2_3 (B : BX) (e : Nat → va_E) (f g : Nat → Option Nat) : Nat → va_E := uPlN B (uX2_2 B e f g) 141 40 2 132 3 135 33 (faX2_1 B f) (fbX2_1 B g) 24
abbrev faX2_2 (B : BX) (f : Nat → Option Nat) : Nat → Option Nat := (va_up (faX2_1 B f) 24 (some (B.2.2.1 + 141)))
abbrev fbX2_2 (B : BX) (g : Nat → Option Nat) : Nat → Option Nat := (va_up (fbX2_1 B g) 24 (some (B.2.2.1 + (141 + 2))))
abbrev uX2_4 (B : BX) (e : Nat → va_E) (f g : Nat → Option Nat) : Nat → va_E := uE (uX2_3 B e f g) 136 (.inr (3, [.ref (B.2.2.1 + 137), .ref (B.2.2.1 + 141), .null, .null, .null]))
abbrev uX2_5 (B : BX) (e : Nat → va_E) (f g : Nat → Option Nat) : Nat → va_E := uPlN B (uX2_4 B e f g) 145 40 2 132 3 135 33 (faX2_2 B f) (fbX2_2 B g) 25
abbrev faX2_3 (B : BX) (f : Nat → Option Nat) : Nat → Option Nat := (va_up (faX2_2 B f) 25 (some (B.2.2.1 + 145)))
abbrev fbX2_3 (B : BX) (g : Nat → Option Nat) : Nat → Option Nat := (va_up (fbX2_2 B g) 25 (some (B.2.2.1 + (145 + 2))))
abbrev uX2_6 (B : BX) (e : Nat → va_E) (f g : Nat → Option Nat) : Nat → va_E := uE (uX2_5 B e f g) 136 (.inr (3, [.ref (B.2.2.1 + 137), .ref (B.2.2.1 + 141), .ref (B.2.2.1 + 145), .null, .null]))
abbrev uX2_7 (B : BX) (e : Nat → va_E) (f g : Nat → Option Nat) : Nat → va_E := uPlN B (uX2_6 B e f g) 149 40 2 132 3 135 33 (faX2_3 B f) (fbX2_3 B g) 26
abbrev faX2_4 (B : BX) (f : Nat → Option Nat) : Nat → Option Nat := (va_up (faX2_3 B f) 26 (some (B.2.2.1 + 149)))
abbrev fbX2_4 (B : BX) (g : Nat → Option Nat) : Nat → Option Nat := (va_up (fbX2_3 B g) 26 (some (B.2.2.1 + (149 + 2))))
abbrev uX2_8 (B : BX) (e : Nat → va_E) (f g : Nat → Option Nat) : Nat → va_E := uE (uX2_7 B e f g) 136 (.inr (3, [.ref (B.2.2.1 + 137), .ref (B.2.2.1 + 141), .ref (B.2.2.1 + 145), .ref (B.2.2.1 + 149), .null]))
abbrev uX2_9 (B : BX) (e : Nat → va_E) (f g : Nat → Option Nat) : Nat → va_E := uE (uX2_8 B e f g) 153 (.inr (6, [.null, .int 0]))
abbrev uX2_10 (B : BX) (e : Nat → va_E) (f g : Nat → Option Nat) : Nat → va_E := uE (uE (uX2_9 B e f g) 154 (eI B 40 (fun _ => 0))) 153 (eRow B 154)
abbrev uX2_11 (B : BX) (e : Nat → va_E) (f g : Nat → Option Nat) : Nat → va_E := uE (uX2_10 B e f g) 136 (.inr (3, [.ref (B.2.2.1 + 137), .ref (B.2.2.1 + 141), .ref (B.2.2.1 + 145), .ref (B.2.2.1 + 149), .ref (B.2.2.1 + 153)]))
set_option maxHeartbeats 4000000 in
set_option maxRecDepth 100000 in
theorem k_X2 (l : Launch) (B : BX) (e : Nat → va_E) (f g : Nat → Option Nat) (he1 : e 1 = eShf B 2 3) (he2 : e 2 = eLst B 132 23) (he3 : e 3 = eLst B 135 23) (he132 : e 132 = eQ B 33 f) (he135 : e 135 = eQ B 33 g) (he136 : e 136 = .inr (3, [.null, .null, .null, .null, .null])) : MBx l B yX2_init cX2_init 2 none (rmB 8 18 378 320) [.ref (B.2.2.1 + 136), .ref (B.2.2.1 + 1)] 137 e (BV B 155 (uX2_11 B e f g)) 18 378 := by
  refine bM_start (by decide +kernel) (Nat.le_of_ble_eq_true rfl) ?_
  intro p env s m below meth c ls X hH hl
  have hS : va_S (bA B) s.heap s.heap [] := va_S.rf
  have hx := X.1.1
  have hb := X.1.2.1
  have hl : lv_has ls 2 [(0, .ref (B.2.2.1 + 136)), (1, .ref (B.2.2.1 + 1))] := hl
  refine lv_aload_n hx hb dX2_init_0 rfl (lv_at hl 0 rfl) ?_
  refine b_obj X hl bw473 bw118 bw119 ⟨Nat.le_of_ble_eq_true rfl, Nat.le_of_ble_eq_true rfl⟩ dX2_init_1 ?_
  refine lv_aload_n hx hb dX2_init_4 rfl (lv_at hl 0 rfl) ?_
  refine lv_aload_n hx hb dX2_init_5 rfl (lv_at hl 1 rfl) ?_
  refine lv_bipush (v := 40) hx hb dX2_init_6 (by decide) ?_
  refine b_size X hH (by decide) rfl (fun hz => ?_)
  refine bGr (b_vrun (rest := [.ref (B.2.2.1 + 136)]) X (k_plN l B 137 e 1 2 3 132 135 (by decide) (by decide) (by decide) (by decide) (by decide) (by decide) (show e 1 = eShf B 2 3 from he1) 23 (show e 2 = eLst B 132 23 from he2) (show e 3 = eLst B 135 23 from he3) 33 (by decide) (by decide) f g (show e 132 = eQ B 33 f from he132) (show e 135 = eQ B 33 g from he135) 40 40 (by decide) (by decide) (by decide) (by decide)) bw474 bw160 bw161 bw87 bw162 kn_X7_place ⟨rfl, rfl, Nat.le_of_ble_eq_true rfl, Nat.le_of_ble_eq_true rfl⟩ (b_rec X hH 1 (by decide) (show e 1 = eShf B 2 3 from he1) rfl) hH hS hz hl rfl (Nat.le_of_ble_eq_true rfl) dX2_init_8 ⟨Nat.le_of_ble_eq_true rfl, Nat.le_of_ble_eq_true rfl⟩) hS (fun H locs hH hS => ?_)
  have hH : bH B 141 (uX2_1 B e f g) H := hH
  refine b_putF (C := RX2) (T := TX2) (N := 5) X rfl hH hS 136 (by decide) (show (uX2_1 B e f g) 136 = .inr (3, [.null, .null, .null, .null, .null]) from he136) rfl inBX2 tyX2 tyX2_ok nmX2 0 (by decide) bw477 rfl rfl rfl rfl (Nat.le_of_ble_eq_true rfl) dX2_init_11 (fun H locs hH hS => ?_)
  have hH : bH B 141 (uX2_2 B e f g) H := hH
  refine lv_aload_n hx hb dX2_init_14 rfl (lv_at hl 0 rfl) ?_
  refine lv_aload_n hx hb dX2_init_15 rfl (lv_at hl 1 rfl) ?_
  refine lv_bipush (v := 40) hx hb dX2_init_16 (by decide) ?_
  refine b_size X hH (by decide) rfl (fun hz => ?_)
  refine bGr (b_vrun (rest := [.ref (B.2.2.1 + 136)]) X (k_plN l B 141 (uX2_2 B e f g) 1 2 3 132 135 (by decide) (by decide) (by decide) (by decide) (by decide) (by decide) (show (uX2_2 B e f g) 1 = eShf B 2 3 from he1) 24 (show (uX2_2 B e f g) 2 = eLst B 132 24 from rfl) (show (uX2_2 B e f g) 3 = eLst B 135 24 from rfl) 33 (by decide) (by decide) (faX2_1 B f) (fbX2_1 B g) (show (uX2_2 B e f g) 132 = eQ B 33 (faX2_1 B f) from rfl) (show (uX2_2 B e f g) 135 = eQ B 33 (fbX2_1 B g) from rfl) 40 40 (by decide) (by decide) (by decide) (by decide)) bw474 bw160 bw161 bw87 bw162 kn_X7_place ⟨rfl, rfl, Nat.le_of_ble_eq_true rfl, Nat.le_of_ble_eq_true rfl⟩ (b_rec X hH 1 (by decide) (show (uX2_2 B e f g) 1 = eShf B 2 3 from he1) rfl) hH hS hz hl rfl (Nat.le_of_ble_eq_true rfl) dX2_init_18 ⟨Nat.le_of_ble_eq_true rfl, Nat.le_of_ble_eq_true rfl⟩) hS (fun H locs hH hS => ?_)
  have hH : bH B 145 (uX2_3 B e f g) H := hH
  refine b_putF (C := RX2) (T := TX2) (N := 5) X rfl hH hS 136 (by decide) (show (uX2_3 B e f g) 136 = .inr (3, [.ref (B.2.2.1 + 137), .null, .null, .null, .null]) from rfl) rfl inBX2 tyX2 tyX2_ok nmX2 1 (by decide) bw479 rfl rfl rfl rfl (Nat.le_of_ble_eq_true rfl) dX2_init_21 (fun H locs hH hS => ?_)
  have hH : bH B 145 (uX2_4 B e f g) H := hH
  refine lv_aload_n hx hb dX2_init_24 rfl (lv_at hl 0 rfl) ?_
  refine lv_aload_n hx hb dX2_init_25 rfl (lv_at hl 1 rfl) ?_
  refine lv_bipush (v := 40) hx hb dX2_init_26 (by decide) ?_
  refine b_size X hH (by decide) rfl (fun hz => ?_)
  refine bGr (b_vrun (rest := [.ref (B.2.2.1 + 136)]) X (k_plN l B 145 (uX2_4 B e f g) 1 2 3 132 135 (by decide) (by decide) (by decide) (by decide) (by decide) (by decide) (show (uX2_4 B e f g) 1 = eShf B 2 3 from he1) 25 (show (uX2_4 B e f g) 2 = eLst B 132 25 from rfl) (show (uX2_4 B e f g) 3 = eLst B 135 25 from rfl) 33 (by decide) (by decide) (faX2_2 B f) (fbX2_2 B g) (show (uX2_4 B e f g) 132 = eQ B 33 (faX2_2 B f) from rfl) (show (uX2_4 B e f g) 135 = eQ B 33 (fbX2_2 B g) from rfl) 40 40 (by decide) (by decide) (by decide) (by decide)) bw474 bw160 bw161 bw87 bw162 kn_X7_place ⟨rfl, rfl, Nat.le_of_ble_eq_true rfl, Nat.le_of_ble_eq_true rfl⟩ (b_rec X hH 1 (by decide) (show (uX2_4 B e f g) 1 = eShf B 2 3 from he1) rfl) hH hS hz hl rfl (Nat.le_of_ble_eq_true rfl) dX2_init_28 ⟨Nat.le_of_ble_eq_true rfl, Nat.le_of_ble_eq_true rfl⟩) hS (fun H locs hH hS => ?_)
  have hH : bH B 149 (uX2_5 B e f g) H := hH
  refine b_putF (C := RX2) (T := TX2) (N := 5) X rfl hH hS 136 (by decide) (show (uX2_5 B e f g) 136 = .inr (3, [.ref (B.2.2.1 + 137), .ref (B.2.2.1 + 141), .null, .null, .null]) from rfl) rfl inBX2 tyX2 tyX2_ok nmX2 2 (by decide) bw481 rfl rfl rfl rfl (Nat.le_of_ble_eq_true rfl) dX2_init_31 (fun H locs hH hS => ?_)
  have hH : bH B 149 (uX2_6 B e f g) H := hH
  refine lv_aload_n hx hb dX2_init_34 rfl (lv_at hl 0 rfl) ?_
  refine lv_aload_n hx hb dX2_init_35 rfl (lv_at hl 1 rfl) ?_
  refine lv_bipush (v := 40) hx hb dX2_init_36 (by decide) ?_
  refine b_size X hH (by decide) rfl (fun hz => ?_)
  refine bGr (b_vrun (rest := [.ref (B.2.2.1 + 136)]) X (k_plN l B 149 (uX2_6 B e f g) 1 2 3 132 135 (by decide) (by decide) (by decide) (by decide) (by decide) (by decide) (show (uX2_6 B e f g) 1 = eShf B 2 3 from he1) 26 (show (uX2_6 B e f g) 2 = eLst B 132 26 from rfl) (show (uX2_6 B e f g) 3 = eLst B 135 26 from rfl) 33 (by decide) (by decide) (faX2_3 B f) (fbX2_3 B g) (show (uX2_6 B e f g) 132 = eQ B 33 (faX2_3 B f) from rfl) (show (uX2_6 B e f g) 135 = eQ B 33 (fbX2_3 B g) from rfl) 40 40 (by decide) (by decide) (by decide) (by decide)) bw474 bw160 bw161 bw87 bw162 kn_X7_place ⟨rfl, rfl, Nat.le_of_ble_eq_true rfl, Nat.le_of_ble_eq_true rfl⟩ (b_rec X hH 1 (by decide) (show (uX2_6 B e f g) 1 = eShf B 2 3 from he1) rfl) hH hS hz hl rfl (Nat.le_of_ble_eq_true rfl) dX2_init_38 ⟨Nat.le_of_ble_eq_true rfl, Nat.le_of_ble_eq_true rfl⟩) hS (fun H locs hH hS => ?_)
  have hH : bH B 153 (uX2_7 B e f g) H := hH
  refine b_putF (C := RX2) (T := TX2) (N := 5) X rfl hH hS 136 (by decide) (show (uX2_7 B e f g) 136 = .inr (3, [.ref (B.2.2.1 + 137), .ref (B.2.2.1 + 141), .ref (B.2.2.1 + 145), .null, .null]) from rfl) rfl inBX2 tyX2 tyX2_ok nmX2 3 (by decide) bw482 rfl rfl rfl rfl (Nat.le_of_ble_eq_true rfl) dX2_init_41 (fun H locs hH hS => ?_)
  have hH : bH B 153 (uX2_8 B e f g) H := hH
  refine lv_aload_n hx hb dX2_init_44 rfl (lv_at hl 0 rfl) ?_
  refine b_new (ci := 6) (fs := [.null, .int 0]) X hH hS rfl rfl inBX5 tyX5 tyX5_ok bw475 bw164 bw91 (by decide) (Nat.le_of_ble_eq_true rfl) (Nat.le_of_ble_eq_true rfl) dX2_init_45 (fun H hH hS => ?_)
  have hH : bH B 154 (uX2_9 B e f g) H := hH
  refine lv_dup hx hb dX2_init_48 rfl ?_
  refine lv_bipush (v := 40) hx hb dX2_init_49 (by decide) ?_
  refine b_size X hH (by decide) rfl (fun hz => ?_)
  refine bGv (b_irun (rest := [.ref (B.2.2.1 + 153), .ref (B.2.2.1 + 136)]) X (k_row l B 154 (uX2_9 B e f g) 153 (by decide) .null (show (uX2_9 B e f g) 153 = eRow0 from rfl) 40 40 (by decide) (by decide) (by decide) (by decide)) rfl bw476 bw166 bw91 bw167 kn_X5_init ⟨rfl, rfl, Nat.le_of_ble_eq_true rfl, Nat.le_of_ble_eq_true rfl⟩ hH hS hz hl rfl (Nat.le_of_ble_eq_true rfl) dX2_init_51 ⟨Nat.le_of_ble_eq_true rfl, Nat.le_of_ble_eq_true rfl⟩) hS (fun H locs hH hS => ?_)
  have hH : bH B 155 (uX2_10 B e f g) H := hH
  refine b_putF (C := RX2) (T := TX2) (N := 5) X rfl hH hS 136 (by decide) (show (uX2_10 B e f g) 136 = .inr (3, [.ref (B.2.2.1 + 137), .ref (B.2.2.1 + 141), .ref (B.2.2.1 + 145), .ref (B.2.2.1 + 149), .null]) from rfl) rfl inBX2 tyX2 tyX2_ok nmX2 4 (by decide) bw483 rfl rfl rfl rfl (Nat.le_of_ble_eq_true rfl) dX2_init_54 (fun H locs hH hS => ?_)
  have hH : bH B 155 (uX2_11 B e f g) H := hH
  exact bEv X hH hS (Nat.le_of_ble_eq_true rfl) (Nat.le_of_ble_eq_true rfl) dX2_init_57
abbrev uX1_1 (B : BX) (e : Nat → va_E) (f g : Nat → Option Nat) : Nat → va_E := uPlN B e 156 7 2 132 3 135 33 f g 27
abbrev faX1_1 (B : BX) (f : Nat → Option Nat) : Nat → Option Nat := (va_up f 27 (some (B.2.2.1 + 156)))
abbrev fbX1_1 (B : BX) (g : Nat → Option Nat) : Nat → Option Nat := (va_up g 27 (some (B.2.2.1 + (156 + 2))))
abbrev uX1_2 (B : BX) (e : Nat → va_E) (f g : Nat → Option Nat) : Nat → va_E := uE (uX1_1 B e f g) 155 (.inr (2, [.ref (B.2.2.1 + 156), .null, .null, .null, .null, .null, .null, .null, .null, .null]))
abbrev uX1_3 (B : BX) (e : Nat → va_E) (f g : Nat → Option Nat) : Nat → va_E := uPlN B (uX1_2 B e f g) 160 10 2 132 3 135 33 (faX1_1 B f) (fbX1_1 B g) 28
abbrev faX1_2 (B : BX) (f : Nat → Option Nat) : Nat → Option Nat := (va_up (faX1_1 B f) 28 (some (B.2.2.1 + 160)))
abbrev fbX1_2 (B : BX) (g : Nat → Option Nat) : Nat → Option Nat := (va_up (fbX1_1 B g) 28 (some (B.2.2.1 + (160 + 2))))
abbrev uX1_4 (B : BX) (e : Nat → va_E) (f g : Nat → Option Nat) : Nat → va_E := uE (uX1_3 B e f g) 155 (.inr (2, [.ref (B.2.2.1 + 156), .ref (B.2.2.1 + 160), .null, .null, .null, .null, .null, .null, .null, .null]))
abbrev uX1_5 (B : BX) (e : Nat → va_E) (f g : Nat → Option Nat) : Nat → va_E := uPlN B (uX1_4 B e f g) 164 30 2 132 3 135 33 (faX1_2 B f) (fbX1_2 B g) 29
abbrev faX1_3 (B : BX) (f : Nat → Option Nat) : Nat → Option Nat := (va_up (faX1_2 B f) 29 (some (B.2.2.1 + 164)))
abbrev fbX1_3 (B : BX) (g : Nat → Option Nat) : Nat → Option Nat := (va_up (fbX1_2 B g) 29 (some (B.2.2.1 + (164 + 2))))
abbrev uX1_6 (B : BX) (e : Nat → va_E) (f g : Nat → Option Nat) : Nat → va_E := uE (uX1_5 B e f g) 155 (.inr (2, [.ref (B.2.2.1 + 156), .ref (B.2.2.1 + 160), .ref (B.2.2.1 + 164), .null, .null, .null, .null, .null, .null, .null]))
abbrev uX1_7 (B : BX) (e : Nat → va_E) (f g : Nat → Option Nat) : Nat → va_E := uE (uX1_6 B e f g) 168 (.inr (6, [.null, .int 0]))
abbrev uX1_8 (B : BX) (e : Nat → va_E) (f g : Nat → Option Nat) : Nat → va_E := uE (uE (uX1_7 B e f g) 169 (eI B 7 (fun _ => 0))) 168 (eRow B 169)
abbrev uX1_9 (B : BX) (e : Nat → va_E) (f g : Nat → Option Nat) : Nat → va_E := uE (uX1_8 B e f g) 155 (.inr (2, [.ref (B.2.2.1 + 156), .ref (B.2.2.1 + 160), .ref (B.2.2.1 + 164), .ref (B.2.2.1 + 168), .null, .null, .null, .null, .null, .null]))
abbrev uX1_10 (B : BX) (e : Nat → va_E) (f g : Nat → Option Nat) : Nat → va_E := uE (uX1_9 B e f g) 170 (.inr (6, [.null, .int 0]))
abbrev uX1_11 (B : BX) (e : Nat → va_E) (f g : Nat → Option Nat) : Nat → va_E := uE (uE (uX1_10 B e f g) 171 (eI B 7 (fun _ => 0))) 170 (eRow B 171)
abbrev uX1_12 (B : BX) (e : Nat → va_E) (f g : Nat → Option Nat) : Nat → va_E := uE (uX1_11 B e f g) 155 (.inr (2, [.ref (B.2.2.1 + 156), .ref (B.2.2.1 + 160), .ref (B.2.2.1 + 164), .ref (B.2.2.1 + 168), .ref (B.2.2.1 + 170), .null, .null, .null, .null, .null]))
abbrev uX1_13 (B : BX) (e : Nat → va_E) (f g : Nat → Option Nat) : Nat → va_E := uE (uX1_12 B e f g) 172 (.inr (6, [.null, .int 0]))
abbrev uX1_14 (B : BX) (e : Nat → va_E) (f g : Nat → Option Nat) : Nat → va_E := uE (uE (uX1_13 B e f g) 173 (eI B 10 (fun _ => 0))) 172 (eRow B 173)
abbrev uX1_15 (B : BX) (e : Nat → va_E) (f g : Nat → Option Nat) : Nat → va_E := uE (uX1_14 B e f g) 155 (.inr (2, [.ref (B.2.2.1 + 156), .ref (B.2.2.1 + 160), .ref (B.2.2.1 + 164), .ref (B.2.2.1 + 168), .ref (B.2.2.1 + 170), .ref (B.2.2.1 + 172), .null, .null, .null, .null]))
abbrev uX1_16 (B : BX) (e : Nat → va_E) (f g : Nat → Option Nat) : Nat → va_E := uE (uX1_15 B e f g) 174 (.inr (6, [.null, .int 0]))
abbrev uX1_17 (B : BX) (e : Nat → va_E) (f g : Nat → Option Nat) : Nat → va_E := uE (uE (uX1_16 B e f g) 175 (eI B 10 (fun _ => 0))) 174 (eRow B 175)
abbrev uX1_18 (B : BX) (e : Nat → va_E) (f g : Nat → Option Nat) : Nat → va_E := uE (uX1_17 B e f g) 155 (.inr (2, [.ref (B.2.2.1 + 156), .ref (B.2.2.1 + 160), .ref (B.2.2.1 + 164), .ref (B.2.2.1 + 168), .ref (B.2.2.1 + 170), .ref (B.2.2.1 + 172), .ref (B.2.2.1 + 174), .null, .null, .null]))
abbrev uX1_19 (B : BX) (e : Nat → va_E) (f g : Nat → Option Nat) : Nat → va_E := uE (uX1_18 B e f g) 176 (.inr (6, [.null, .int 0]))
abbrev uX1_20 (B : BX) (e : Nat → va_E) (f g : Nat → Option Nat) : Nat → va_E := uE (uE (uX1_19 B e f g) 177 (eI B 1024 (fun _ => 0))) 176 (eRow B 177)
abbrev uX1_21 (B : BX) (e : Nat → va_E) (f g : Nat → Option Nat) : Nat → va_E := uE (uX1_20 B e f g) 155 (.inr (2, [.ref (B.2.2.1 + 156), .ref (B.2.2.1 + 160), .ref (B.2.2.1 + 164), .ref (B.2.2.1 + 168), .ref (B.2.2.1 + 170), .ref (B.2.2.1 + 172), .ref (B.2.2.1 + 174), .ref (B.2.2.1 + 176), .null, .null]))
abbrev uX1_22 (B : BX) (e : Nat → va_E) (f g : Nat → Option Nat) : Nat → va_E := uE (uX1_21 B e f g) 178 (.inr (6, [.null, .int 0]))
abbrev uX1_23 (B : BX) (e : Nat → va_E) (f g : Nat → Option Nat) : Nat → va_E := uE (uE (uX1_22 B e f g) 179 (eI B 1024 (fun _ => 0))) 178 (eRow B 179)
abbrev uX1_24 (B : BX) (e : Nat → va_E) (f g : Nat → Option Nat) : Nat → va_E := uE (uX1_23 B e f g) 155 (.inr (2, [.ref (B.2.2.1 + 156), .ref (B.2.2.1 + 160), .ref (B.2.2.1 + 164), .ref (B.2.2.1 + 168), .ref (B.2.2.1 + 170), .ref (B.2.2.1 + 172), .ref (B.2.2.1 + 174), .ref (B.2.2.1 + 176), .ref (B.2.2.1 + 178), .null]))
abbrev uX1_25 (B : BX) (e : Nat → va_E) (f g : Nat → Option Nat) : Nat → va_E := uE (uX1_24 B e f g) 180 (.inr (6, [.null, .int 0]))
abbrev uX1_26 (B : BX) (e : Nat → va_E) (f g : Nat → Option Nat) : Nat → va_E := uE (uE (uX1_25 B e f g) 181 (eI B 1024 (fun _ => 0))) 180 (eRow B 181)
abbrev uX1_27 (B : BX) (e : Nat → va_E) (f g : Nat → Option Nat) : Nat → va_E := uE (uX1_26 B e f g) 155 (.inr (2, [.ref (B.2.2.1 + 156), .ref (B.2.2.1 + 160), .ref (B.2.2.1 + 164), .ref (B.2.2.1 + 168), .ref (B.2.2.1 + 170), .ref (B.2.2.1 + 172), .ref (B.2.2.1 + 174), .ref (B.2.2.1 + 176), .ref (B.2.2.1 + 178), .ref (B.2.2.1 + 180)]))
set_option maxHeartbeats 4000000 in
set_option maxRecDepth 100000 in
theorem k_X1 (l : Launch) (B : BX) (e : Nat → va_E) (f g : Nat → Option Nat) (he1 : e 1 = eShf B 2 3) (he2 : e 2 = eLst B 132 27) (he3 : e 3 = eLst B 135 27) (he132 : e 132 = eQ B 33 f) (he135 : e 135 = eQ B 33 g) (he155 : e 155 = .inr (2, [.null, .null, .null, .null, .null, .null, .null, .null, .null, .null])) : MBx l B yX1_init cX1_init 2 none (rmB 8 26 3226 320) [.ref (B.2.2.1 + 155), .ref (B.2.2.1 + 1)] 156 e (BV B 182 (uX1_27 B e f g)) 26 3226 := by
  refine bM_start (by decide +kernel) (Nat.le_of_ble_eq_true rfl) ?_
  intro p env s m below meth c ls X hH hl
  have hS : va_S (bA B) s.heap s.heap [] := va_S.rf
  have hx := X.1.1
  have hb := X.1.2.1
  have hl : lv_has ls 2 [(0, .ref (B.2.2.1 + 155)), (1, .ref (B.2.2.1 + 1))] := hl
  refine lv_aload_n hx hb dX1_init_0 rfl (lv_at hl 0 rfl) ?_
  refine b_obj X hl bw500 bw118 bw119 ⟨Nat.le_of_ble_eq_true rfl, Nat.le_of_ble_eq_true rfl⟩ dX1_init_1 ?_
  refine lv_aload_n hx hb dX1_init_4 rfl (lv_at hl 0 rfl) ?_
  refine lv_aload_n hx hb dX1_init_5 rfl (lv_at hl 1 rfl) ?_
  refine lv_bipush (v := 7) hx hb dX1_init_6 (by decide) ?_
  refine b_size X hH (by decide) rfl (fun hz => ?_)
  refine bGr (b_vrun (rest := [.ref (B.2.2.1 + 155)]) X (k_plN l B 156 e 1 2 3 132 135 (by decide) (by decide) (by decide) (by decide) (by decide) (by decide) (show e 1 = eShf B 2 3 from he1) 27 (show e 2 = eLst B 132 27 from he2) (show e 3 = eLst B 135 27 from he3) 33 (by decide) (by decide) f g (show e 132 = eQ B 33 f from he132) (show e 135 = eQ B 33 g from he135) 7 7 (by decide) (by decide) (by decide) (by decide)) bw501 bw160 bw161 bw87 bw162 kn_X7_place ⟨rfl, rfl, Nat.le_of_ble_eq_true rfl, Nat.le_of_ble_eq_true rfl⟩ (b_rec X hH 1 (by decide) (show e 1 = eShf B 2 3 from he1) rfl) hH hS hz hl rfl (Nat.le_of_ble_eq_true rfl) dX1_init_8 ⟨Nat.le_of_ble_eq_true rfl, Nat.le_of_ble_eq_true rfl⟩) hS (fun H locs hH hS => ?_)
  have hH : bH B 160 (uX1_1 B e f g) H := hH
  refine b_putF (C := RX1) (T := TX1) (N := 10) X rfl hH hS 155 (by decide) (show (uX1_1 B e f g) 155 = .inr (2, [.null, .null, .null, .null, .null, .null, .null, .null, .null, .null]) from he155) rfl inBX1 tyX1 tyX1_ok nmX1 0 (by decide) bw504 rfl rfl rfl rfl (Nat.le_of_ble_eq_true rfl) dX1_init_11 (fun H locs hH hS => ?_)
  have hH : bH B 160 (uX1_2 B e f g) H := hH
  refine lv_aload_n hx hb dX1_init_14 rfl (lv_at hl 0 rfl) ?_
  refine lv_aload_n hx hb dX1_init_15 rfl (lv_at hl 1 rfl) ?_
  refine lv_bipush (v := 10) hx hb dX1_init_16 (by decide) ?_
  refine b_size X hH (by decide) rfl (fun hz => ?_)
  refine bGr (b_vrun (rest := [.ref (B.2.2.1 + 155)]) X (k_plN l B 160 (uX1_2 B e f g) 1 2 3 132 135 (by decide) (by decide) (by decide) (by decide) (by decide) (by decide) (show (uX1_2 B e f g) 1 = eShf B 2 3 from he1) 28 (show (uX1_2 B e f g) 2 = eLst B 132 28 from rfl) (show (uX1_2 B e f g) 3 = eLst B 135 28 from rfl) 33 (by decide) (by decide) (faX1_1 B f) (fbX1_1 B g) (show (uX1_2 B e f g) 132 = eQ B 33 (faX1_1 B f) from rfl) (show (uX1_2 B e f g) 135 = eQ B 33 (fbX1_1 B g) from rfl) 10 10 (by decide) (by decide) (by decide) (by decide)) bw501 bw160 bw161 bw87 bw162 kn_X7_place ⟨rfl, rfl, Nat.le_of_ble_eq_true rfl, Nat.le_of_ble_eq_true rfl⟩ (b_rec X hH 1 (by decide) (show (uX1_2 B e f g) 1 = eShf B 2 3 from he1) rfl) hH hS hz hl rfl (Nat.le_of_ble_eq_true rfl) dX1_init_18 ⟨Nat.le_of_ble_eq_true rfl, Nat.le_of_ble_eq_true rfl⟩) hS (fun H locs hH hS => ?_)
  have hH : bH B 164 (uX1_3 B e f g) H := hH
  refine b_putF (C := RX1) (T := TX1) (N := 10) X rfl hH hS 155 (by decide) (show (uX1_3 B e f g) 155 = .inr (2, [.ref (B.2.2.1 + 156), .null, .null, .null, .null, .null, .null, .null, .null, .null]) from rfl) rfl inBX1 tyX1 tyX1_ok nmX1 1 (by decide) bw506 rfl rfl rfl rfl (Nat.le_of_ble_eq_true rfl) dX1_init_21 (fun H locs hH hS => ?_)
  have hH : bH B 164 (uX1_4 B e f g) H := hH
  refine lv_aload_n hx hb dX1_init_24 rfl (lv_at hl 0 rfl) ?_
  refine lv_aload_n hx hb dX1_init_25 rfl (lv_at hl 1 rfl) ?_
  refine lv_bipush (v := 30) hx hb dX1_init_26 (by decide) ?_
  refine b_size X hH (by decide) rfl (fun hz => ?_)
  refine bGr (b_vrun (rest := [.ref (B.2.2.1 + 155)]) X (k_plN l B 164 (uX1_4 B e f g) 1 2 3 132 135 (by decide) (by decide) (by decide) (by decide) (by decide) (by decide) (show (uX1_4 B e f g) 1 = eShf B 2 3 from he1) 29 (show (uX1_4 B e f g) 2 = eLst B 132 29 from rfl) (show (uX1_4 B e f g) 3 = eLst B 135 29 from rfl) 33 (by decide) (by decide) (faX1_2 B f) (fbX1_2 B g) (show (uX1_4 B e f g) 132 = eQ B 33 (faX1_2 B f) from rfl) (show (uX1_4 B e f g) 135 = eQ B 33 (fbX1_2 B g) from rfl) 30 30 (by decide) (by decide) (by decide) (by decide)) bw501 bw160 bw161 bw87 bw162 kn_X7_place ⟨rfl, rfl, Nat.le_of_ble_eq_true rfl, Nat.le_of_ble_eq_true rfl⟩ (b_rec X hH 1 (by decide) (show (uX1_4 B e f g) 1 = eShf B 2 3 from he1) rfl) hH hS hz hl rfl (Nat.le_of_ble_eq_true rfl) dX1_init_28 ⟨Nat.le_of_ble_eq_true rfl, Nat.le_of_ble_eq_true rfl⟩) hS (fun H locs hH hS => ?_)
  have hH : bH B 168 (uX1_5 B e f g) H := hH
  refine b_putF (C := RX1) (T := TX1) (N := 10) X rfl hH hS 155 (by decide) (show (uX1_5 B e f g) 155 = .inr (2, [.ref (B.2.2.1 + 156), .ref (B.2.2.1 + 160), .null, .null, .null, .null, .null, .null, .null, .null]) from rfl) rfl inBX1 tyX1 tyX1_ok nmX1 2 (by decide) bw508 rfl rfl rfl rfl (Nat.le_of_ble_eq_true rfl) dX1_init_31 (fun H locs hH hS => ?_)
  have hH : bH B 168 (uX1_6 B e f g) H := hH
  refine lv_aload_n hx hb dX1_init_34 rfl (lv_at hl 0 rfl) ?_
  refine b_new (ci := 6) (fs := [.null, .int 0]) X hH hS rfl rfl inBX5 tyX5 tyX5_ok bw502 bw164 bw91 (by decide) (Nat.le_of_ble_eq_true rfl) (Nat.le_of_ble_eq_true rfl) dX1_init_35 (fun H hH hS => ?_)
  have hH : bH B 169 (uX1_7 B e f g) H := hH
  refine lv_dup hx hb dX1_init_38 rfl ?_
  refine lv_bipush (v := 7) hx hb dX1_init_39 (by decide) ?_
  refine b_size X hH (by decide) rfl (fun hz => ?_)
  refine bGv (b_irun (rest := [.ref (B.2.2.1 + 168), .ref (B.2.2.1 + 155)]) X (k_row l B 169 (uX1_7 B e f g) 168 (by decide) .null (show (uX1_7 B e f g) 168 = eRow0 from rfl) 7 7 (by decide) (by decide) (by decide) (by decide)) rfl bw503 bw166 bw91 bw167 kn_X5_init ⟨rfl, rfl, Nat.le_of_ble_eq_true rfl, Nat.le_of_ble_eq_true rfl⟩ hH hS hz hl rfl (Nat.le_of_ble_eq_true rfl) dX1_init_41 ⟨Nat.le_of_ble_eq_true rfl, Nat.le_of_ble_eq_true rfl⟩) hS (fun H locs hH hS => ?_)
  have hH : bH B 170 (uX1_8 B e f g) H := hH
  refine b_putF (C := RX1) (T := TX1) (N := 10) X rfl hH hS 155 (by decide) (show (uX1_8 B e f g) 155 = .inr (2, [.ref (B.2.2.1 + 156), .ref (B.2.2.1 + 160), .ref (B.2.2.1 + 164), .null, .null, .null, .null, .null, .null, .null]) from rfl) rfl inBX1 tyX1 tyX1_ok nmX1 3 (by decide) bw510 rfl rfl rfl rfl (Nat.le_of_ble_eq_true rfl) dX1_init_44 (fun H locs hH hS => ?_)
  have hH : bH B 170 (uX1_9 B e f g) H := hH
  refine lv_aload_n hx hb dX1_init_47 rfl (lv_at hl 0 rfl) ?_
  refine b_new (ci := 6) (fs := [.null, .int 0]) X hH hS rfl rfl inBX5 tyX5 tyX5_ok bw502 bw164 bw91 (by decide) (Nat.le_of_ble_eq_true rfl) (Nat.le_of_ble_eq_true rfl) dX1_init_48 (fun H hH hS => ?_)
  have hH : bH B 171 (uX1_10 B e f g) H := hH
  refine lv_dup hx hb dX1_init_51 rfl ?_
  refine lv_bipush (v := 7) hx hb dX1_init_52 (by decide) ?_
  refine b_size X hH (by decide) rfl (fun hz => ?_)
  refine bGv (b_irun (rest := [.ref (B.2.2.1 + 170), .ref (B.2.2.1 + 155)]) X (k_row l B 171 (uX1_10 B e f g) 170 (by decide) .null (show (uX1_10 B e f g) 170 = eRow0 from rfl) 7 7 (by decide) (by decide) (by decide) (by decide)) rfl bw503 bw166 bw91 bw167 kn_X5_init ⟨rfl, rfl, Nat.le_of_ble_eq_true rfl, Nat.le_of_ble_eq_true rfl⟩ hH hS hz hl rfl (Nat.le_of_ble_eq_true rfl) dX1_init_54 ⟨Nat.le_of_ble_eq_true rfl, Nat.le_of_ble_eq_true rfl⟩) hS (fun H locs hH hS => ?_)
  have hH : bH B 172 (uX1_11 B e f g) H := hH
  refine b_putF (C := RX1) (T := TX1) (N := 10) X rfl hH hS 155 (by decide) (show (uX1_11 B e f g) 155 = .inr (2, [.ref (B.2.2.1 + 156), .ref (B.2.2.1 + 160), .ref (B.2.2.1 + 164), .ref (B.2.2.1 + 168), .null, .null, .null, .null, .null, .null]) from rfl) rfl inBX1 tyX1 tyX1_ok nmX1 4 (by decide) bw511 rfl rfl rfl rfl (Nat.le_of_ble_eq_true rfl) dX1_init_57 (fun H locs hH hS => ?_)
  have hH : bH B 172 (uX1_12 B e f g) H := hH
  refine lv_aload_n hx hb dX1_init_60 rfl (lv_at hl 0 rfl) ?_
  refine b_new (ci := 6) (fs := [.null, .int 0]) X hH hS rfl rfl inBX5 tyX5 tyX5_ok bw502 bw164 bw91 (by decide) (Nat.le_of_ble_eq_true rfl) (Nat.le_of_ble_eq_true rfl) dX1_init_61 (fun H hH hS => ?_)
  have hH : bH B 173 (uX1_13 B e f g) H := hH
  refine lv_dup hx hb dX1_init_64 rfl ?_
  refine lv_bipush (v := 10) hx hb dX1_init_65 (by decide) ?_
  refine b_size X hH (by decide) rfl (fun hz => ?_)
  refine bGv (b_irun (rest := [.ref (B.2.2.1 + 172), .ref (B.2.2.1 + 155)]) X (k_row l B 173 (uX1_13 B e f g) 172 (by decide) .null (show (uX1_13 B e f g) 172 = eRow0 from rfl) 10 10 (by decide) (by decide) (by decide) (by decide)) rfl bw503 bw166 bw91 bw167 kn_X5_init ⟨rfl, rfl, Nat.le_of_ble_eq_true rfl, Nat.le_of_ble_eq_true rfl⟩ hH hS hz hl rfl (Nat.le_of_ble_eq_true rfl) dX1_init_67 ⟨Nat.le_of_ble_eq_true rfl, Nat.le_of_ble_eq_true rfl⟩) hS (fun H locs hH hS => ?_)
  have hH : bH B 174 (uX1_14 B e f g) H := hH
  refine b_putF (C := RX1) (T := TX1) (N := 10) X rfl hH hS 155 (by decide) (show (uX1_14 B e f g) 155 = .inr (2, [.ref (B.2.2.1 + 156), .ref (B.2.2.1 + 160), .ref (B.2.2.1 + 164), .ref (B.2.2.1 + 168), .ref (B.2.2.1 + 170), .null, .null, .null, .null, .null]) from rfl) rfl inBX1 tyX1 tyX1_ok nmX1 5 (by decide) bw513 rfl rfl rfl rfl (Nat.le_of_ble_eq_true rfl) dX1_init_70 (fun H locs hH hS => ?_)
  have hH : bH B 174 (uX1_15 B e f g) H := hH
  refine lv_aload_n hx hb dX1_init_73 rfl (lv_at hl 0 rfl) ?_
  refine b_new (ci := 6) (fs := [.null, .int 0]) X hH hS rfl rfl inBX5 tyX5 tyX5_ok bw502 bw164 bw91 (by decide) (Nat.le_of_ble_eq_true rfl) (Nat.le_of_ble_eq_true rfl) dX1_init_74 (fun H hH hS => ?_)
  have hH : bH B 175 (uX1_16 B e f g) H := hH
  refine lv_dup hx hb dX1_init_77 rfl ?_
  refine lv_bipush (v := 10) hx hb dX1_init_78 (by decide) ?_
  refine b_size X hH (by decide) rfl (fun hz => ?_)
  refine bGv (b_irun (rest := [.ref (B.2.2.1 + 174), .ref (B.2.2.1 + 155)]) X (k_row l B 175 (uX1_16 B e f g) 174 (by decide) .null (show (uX1_16 B e f g) 174 = eRow0 from rfl) 10 10 (by decide) (by decide) (by decide) (by decide)) rfl bw503 bw166 bw91 bw167 kn_X5_init ⟨rfl, rfl, Nat.le_of_ble_eq_true rfl, Nat.le_of_ble_eq_true rfl⟩ hH hS hz hl rfl (Nat.le_of_ble_eq_true rfl) dX1_init_80 ⟨Nat.le_of_ble_eq_true rfl, Nat.le_of_ble_eq_true rfl⟩) hS (fun H locs hH hS => ?_)
  have hH : bH B 176 (uX1_17 B e f g) H := hH
  refine b_putF (C := RX1) (T := TX1) (N := 10) X rfl hH hS 155 (by decide) (show (uX1_17 B e f g) 155 = .inr (2, [.ref (B.2.2.1 + 156), .ref (B.2.2.1 + 160), .ref (B.2.2.1 + 164), .ref (B.2.2.1 + 168), .ref (B.2.2.1 + 170), .ref (B.2.2.1 + 172), .null, .null, .null, .null]) from rfl) rfl inBX1 tyX1 tyX1_ok nmX1 6 (by decide) bw514 rfl rfl rfl rfl (Nat.le_of_ble_eq_true rfl) dX1_init_83 (fun H locs hH hS => ?_)
  have hH : bH B 176 (uX1_18 B e f g) H := hH
  refine lv_aload_n hx hb dX1_init_86 rfl (lv_at hl 0 rfl) ?_
  refine b_new (ci := 6) (fs := [.null, .int 0]) X hH hS rfl rfl inBX5 tyX5 tyX5_ok bw502 bw164 bw91 (by decide) (Nat.le_of_ble_eq_true rfl) (Nat.le_of_ble_eq_true rfl) dX1_init_87 (fun H hH hS => ?_)
  have hH : bH B 177 (uX1_19 B e f g) H := hH
  refine lv_dup hx hb dX1_init_90 rfl ?_
  refine lv_sipush (v := 1024) hx hb dX1_init_91 (by decide) ?_
  refine b_size X hH (by decide) rfl (fun hz => ?_)
  refine bGv (b_irun (rest := [.ref (B.2.2.1 + 176), .ref (B.2.2.1 + 155)]) X (k_row l B 177 (uX1_19 B e f g) 176 (by decide) .null (show (uX1_19 B e f g) 176 = eRow0 from rfl) 1024 1024 (by decide) (by decide) (by decide) (by decide)) rfl bw503 bw166 bw91 bw167 kn_X5_init ⟨rfl, rfl, Nat.le_of_ble_eq_true rfl, Nat.le_of_ble_eq_true rfl⟩ hH hS hz hl rfl (Nat.le_of_ble_eq_true rfl) dX1_init_94 ⟨Nat.le_of_ble_eq_true rfl, Nat.le_of_ble_eq_true rfl⟩) hS (fun H locs hH hS => ?_)
  have hH : bH B 178 (uX1_20 B e f g) H := hH
  refine b_putF (C := RX1) (T := TX1) (N := 10) X rfl hH hS 155 (by decide) (show (uX1_20 B e f g) 155 = .inr (2, [.ref (B.2.2.1 + 156), .ref (B.2.2.1 + 160), .ref (B.2.2.1 + 164), .ref (B.2.2.1 + 168), .ref (B.2.2.1 + 170), .ref (B.2.2.1 + 172), .ref (B.2.2.1 + 174), .null, .null, .null]) from rfl) rfl inBX1 tyX1 tyX1_ok nmX1 7 (by decide) bw515 rfl rfl rfl rfl (Nat.le_of_ble_eq_true rfl) dX1_init_97 (fun H locs hH hS => ?_)
  have hH : bH B 178 (uX1_21 B e f g) H := hH
  refine lv_aload_n hx hb dX1_init_100 rfl (lv_at hl 0 rfl) ?_
  refine b_new (ci := 6) (fs := [.null, .int 0]) X hH hS rfl rfl inBX5 tyX5 tyX5_ok bw502 bw164 bw91 (by decide) (Nat.le_of_ble_eq_true rfl) (Nat.le_of_ble_eq_true rfl) dX1_init_101 (fun H hH hS => ?_)
  have hH : bH B 179 (uX1_22 B e f g) H := hH
  refine lv_dup hx hb dX1_init_104 rfl ?_
  refine lv_sipush (v := 1024) hx hb dX1_init_105 (by decide) ?_
  refine b_size X hH (by decide) rfl (fun hz => ?_)
  refine bGv (b_irun (rest := [.ref (B.2.2.1 + 178), .ref (B.2.2.1 + 155)]) X (k_row l B 179 (uX1_22 B e f g) 178 (by decide) .null (show (uX1_22 B e f g) 178 = eRow0 from rfl) 1024 1024 (by decide) (by decide) (by decide) (by decide)) rfl bw503 bw166 bw91 bw167 kn_X5_init ⟨rfl, rfl, Nat.le_of_ble_eq_true rfl, Nat.le_of_ble_eq_true rfl⟩ hH hS hz hl rfl (Nat.le_of_ble_eq_true rfl) dX1_init_108 ⟨Nat.le_of_ble_eq_true rfl, Nat.le_of_ble_eq_true rfl⟩) hS (fun H locs hH hS => ?_)
  have hH : bH B 180 (uX1_23 B e f g) H := hH
  refine b_putF (C := RX1) (T := TX1) (N := 10) X rfl hH hS 155 (by decide) (show (uX1_23 B e f g) 155 = .inr (2, [.ref (B.2.2.1 + 156), .ref (B.2.2.1 + 160), .ref (B.2.2.1 + 164), .ref (B.2.2.1 + 168), .ref (B.2.2.1 + 170), .ref (B.2.2.1 + 172), .ref (B.2.2.1 + 174), .ref (B.2.2.1 + 176), .null, .null]) from rfl) rfl inBX1 tyX1 tyX1_ok nmX1 8 (by decide) bw516 rfl rfl rfl rfl (Nat.le_of_ble_eq_true rfl) dX1_init_111 (fun H locs hH hS => ?_)
  have hH : bH B 180 (uX1_24 B e f g) H := hH
  refine lv_aload_n hx hb dX1_init_114 rfl (lv_at hl 0 rfl) ?_
  refine b_new (ci := 6) (fs := [.null, .int 0]) X hH hS rfl rfl inBX5 tyX5 tyX5_ok bw502 bw164 bw91 (by decide) (Nat.le_of_ble_eq_true rfl) (Nat.le_of_ble_eq_true rfl) dX1_init_115 (fun H hH hS => ?_)
  have hH : bH B 181 (uX1_25 B e f g) H := hH
  refine lv_dup hx hb dX1_init_118 rfl ?_
  refine lv_sipush (v := 1024) hx hb dX1_init_119 (by decide) ?_
  refine b_size X hH (by decide) rfl (fun hz => ?_)
  refine bGv (b_irun (rest := [.ref (B.2.2.1 + 180), .ref (B.2.2.1 + 155)]) X (k_row l B 181 (uX1_25 B e f g) 180 (by decide) .null (show (uX1_25 B e f g) 180 = eRow0 from rfl) 1024 1024 (by decide) (by decide) (by decide) (by decide)) rfl bw503 bw166 bw91 bw167 kn_X5_init ⟨rfl, rfl, Nat.le_of_ble_eq_true rfl, Nat.le_of_ble_eq_true rfl⟩ hH hS hz hl rfl (Nat.le_of_ble_eq_true rfl) dX1_init_122 ⟨Nat.le_of_ble_eq_true rfl, Nat.le_of_ble_eq_true rfl⟩) hS (fun H locs hH hS => ?_)
  have hH : bH B 182 (uX1_26 B e f g) H := hH
  refine b_putF (C := RX1) (T := TX1) (N := 10) X rfl hH hS 155 (by decide) (show (uX1_26 B e f g) 155 = .inr (2, [.ref (B.2.2.1 + 156), .ref (B.2.2.1 + 160), .ref (B.2.2.1 + 164), .ref (B.2.2.1 + 168), .ref (B.2.2.1 + 170), .ref (B.2.2.1 + 172), .ref (B.2.2.1 + 174), .ref (B.2.2.1 + 176), .ref (B.2.2.1 + 178), .null]) from rfl) rfl inBX1 tyX1 tyX1_ok nmX1 9 (by decide) bw517 rfl rfl rfl rfl (Nat.le_of_ble_eq_true rfl) dX1_init_125 (fun H locs hH hS => ?_)
  have hH : bH B 182 (uX1_27 B e f g) H := hH
  exact bEv X hH hS (Nat.le_of_ble_eq_true rfl) (Nat.le_of_ble_eq_true rfl) dX1_init_128
abbrev uX3_1 (B : BX) (e : Nat → va_E) (f g : Nat → Option Nat) : Nat → va_E := uPlN B e 183 6 2 132 3 135 33 f g 30
abbrev faX3_1 (B : BX) (f : Nat → Option Nat) : Nat → Option Nat := (va_up f 30 (some (B.2.2.1 + 183)))
abbrev fbX3_1 (B : BX) (g : Nat → Option Nat) : Nat → Option Nat := (va_up g 30 (some (B.2.2.1 + (183 + 2))))
abbrev uX3_2 (B : BX) (e : Nat → va_E) (f g : Nat → Option Nat) : Nat → va_E := uE (uX3_1 B e f g) 182 (.inr (4, [.ref (B.2.2.1 + 183), .null, .null, .null, .null, .null, .null]))
abbrev uX3_3 (B : BX) (e : Nat → va_E) (f g : Nat → Option Nat) : Nat → va_E := uPlN B (uX3_2 B e f g) 187 6 2 132 3 135 33 (faX3_1 B f) (fbX3_1 B g) 31
abbrev faX3_2 (B : BX) (f : Nat → Option Nat) : Nat → Option Nat := (va_up (faX3_1 B f) 31 (some (B.2.2.1 + 187)))
abbrev fbX3_2 (B : BX) (g : Nat → Option Nat) : Nat → Option Nat := (va_up (fbX3_1 B g) 31 (some (B.2.2.1 + (187 + 2))))
abbrev uX3_4 (B : BX) (e : Nat → va_E) (f g : Nat → Option Nat) : Nat → va_E := uE (uX3_3 B e f g) 182 (.inr (4, [.ref (B.2.2.1 + 183), .ref (B.2.2.1 + 187), .null, .null, .null, .null, .null]))
abbrev uX3_5 (B : BX) (e : Nat → va_E) (f g : Nat → Option Nat) : Nat → va_E := uPlN B (uX3_4 B e f g) 191 6 2 132 3 135 33 (faX3_2 B f) (fbX3_2 B g) 32
abbrev faX3_3 (B : BX) (f : Nat → Option Nat) : Nat → Option Nat := (va_up (faX3_2 B f) 32 (some (B.2.2.1 + 191)))
abbrev fbX3_3 (B : BX) (g : Nat → Option Nat) : Nat → Option Nat := (va_up (fbX3_2 B g) 32 (some (B.2.2.1 + (191 + 2))))
abbrev uX3_6 (B : BX) (e : Nat → va_E) (f g : Nat → Option Nat) : Nat → va_E := uE (uX3_5 B e f g) 182 (.inr (4, [.ref (B.2.2.1 + 183), .ref (B.2.2.1 + 187), .ref (B.2.2.1 + 191), .null, .null, .null, .null]))
abbrev uX3_7 (B : BX) (e : Nat → va_E) (f g : Nat → Option Nat) : Nat → va_E := uPlG B (uX3_6 B e f g) 195 20 2 3 49 (faX3_3 B f) (fbX3_3 B g) 33
abbrev faX3_4 (B : BX) (f : Nat → Option Nat) : Nat → Option Nat := (va_up (fCut (faX3_3 B f) 33) 33 (some (B.2.2.1 + 195)))
abbrev fbX3_4 (B : BX) (g : Nat → Option Nat) : Nat → Option Nat := (va_up (fCut (fbX3_3 B g) 33) 33 (some (B.2.2.1 + (195 + 3))))
abbrev uX3_8 (B : BX) (e : Nat → va_E) (f g : Nat → Option Nat) : Nat → va_E := uE (uX3_7 B e f g) 182 (.inr (4, [.ref (B.2.2.1 + 183), .ref (B.2.2.1 + 187), .ref (B.2.2.1 + 191), .ref (B.2.2.1 + 195), .null, .null, .null]))
abbrev uX3_9 (B : BX) (e : Nat → va_E) (f g : Nat → Option Nat) : Nat → va_E := uPlN B (uX3_8 B e f g) 201 20 2 197 3 200 49 (faX3_4 B f) (fbX3_4 B g) 34
abbrev faX3_5 (B : BX) (f : Nat → Option Nat) : Nat → Option Nat := (va_up (faX3_4 B f) 34 (some (B.2.2.1 + 201)))
abbrev fbX3_5 (B : BX) (g : Nat → Option Nat) : Nat → Option Nat := (va_up (fbX3_4 B g) 34 (some (B.2.2.1 + (201 + 2))))
abbrev uX3_10 (B : BX) (e : Nat → va_E) (f g : Nat → Option Nat) : Nat → va_E := uE (uX3_9 B e f g) 182 (.inr (4, [.ref (B.2.2.1 + 183), .ref (B.2.2.1 + 187), .ref (B.2.2.1 + 191), .ref (B.2.2.1 + 195), .ref (B.2.2.1 + 201), .null, .null]))
abbrev uX3_11 (B : BX) (e : Nat → va_E) (f g : Nat → Option Nat) : Nat → va_E := uPlN B (uX3_10 B e f g) 205 20 2 197 3 200 49 (faX3_5 B f) (fbX3_5 B g) 35
abbrev faX3_6 (B : BX) (f : Nat → Option Nat) : Nat → Option Nat := (va_up (faX3_5 B f) 35 (some (B.2.2.1 + 205)))
abbrev fbX3_6 (B : BX) (g : Nat → Option Nat) : Nat → Option Nat := (va_up (fbX3_5 B g) 35 (some (B.2.2.1 + (205 + 2))))
abbrev uX3_12 (B : BX) (e : Nat → va_E) (f g : Nat → Option Nat) : Nat → va_E := uE (uX3_11 B e f g) 182 (.inr (4, [.ref (B.2.2.1 + 183), .ref (B.2.2.1 + 187), .ref (B.2.2.1 + 191), .ref (B.2.2.1 + 195), .ref (B.2.2.1 + 201), .ref (B.2.2.1 + 205), .null]))
abbrev uX3_13 (B : BX) (e : Nat → va_E) (f g : Nat → Option Nat) : Nat → va_E := uPlN B (uX3_12 B e f g) 209 8 2 197 3 200 49 (faX3_6 B f) (fbX3_6 B g) 36
abbrev faX3_7 (B : BX) (f : Nat → Option Nat) : Nat → Option Nat := (va_up (faX3_6 B f) 36 (some (B.2.2.1 + 209)))
abbrev fbX3_7 (B : BX) (g : Nat → Option Nat) : Nat → Option Nat := (va_up (fbX3_6 B g) 36 (some (B.2.2.1 + (209 + 2))))
abbrev uX3_14 (B : BX) (e : Nat → va_E) (f g : Nat → Option Nat) : Nat → va_E := uE (uX3_13 B e f g) 182 (.inr (4, [.ref (B.2.2.1 + 183), .ref (B.2.2.1 + 187), .ref (B.2.2.1 + 191), .ref (B.2.2.1 + 195), .ref (B.2.2.1 + 201), .ref (B.2.2.1 + 205), .ref (B.2.2.1 + 209)]))
set_option maxHeartbeats 4000000 in
set_option maxRecDepth 100000 in
theorem k_X3 (l : Launch) (B : BX) (e : Nat → va_E) (f g : Nat → Option Nat) (he1 : e 1 = eShf B 2 3) (he2 : e 2 = eLst B 132 30) (he3 : e 3 = eLst B 135 30) (he132 : e 132 = eQ B 33 f) (he135 : e 135 = eQ B 33 g) (he182 : e 182 = .inr (4, [.null, .null, .null, .null, .null, .null, .null])) (hrf195 : RWS B 195 (uX3_6 B e f g) (faX3_3 B f)) (hrg195 : RWS B 195 (uX3_6 B e f g) (fbX3_3 B g)) : MBx l B yX3_init cX3_init 2 none (rmB 8 30 298 320) [.ref (B.2.2.1 + 182), .ref (B.2.2.1 + 1)] 183 e (BV B 213 (uX3_14 B e f g)) 30 298 := by
  refine bM_start (by decide +kernel) (Nat.le_of_ble_eq_true rfl) ?_
  intro p env s m below meth c ls X hH hl
  have hS : va_S (bA B) s.heap s.heap [] := va_S.rf
  have hx := X.1.1
  have hb := X.1.2.1
  have hl : lv_has ls 2 [(0, .ref (B.2.2.1 + 182)), (1, .ref (B.2.2.1 + 1))] := hl
  refine lv_aload_n hx hb dX3_init_0 rfl (lv_at hl 0 rfl) ?_
  refine b_obj X hl bw544 bw118 bw119 ⟨Nat.le_of_ble_eq_true rfl, Nat.le_of_ble_eq_true rfl⟩ dX3_init_1 ?_
  refine lv_aload_n hx hb dX3_init_4 rfl (lv_at hl 0 rfl) ?_
  refine lv_aload_n hx hb dX3_init_5 rfl (lv_at hl 1 rfl) ?_
  refine lv_bipush (v := 6) hx hb dX3_init_6 (by decide) ?_
  refine b_size X hH (by decide) rfl (fun hz => ?_)
  refine bGr (b_vrun (rest := [.ref (B.2.2.1 + 182)]) X (k_plN l B 183 e 1 2 3 132 135 (by decide) (by decide) (by decide) (by decide) (by decide) (by decide) (show e 1 = eShf B 2 3 from he1) 30 (show e 2 = eLst B 132 30 from he2) (show e 3 = eLst B 135 30 from he3) 33 (by decide) (by decide) f g (show e 132 = eQ B 33 f from he132) (show e 135 = eQ B 33 g from he135) 6 6 (by decide) (by decide) (by decide) (by decide)) bw545 bw160 bw161 bw87 bw162 kn_X7_place ⟨rfl, rfl, Nat.le_of_ble_eq_true rfl, Nat.le_of_ble_eq_true rfl⟩ (b_rec X hH 1 (by decide) (show e 1 = eShf B 2 3 from he1) rfl) hH hS hz hl rfl (Nat.le_of_ble_eq_true rfl) dX3_init_8 ⟨Nat.le_of_ble_eq_true rfl, Nat.le_of_ble_eq_true rfl⟩) hS (fun H locs hH hS => ?_)
  have hH : bH B 187 (uX3_1 B e f g) H := hH
  refine b_putF (C := RX3) (T := TX3) (N := 7) X rfl hH hS 182 (by decide) (show (uX3_1 B e f g) 182 = .inr (4, [.null, .null, .null, .null, .null, .null, .null]) from he182) rfl inBX3 tyX3 tyX3_ok nmX3 0 (by decide) bw546 rfl rfl rfl rfl (Nat.le_of_ble_eq_true rfl) dX3_init_11 (fun H locs hH hS => ?_)
  have hH : bH B 187 (uX3_2 B e f g) H := hH
  refine lv_aload_n hx hb dX3_init_14 rfl (lv_at hl 0 rfl) ?_
  refine lv_aload_n hx hb dX3_init_15 rfl (lv_at hl 1 rfl) ?_
  refine lv_bipush (v := 6) hx hb dX3_init_16 (by decide) ?_
  refine b_size X hH (by decide) rfl (fun hz => ?_)
  refine bGr (b_vrun (rest := [.ref (B.2.2.1 + 182)]) X (k_plN l B 187 (uX3_2 B e f g) 1 2 3 132 135 (by decide) (by decide) (by decide) (by decide) (by decide) (by decide) (show (uX3_2 B e f g) 1 = eShf B 2 3 from he1) 31 (show (uX3_2 B e f g) 2 = eLst B 132 31 from rfl) (show (uX3_2 B e f g) 3 = eLst B 135 31 from rfl) 33 (by decide) (by decide) (faX3_1 B f) (fbX3_1 B g) (show (uX3_2 B e f g) 132 = eQ B 33 (faX3_1 B f) from rfl) (show (uX3_2 B e f g) 135 = eQ B 33 (fbX3_1 B g) from rfl) 6 6 (by decide) (by decide) (by decide) (by decide)) bw545 bw160 bw161 bw87 bw162 kn_X7_place ⟨rfl, rfl, Nat.le_of_ble_eq_true rfl, Nat.le_of_ble_eq_true rfl⟩ (b_rec X hH 1 (by decide) (show (uX3_2 B e f g) 1 = eShf B 2 3 from he1) rfl) hH hS hz hl rfl (Nat.le_of_ble_eq_true rfl) dX3_init_18 ⟨Nat.le_of_ble_eq_true rfl, Nat.le_of_ble_eq_true rfl⟩) hS (fun H locs hH hS => ?_)
  have hH : bH B 191 (uX3_3 B e f g) H := hH
  refine b_putF (C := RX3) (T := TX3) (N := 7) X rfl hH hS 182 (by decide) (show (uX3_3 B e f g) 182 = .inr (4, [.ref (B.2.2.1 + 183), .null, .null, .null, .null, .null, .null]) from rfl) rfl inBX3 tyX3 tyX3_ok nmX3 1 (by decide) bw548 rfl rfl rfl rfl (Nat.le_of_ble_eq_true rfl) dX3_init_21 (fun H locs hH hS => ?_)
  have hH : bH B 191 (uX3_4 B e f g) H := hH
  refine lv_aload_n hx hb dX3_init_24 rfl (lv_at hl 0 rfl) ?_
  refine lv_aload_n hx hb dX3_init_25 rfl (lv_at hl 1 rfl) ?_
  refine lv_bipush (v := 6) hx hb dX3_init_26 (by decide) ?_
  refine b_size X hH (by decide) rfl (fun hz => ?_)
  refine bGr (b_vrun (rest := [.ref (B.2.2.1 + 182)]) X (k_plN l B 191 (uX3_4 B e f g) 1 2 3 132 135 (by decide) (by decide) (by decide) (by decide) (by decide) (by decide) (show (uX3_4 B e f g) 1 = eShf B 2 3 from he1) 32 (show (uX3_4 B e f g) 2 = eLst B 132 32 from rfl) (show (uX3_4 B e f g) 3 = eLst B 135 32 from rfl) 33 (by decide) (by decide) (faX3_2 B f) (fbX3_2 B g) (show (uX3_4 B e f g) 132 = eQ B 33 (faX3_2 B f) from rfl) (show (uX3_4 B e f g) 135 = eQ B 33 (fbX3_2 B g) from rfl) 6 6 (by decide) (by decide) (by decide) (by decide)) bw545 bw160 bw161 bw87 bw162 kn_X7_place ⟨rfl, rfl, Nat.le_of_ble_eq_true rfl, Nat.le_of_ble_eq_true rfl⟩ (b_rec X hH 1 (by decide) (show (uX3_4 B e f g) 1 = eShf B 2 3 from he1) rfl) hH hS hz hl rfl (Nat.le_of_ble_eq_true rfl) dX3_init_28 ⟨Nat.le_of_ble_eq_true rfl, Nat.le_of_ble_eq_true rfl⟩) hS (fun H locs hH hS => ?_)
  have hH : bH B 195 (uX3_5 B e f g) H := hH
  refine b_putF (C := RX3) (T := TX3) (N := 7) X rfl hH hS 182 (by decide) (show (uX3_5 B e f g) 182 = .inr (4, [.ref (B.2.2.1 + 183), .ref (B.2.2.1 + 187), .null, .null, .null, .null, .null]) from rfl) rfl inBX3 tyX3 tyX3_ok nmX3 2 (by decide) bw550 rfl rfl rfl rfl (Nat.le_of_ble_eq_true rfl) dX3_init_31 (fun H locs hH hS => ?_)
  have hH : bH B 195 (uX3_6 B e f g) H := hH
  refine lv_aload_n hx hb dX3_init_34 rfl (lv_at hl 0 rfl) ?_
  refine lv_aload_n hx hb dX3_init_35 rfl (lv_at hl 1 rfl) ?_
  refine lv_bipush (v := 20) hx hb dX3_init_36 (by decide) ?_
  refine b_size X hH (by decide) rfl (fun hz => ?_)
  refine bGr (b_vrun (rest := [.ref (B.2.2.1 + 182)]) X (k_plG l B 195 (uX3_6 B e f g) 1 2 3 132 135 (by decide) (by decide) (by decide) (by decide) (by decide) (by decide) (show (uX3_6 B e f g) 1 = eShf B 2 3 from he1) 33 (show (uX3_6 B e f g) 2 = eLst B 132 33 from rfl) (show (uX3_6 B e f g) 3 = eLst B 135 33 from rfl) (faX3_3 B f) (fbX3_3 B g) (show (uX3_6 B e f g) 132 = eQ B 33 (faX3_3 B f) from rfl) (show (uX3_6 B e f g) 135 = eQ B 33 (fbX3_3 B g) from rfl) hrf195 hrg195 49 49 (by decide) (by decide) (by decide) (by decide) (by decide) (by decide) (by decide) (by decide) (by decide) 20 20 (by decide) (by decide) (by decide) (by decide)) bw545 bw160 bw161 bw87 bw162 kn_X7_place ⟨rfl, rfl, Nat.le_of_ble_eq_true rfl, Nat.le_of_ble_eq_true rfl⟩ (b_rec X hH 1 (by decide) (show (uX3_6 B e f g) 1 = eShf B 2 3 from he1) rfl) hH hS hz hl rfl (Nat.le_of_ble_eq_true rfl) dX3_init_38 ⟨Nat.le_of_ble_eq_true rfl, Nat.le_of_ble_eq_true rfl⟩) hS (fun H locs hH hS => ?_)
  have hH : bH B 201 (uX3_7 B e f g) H := hH
  refine b_putF (C := RX3) (T := TX3) (N := 7) X rfl hH hS 182 (by decide) (show (uX3_7 B e f g) 182 = .inr (4, [.ref (B.2.2.1 + 183), .ref (B.2.2.1 + 187), .ref (B.2.2.1 + 191), .null, .null, .null, .null]) from rfl) rfl inBX3 tyX3 tyX3_ok nmX3 3 (by decide) bw551 rfl rfl rfl rfl (Nat.le_of_ble_eq_true rfl) dX3_init_41 (fun H locs hH hS => ?_)
  have hH : bH B 201 (uX3_8 B e f g) H := hH
  refine lv_aload_n hx hb dX3_init_44 rfl (lv_at hl 0 rfl) ?_
  refine lv_aload_n hx hb dX3_init_45 rfl (lv_at hl 1 rfl) ?_
  refine lv_bipush (v := 20) hx hb dX3_init_46 (by decide) ?_
  refine b_size X hH (by decide) rfl (fun hz => ?_)
  refine bGr (b_vrun (rest := [.ref (B.2.2.1 + 182)]) X (k_plN l B 201 (uX3_8 B e f g) 1 2 3 197 200 (by decide) (by decide) (by decide) (by decide) (by decide) (by decide) (show (uX3_8 B e f g) 1 = eShf B 2 3 from he1) 34 (show (uX3_8 B e f g) 2 = eLst B 197 34 from rfl) (show (uX3_8 B e f g) 3 = eLst B 200 34 from rfl) 49 (by decide) (by decide) (faX3_4 B f) (fbX3_4 B g) (show (uX3_8 B e f g) 197 = eQ B 49 (faX3_4 B f) from rfl) (show (uX3_8 B e f g) 200 = eQ B 49 (fbX3_4 B g) from rfl) 20 20 (by decide) (by decide) (by decide) (by decide)) bw545 bw160 bw161 bw87 bw162 kn_X7_place ⟨rfl, rfl, Nat.le_of_ble_eq_true rfl, Nat.le_of_ble_eq_true rfl⟩ (b_rec X hH 1 (by decide) (show (uX3_8 B e f g) 1 = eShf B 2 3 from he1) rfl) hH hS hz hl rfl (Nat.le_of_ble_eq_true rfl) dX3_init_48 ⟨Nat.le_of_ble_eq_true rfl, Nat.le_of_ble_eq_true rfl⟩) hS (fun H locs hH hS => ?_)
  have hH : bH B 205 (uX3_9 B e f g) H := hH
  refine b_putF (C := RX3) (T := TX3) (N := 7) X rfl hH hS 182 (by decide) (show (uX3_9 B e f g) 182 = .inr (4, [.ref (B.2.2.1 + 183), .ref (B.2.2.1 + 187), .ref (B.2.2.1 + 191), .ref (B.2.2.1 + 195), .null, .null, .null]) from rfl) rfl inBX3 tyX3 tyX3_ok nmX3 4 (by decide) bw552 rfl rfl rfl rfl (Nat.le_of_ble_eq_true rfl) dX3_init_51 (fun H locs hH hS => ?_)
  have hH : bH B 205 (uX3_10 B e f g) H := hH
  refine lv_aload_n hx hb dX3_init_54 rfl (lv_at hl 0 rfl) ?_
  refine lv_aload_n hx hb dX3_init_55 rfl (lv_at hl 1 rfl) ?_
  refine lv_bipush (v := 20) hx hb dX3_init_56 (by decide) ?_
  refine b_size X hH (by decide) rfl (fun hz => ?_)
  refine bGr (b_vrun (rest := [.ref (B.2.2.1 + 182)]) X (k_plN l B 205 (uX3_10 B e f g) 1 2 3 197 200 (by decide) (by decide) (by decide) (by decide) (by decide) (by decide) (show (uX3_10 B e f g) 1 = eShf B 2 3 from he1) 35 (show (uX3_10 B e f g) 2 = eLst B 197 35 from rfl) (show (uX3_10 B e f g) 3 = eLst B 200 35 from rfl) 49 (by decide) (by decide) (faX3_5 B f) (fbX3_5 B g) (show (uX3_10 B e f g) 197 = eQ B 49 (faX3_5 B f) from rfl) (show (uX3_10 B e f g) 200 = eQ B 49 (fbX3_5 B g) from rfl) 20 20 (by decide) (by decide) (by decide) (by decide)) bw545 bw160 bw161 bw87 bw162 kn_X7_place ⟨rfl, rfl, Nat.le_of_ble_eq_true rfl, Nat.le_of_ble_eq_true rfl⟩ (b_rec X hH 1 (by decide) (show (uX3_10 B e f g) 1 = eShf B 2 3 from he1) rfl) hH hS hz hl rfl (Nat.le_of_ble_eq_true rfl) dX3_init_58 ⟨Nat.le_of_ble_eq_true rfl, Nat.le_of_ble_eq_true rfl⟩) hS (fun H locs hH hS => ?_)
  have hH : bH B 209 (uX3_11 B e f g) H := hH
  refine b_putF (C := RX3) (T := TX3) (N := 7) X rfl hH hS 182 (by decide) (show (uX3_11 B e f g) 182 = .inr (4, [.ref (B.2.2.1 + 183), .ref (B.2.2.1 + 187), .ref (B.2.2.1 + 191), .ref (B.2.2.1 + 195), .ref (B.2.2.1 + 201), .null, .null]) from rfl) rfl inBX3 tyX3 tyX3_ok nmX3 5 (by decide) bw553 rfl rfl rfl rfl (Nat.le_of_ble_eq_true rfl) dX3_init_61 (fun H locs hH hS => ?_)
  have hH : bH B 209 (uX3_12 B e f g) H := hH
  refine lv_aload_n hx hb dX3_init_64 rfl (lv_at hl 0 rfl) ?_
  refine lv_aload_n hx hb dX3_init_65 rfl (lv_at hl 1 rfl) ?_
  refine lv_bipush (v := 8) hx hb dX3_init_66 (by decide) ?_
  refine b_size X hH (by decide) rfl (fun hz => ?_)
  refine bGr (b_vrun (rest := [.ref (B.2.2.1 + 182)]) X (k_plN l B 209 (uX3_12 B e f g) 1 2 3 197 200 (by decide) (by decide) (by decide) (by decide) (by decide) (by decide) (show (uX3_12 B e f g) 1 = eShf B 2 3 from he1) 36 (show (uX3_12 B e f g) 2 = eLst B 197 36 from rfl) (show (uX3_12 B e f g) 3 = eLst B 200 36 from rfl) 49 (by decide) (by decide) (faX3_6 B f) (fbX3_6 B g) (show (uX3_12 B e f g) 197 = eQ B 49 (faX3_6 B f) from rfl) (show (uX3_12 B e f g) 200 = eQ B 49 (fbX3_6 B g) from rfl) 8 8 (by decide) (by decide) (by decide) (by decide)) bw545 bw160 bw161 bw87 bw162 kn_X7_place ⟨rfl, rfl, Nat.le_of_ble_eq_true rfl, Nat.le_of_ble_eq_true rfl⟩ (b_rec X hH 1 (by decide) (show (uX3_12 B e f g) 1 = eShf B 2 3 from he1) rfl) hH hS hz hl rfl (Nat.le_of_ble_eq_true rfl) dX3_init_68 ⟨Nat.le_of_ble_eq_true rfl, Nat.le_of_ble_eq_true rfl⟩) hS (fun H locs hH hS => ?_)
  have hH : bH B 213 (uX3_13 B e f g) H := hH
  refine b_putF (C := RX3) (T := TX3) (N := 7) X rfl hH hS 182 (by decide) (show (uX3_13 B e f g) 182 = .inr (4, [.ref (B.2.2.1 + 183), .ref (B.2.2.1 + 187), .ref (B.2.2.1 + 191), .ref (B.2.2.1 + 195), .ref (B.2.2.1 + 201), .ref (B.2.2.1 + 205), .null]) from rfl) rfl inBX3 tyX3 tyX3_ok nmX3 6 (by decide) bw555 rfl rfl rfl rfl (Nat.le_of_ble_eq_true rfl) dX3_init_71 (fun H locs hH hS => ?_)
  have hH : bH B 213 (uX3_14 B e f g) H := hH
  exact bEv X hH hS (Nat.le_of_ble_eq_true rfl) (Nat.le_of_ble_eq_true rfl) dX3_init_74
abbrev uX11_1 (B : BX) (e : Nat → va_E) : Nat → va_E := uE e 1 (.inr (8, [.null, .null]))
abbrev uX11_2 (B : BX) (e : Nat → va_E) : Nat → va_E := uE (uE (uE (uX11_1 B e) 2 (eLst0 B)) 3 (eLst0 B)) 1 (eShf B 2 3)
abbrev uX11_3 (B : BX) (e : Nat → va_E) : Nat → va_E := uE (uX11_2 B e) 0 (.inr (12, [.ref (B.2.2.1 + 1), .null, .null, .null, .null, .null, .null, .null, .null, .null, .null, .null, .int 0]))
abbrev uX11_4 (B : BX) (e : Nat → va_E) : Nat → va_E := uPlF B (uX11_3 B e) 4 1 2 3
abbrev faX11_1 (B : BX) : Nat → Option Nat := (va_up (fun _ => none) 0 (some (B.2.2.1 + 4)))
abbrev fbX11_1 (B : BX) : Nat → Option Nat := (va_up (fun _ => none) 0 (some (B.2.2.1 + (4 + 3))))
abbrev uX11_5 (B : BX) (e : Nat → va_E) : Nat → va_E := uE (uX11_4 B e) 0 (.inr (12, [.ref (B.2.2.1 + 1), .ref (B.2.2.1 + 4), .null, .null, .null, .null, .null, .null, .null, .null, .null, .null, .int 0]))
abbrev uX11_6 (B : BX) (e : Nat → va_E) : Nat → va_E := uPlN B (uX11_5 B e) 10 120 2 6 3 9 10 (faX11_1 B) (fbX11_1 B) 1
abbrev faX11_2 (B : BX) : Nat → Option Nat := (va_up (faX11_1 B) 1 (some (B.2.2.1 + 10)))
abbrev fbX11_2 (B : BX) : Nat → Option Nat := (va_up (fbX11_1 B) 1 (some (B.2.2.1 + (10 + 2))))
abbrev uX11_7 (B : BX) (e : Nat → va_E) : Nat → va_E := uE (uX11_6 B e) 0 (.inr (12, [.ref (B.2.2.1 + 1), .ref (B.2.2.1 + 4), .ref (B.2.2.1 + 10), .null, .null, .null, .null, .null, .null, .null, .null, .null, .int 0]))
abbrev uX11_8 (B : BX) (e : Nat → va_E) : Nat → va_E := uE (uX11_7 B e) 14 (.inr (11, [.null, .null, .null, .null, .null, .null, .null, .null, .null, .int 0]))
abbrev uX11_9 (B : BX) (e : Nat → va_E) : Nat → va_E := uX10_18 B (uX11_8 B e) (faX11_2 B) (fbX11_2 B)
abbrev faX11_3 (B : BX) : Nat → Option Nat := (faX10_8 B (faX11_2 B))
abbrev fbX11_3 (B : BX) : Nat → Option Nat := (fbX10_8 B (fbX11_2 B))
abbrev uX11_10 (B : BX) (e : Nat → va_E) : Nat → va_E := uE (uX11_9 B e) 0 (.inr (12, [.ref (B.2.2.1 + 1), .ref (B.2.2.1 + 4), .ref (B.2.2.1 + 10), .ref (B.2.2.1 + 14), .null, .null, .null, .null, .null, .null, .null, .null, .int 0]))
abbrev uX11_11 (B : BX) (e : Nat → va_E) : Nat → va_E := uE (uX11_10 B e) 47 (.inr (1, [.int 0, .int 0, .int 0, .int 0, .int 0, .null, .null, .null]))
abbrev uX11_12 (B : BX) (e : Nat → va_E) : Nat → va_E := uX0_9 B (uX11_11 B e)
abbrev uX11_13 (B : BX) (e : Nat → va_E) : Nat → va_E := uE (uX11_12 B e) 0 (.inr (12, [.ref (B.2.2.1 + 1), .ref (B.2.2.1 + 4), .ref (B.2.2.1 + 10), .ref (B.2.2.1 + 14), .ref (B.2.2.1 + 47), .null, .null, .null, .null, .null, .null, .null, .int 0]))
abbrev uX11_14 (B : BX) (e : Nat → va_E) : Nat → va_E := uE (uX11_13 B e) 54 (.inr (10, [.null, .null]))
abbrev uX11_15 (B : BX) (e : Nat → va_E) : Nat → va_E := uX9_4 B (uX11_14 B e) (faX11_3 B) (fbX11_3 B)
abbrev faX11_4 (B : BX) : Nat → Option Nat := (faX9_2 B (faX11_3 B))
abbrev fbX11_4 (B : BX) : Nat → Option Nat := (fbX9_2 B (fbX11_3 B))
abbrev uX11_16 (B : BX) (e : Nat → va_E) : Nat → va_E := uE (uX11_15 B e) 0 (.inr (12, [.ref (B.2.2.1 + 1), .ref (B.2.2.1 + 4), .ref (B.2.2.1 + 10), .ref (B.2.2.1 + 14), .ref (B.2.2.1 + 47), .ref (B.2.2.1 + 54), .null, .null, .null, .null, .null, .null, .int 0]))
abbrev uX11_17 (B : BX) (e : Nat → va_E) : Nat → va_E := uE (uX11_16 B e) 65 (.inr (9, [.null, .null, .null, .null, .null, .null]))
abbrev uX11_18 (B : BX) (e : Nat → va_E) : Nat → va_E := uX8_14 B (uX11_17 B e) (faX11_4 B) (fbX11_4 B)
abbrev faX11_5 (B : BX) : Nat → Option Nat := (faX8_6 B (faX11_4 B))
abbrev fbX11_5 (B : BX) : Nat → Option Nat := (fbX8_6 B (fbX11_4 B))
abbrev uX11_19 (B : BX) (e : Nat → va_E) : Nat → va_E := uE (uX11_18 B e) 0 (.inr (12, [.ref (B.2.2.1 + 1), .ref (B.2.2.1 + 4), .ref (B.2.2.1 + 10), .ref (B.2.2.1 + 14), .ref (B.2.2.1 + 47), .ref (B.2.2.1 + 54), .ref (B.2.2.1 + 65), .null, .null, .null, .null, .null, .int 0]))
abbrev uX11_20 (B : BX) (e : Nat → va_E) : Nat → va_E := uE (uX11_19 B e) 92 (.inr (7, [.null, .null, .null, .null, .null, .null, .null, .null, .null, .null, .null, .null, .int 0, .int 0, .int 0, .int 0]))
abbrev uX11_21 (B : BX) (e : Nat → va_E) : Nat → va_E := uX6_32 B (uX11_20 B e)
abbrev uX11_22 (B : BX) (e : Nat → va_E) : Nat → va_E := uE (uX11_21 B e) 0 (.inr (12, [.ref (B.2.2.1 + 1), .ref (B.2.2.1 + 4), .ref (B.2.2.1 + 10), .ref (B.2.2.1 + 14), .ref (B.2.2.1 + 47), .ref (B.2.2.1 + 54), .ref (B.2.2.1 + 65), .ref (B.2.2.1 + 92), .null, .null, .null, .null, .int 0]))
abbrev uX11_23 (B : BX) (e : Nat → va_E) : Nat → va_E := uE (uX11_22 B e) 113 (.inr (5, [.null, .null, .null, .null, .null]))
abbrev uX11_24 (B : BX) (e : Nat → va_E) : Nat → va_E := uX4_10 B (uX11_23 B e) (faX11_5 B) (fbX11_5 B)
abbrev faX11_6 (B : BX) : Nat → Option Nat := (faX4_5 B (faX11_5 B))
abbrev fbX11_6 (B : BX) : Nat → Option Nat := (fbX4_5 B (fbX11_5 B))
abbrev uX11_25 (B : BX) (e : Nat → va_E) : Nat → va_E := uE (uX11_24 B e) 0 (.inr (12, [.ref (B.2.2.1 + 1), .ref (B.2.2.1 + 4), .ref (B.2.2.1 + 10), .ref (B.2.2.1 + 14), .ref (B.2.2.1 + 47), .ref (B.2.2.1 + 54), .ref (B.2.2.1 + 65), .ref (B.2.2.1 + 92), .ref (B.2.2.1 + 113), .null, .null, .null, .int 0]))
abbrev uX11_26 (B : BX) (e : Nat → va_E) : Nat → va_E := uE (uX11_25 B e) 136 (.inr (3, [.null, .null, .null, .null, .null]))
abbrev uX11_27 (B : BX) (e : Nat → va_E) : Nat → va_E := uX2_11 B (uX11_26 B e) (faX11_6 B) (fbX11_6 B)
abbrev faX11_7 (B : BX) : Nat → Option Nat := (faX2_4 B (faX11_6 B))
abbrev fbX11_7 (B : BX) : Nat → Option Nat := (fbX2_4 B (fbX11_6 B))
abbrev uX11_28 (B : BX) (e : Nat → va_E) : Nat → va_E := uE (uX11_27 B e) 0 (.inr (12, [.ref (B.2.2.1 + 1), .ref (B.2.2.1 + 4), .ref (B.2.2.1 + 10), .ref (B.2.2.1 + 14), .ref (B.2.2.1 + 47), .ref (B.2.2.1 + 54), .ref (B.2.2.1 + 65), .ref (B.2.2.1 + 92), .ref (B.2.2.1 + 113), .ref (B.2.2.1 + 136), .null, .null, .int 0]))
abbrev uX11_29 (B : BX) (e : Nat → va_E) : Nat → va_E := uE (uX11_28 B e) 155 (.inr (2, [.null, .null, .null, .null, .null, .null, .null, .null, .null, .null]))
abbrev uX11_30 (B : BX) (e : Nat → va_E) : Nat → va_E := uX1_27 B (uX11_29 B e) (faX11_7 B) (fbX11_7 B)
abbrev faX11_8 (B : BX) : Nat → Option Nat := (faX1_3 B (faX11_7 B))
abbrev fbX11_8 (B : BX) : Nat → Option Nat := (fbX1_3 B (fbX11_7 B))
abbrev uX11_31 (B : BX) (e : Nat → va_E) : Nat → va_E := uE (uX11_30 B e) 0 (.inr (12, [.ref (B.2.2.1 + 1), .ref (B.2.2.1 + 4), .ref (B.2.2.1 + 10), .ref (B.2.2.1 + 14), .ref (B.2.2.1 + 47), .ref (B.2.2.1 + 54), .ref (B.2.2.1 + 65), .ref (B.2.2.1 + 92), .ref (B.2.2.1 + 113), .ref (B.2.2.1 + 136), .ref (B.2.2.1 + 155), .null, .int 0]))
abbrev uX11_32 (B : BX) (e : Nat → va_E) : Nat → va_E := uE (uX11_31 B e) 182 (.inr (4, [.null, .null, .null, .null, .null, .null, .null]))
abbrev uX11_33 (B : BX) (e : Nat → va_E) : Nat → va_E := uX3_14 B (uX11_32 B e) (faX11_8 B) (fbX11_8 B)
abbrev faX11_9 (B : BX) : Nat → Option Nat := (faX3_7 B (faX11_8 B))
abbrev fbX11_9 (B : BX) : Nat → Option Nat := (fbX3_7 B (fbX11_8 B))
abbrev uX11_34 (B : BX) (e : Nat → va_E) : Nat → va_E := uE (uX11_33 B e) 0 (.inr (12, [.ref (B.2.2.1 + 1), .ref (B.2.2.1 + 4), .ref (B.2.2.1 + 10), .ref (B.2.2.1 + 14), .ref (B.2.2.1 + 47), .ref (B.2.2.1 + 54), .ref (B.2.2.1 + 65), .ref (B.2.2.1 + 92), .ref (B.2.2.1 + 113), .ref (B.2.2.1 + 136), .ref (B.2.2.1 + 155), .ref (B.2.2.1 + 182), .int 0]))
abbrev uX11_35 (B : BX) (e : Nat → va_E) : Nat → va_E := uE (uX11_34 B e) 0 (.inr (12, [.ref (B.2.2.1 + 1), .ref (B.2.2.1 + 4), .ref (B.2.2.1 + 10), .ref (B.2.2.1 + 14), .ref (B.2.2.1 + 47), .ref (B.2.2.1 + 54), .ref (B.2.2.1 + 65), .ref (B.2.2.1 + 92), .ref (B.2.2.1 + 113), .ref (B.2.2.1 + 136), .ref (B.2.2.1 + 155), .ref (B.2.2.1 + 182), .int 0]))
