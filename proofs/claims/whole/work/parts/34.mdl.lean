def f_X12_enough_L92 (a1 : Int32) (q27 : (Int32 × CW)) (q37 : Int32) (v74_5 : Int32) (j159 : Int32 → Option (Int32 × CW)) : Nat → Int32 → Int32 → Option (Int32 × CW)
  | 0, _, _ => none
  | n92 + 1, v92_4, v92_6 => (if ((1660 + a1) < 0 ∨ 3250 ≤ (1660 + a1).toNatClampNeg) then none else (if (q27.2.1 0 (1660 + a1).toNatClampNeg) ≤ v92_6 then (j159 v92_4) else (Option.bind (f_X12_spares q27.2 a1 v74_5 v92_6 q37) fun q114 => (nmk (fun (z151_0 : Int32) => (nmk (v92_6 + 1) fun (x153 : Int32) => (f_X12_enough_L92 a1 q27 q37 v74_5 j159 n92 z151_0 x153))) fun j151 => (nmk (fun (_ : Unit) => (j151 v92_4)) fun j149 => (if q114 = 0 then (j149 ()) else (nmk (fun (_ : Unit) => (if (v74_5 < 0 ∨ 80 ≤ v74_5.toNatClampNeg) then none else (j151 (q27.2.1 4 v74_5.toNatClampNeg)))) fun j139 => (if v92_4 = (-5) then (j139 ()) else (if (v74_5 < 0 ∨ 80 ≤ v74_5.toNatClampNeg) then none else (if v92_4 ≤ (q27.2.1 4 v74_5.toNatClampNeg) then (j149 ()) else (j139 ())))))))))))
def f_X12_enough_L74 (a1 : Int32) (q27 : (Int32 × CW)) (q37 : Int32) : Nat → Int32 → Int32 → Option (Int32 × CW)
  | 0, _, _ => none
  | n74 + 1, v74_4, v74_5 => (if (q27.2.2.2 13) ≤ v74_5 then (some (v74_4, q27.2)) else (if q37 = (-5) then (some (v74_4, q27.2)) else (nmk (fun (y159_4 : Int32) => (nmk (v74_5 + 1) fun (x159 : Int32) => (f_X12_enough_L74 a1 q27 q37 n74 y159_4 x159))) fun j159 => (f_X12_enough_L92 a1 q27 q37 v74_5 j159 FU v74_4 0))))
def f_X12_enough (w : CW) (a1 : Int32) (a2 : Int32) : Option (Int32 × CW) := (Option.bind (f_X12_isVerse w a1) fun q2 => (if q2 = 0 then (some ((-1), w)) else (if (f_X12_in a2 0 2) = 0 then (some ((-1), w)) else (if ((0 : Int32) < 0 ∨ 3250 ≤ (0 : Int32).toNatClampNeg) then none else (Option.bind (f_X12_sets w a1 (w.1 0 (0 : Int32).toNatClampNeg)) fun q27 => (if q27.1 = 0 then (some ((-9), q27.2)) else (Option.bind (f_X12_lacking q27.2) fun q37 => (if 2 ≤ a2 then (f_X12_enough_L74 a1 q27 q37 FU (-5) 0) else (some ((if a2 = 1 then q37 else (if q37 = (-5) then 1 else 0)), q27.2))))))))))
abbrev rm_X12_enough : Room := { frames := 7, cells := 0, slots := 0, locals := 156 }
theorem cn_X12_enough : CN yX12_enough 2 := ⟨by decide +kernel, by decide +kernel, by decide +kernel⟩
set_option maxHeartbeats 4000000 in
set_option maxRecDepth 100000 in
theorem c_X12_enough (l : Launch) (G : GX) (w : CW) (a1 : Int32) (a2 : Int32) (q : Int32 × CW) (hf : f_X12_enough w a1 a2 = some q) : MI l G yX12_enough cX12_enough 7 (some .int) rm_X12_enough [.ref (G.2.2.1 300), .int a1, .int a2] (rA G) (rH G w) (rH G q.2) q.1 := by
  refine cM_start (by decide +kernel) (Nat.le_of_ble_eq_true rfl) ?_
  intro p e s m below meth c ls X hH hl
  have hS : va_S (rA G) s.heap s.heap [] := va_S.rf
  have hx := X.1.1
  have hb := X.1.2.1
  generalize hargs : ([.ref (G.2.2.1 300), .int a1, .int a2] : List Value).toArray = args at X ⊢
  generalize hQ : MQ below (QI (rA G) (rH G q.2) q.1) args s 0 0 (rA G) = Q
  have hl : lv_has ls 7 [(0, .ref (G.2.2.1 300)), (1, .int a1), (2, .int a2)] := hl
  unfold f_X12_enough at hf
  refine lv_aload_n hx hb dX12_enough_0 rfl (lv_at hl 0 rfl) ?_
  refine lv_iload_n hx hb dX12_enough_1 rfl (lv_at hl 1 rfl) ?_
  obtain ⟨q2, hq2, hf⟩ := bd_s hf
  refine cGz (cVrun (rest := []) X (c_X12_isVerse l G w a1 q2 hq2) bw1585 bw1587 bw63 bw105 bw1588 cn_X12_isVerse ⟨rfl, rfl, Nat.le_of_ble_eq_true rfl, Nat.le_of_ble_eq_true rfl⟩ (r_rec X hH) rA_g hH hS hl rfl (Nat.le_of_ble_eq_true rfl) dX12_enough_2) hS (fun hz2 H locs hH hS => ?_)
  refine lv_if_eq (tgt := 17) hx hb dX12_enough_5 (by decide) (fun hc => ?_) (fun hc => ?_)
  · have hf := fo_t hc hf
    refine lv_iconst (v := (-1)) hx hb dX12_enough_17 (by decide) ?_
    subst hQ
    exact cEi X (rH2 (so_s hf) hH) hS (pf1 (so_s hf)) dX12_enough_18
  have hf := fo_f hc hf
  refine lv_iload_n hx hb dX12_enough_8 rfl (lv_at hl 2 rfl) ?_
  refine lv_iconst (v := 0) hx hb dX12_enough_9 (by decide) ?_
  refine lv_iconst (v := 2) hx hb dX12_enough_10 (by decide) ?_
  refine cGi (cSrun (rest := []) X (c_X12_in l G (rH G w) (rA G) rA_g a2 0 2 _ rfl) bw1477 bw1478 bw105 bw1479 cn_X12_in ⟨rfl, rfl, Nat.le_of_ble_eq_true rfl, Nat.le_of_ble_eq_true rfl⟩ rA_g hH hS hl rfl (Nat.le_of_ble_eq_true rfl) dX12_enough_11) hS (fun H locs hH hS => ?_)
  refine lv_if_ne (tgt := 19) hx hb dX12_enough_14 (by decide) (fun hc => ?_) (fun hc => ?_)
  rotate_left
  · have hf := fo_t hc hf
    refine lv_iconst (v := (-1)) hx hb dX12_enough_17 (by decide) ?_
    subst hQ
    exact cEi X (rH2 (so_s hf) hH) hS (pf1 (so_s hf)) dX12_enough_18
  have hf := fo_f hc hf
  refine lv_aload_n hx hb dX12_enough_19 rfl (lv_at hl 0 rfl) ?_
  refine lv_iload_n hx hb dX12_enough_20 rfl (lv_at hl 1 rfl) ?_
  refine lv_aload_n hx hb dX12_enough_21 rfl (lv_at hl 0 rfl) ?_
  refine ro_get (C := RX12) (N := 30) X hH 0 (by decide) rO rfl inBX12 1 (by decide) rfl bw1379 dX12_enough_22 ?_
  refine lv_iconst (v := 0) hx hb dX12_enough_25 (by decide) ?_
  by_cases hc : ((0 : Int32) < 0 ∨ 3250 ≤ (0 : Int32).toNatClampNeg)
  · cases (fo_t hc hf)
  have hf := fo_f hc hf
  refine ra_ld X hH 0 (by decide) (by decide) hc dX12_enough_26 ?_
  obtain ⟨q27, hq27, hf⟩ := bd_s hf
  refine cGz (cVrun (rest := []) X (c_X12_sets l G w a1 (w.1 0 (0 : Int32).toNatClampNeg) q27 hq27) bw1589 bw1591 bw64 bw105 bw1592 cn_X12_sets ⟨rfl, rfl, Nat.le_of_ble_eq_true rfl, Nat.le_of_ble_eq_true rfl⟩ (r_rec X hH) rA_g hH hS hl rfl (Nat.le_of_ble_eq_true rfl) dX12_enough_27) hS (fun hz27 H locs hH hS => ?_)
  refine lv_if_ne (tgt := 36) hx hb dX12_enough_30 (by decide) (fun hc => ?_) (fun hc => ?_)
  rotate_left
  · have hf := fo_t hc hf
    refine lv_bipush (v := (-9)) hx hb dX12_enough_33 (by decide) ?_
    subst hQ
    exact cEi X (rH2 (so_s hf) hH) hS (pf1 (so_s hf)) dX12_enough_35
  have hf := fo_f hc hf
  refine lv_aload_n hx hb dX12_enough_36 rfl (lv_at hl 0 rfl) ?_
  obtain ⟨q37, hq37, hf⟩ := bd_s hf
  refine cGi (cVrun (rest := []) X (c_X12_lacking l G q27.2 q37 hq37) bw1646 bw1648 bw76 bw105 bw1649 cn_X12_lacking ⟨rfl, rfl, Nat.le_of_ble_eq_true rfl, Nat.le_of_ble_eq_true rfl⟩ (r_rec X hH) rA_g hH hS hl rfl (Nat.le_of_ble_eq_true rfl) dX12_enough_37) hS (fun H locs hH hS => ?_)
  refine lv_istore_n (lv' := [(3, .int q37), (0, .ref (G.2.2.1 300)), (1, .int a1), (2, .int a2)]) hx hb dX12_enough_40 rfl hl (by decide) rfl (fun ls hl => ?_)
  refine lv_iload_n hx hb dX12_enough_41 rfl (lv_at hl 3 rfl) ?_
  refine lv_iconst (v := 2) hx hb dX12_enough_42 (by decide) ?_
  refine lv_icmp_ge (tgt := 67) hx hb dX12_enough_43 (by decide) (fun hc => ?_) (fun hc => ?_)
  rotate_left
  · have hf := fo_f hc hf
    refine lv_iload_n hx hb dX12_enough_46 rfl (lv_at hl 3 rfl) ?_
    refine lv_iconst (v := 1) hx hb dX12_enough_47 (by decide) ?_
    have hJ : ∀ (H : Heap) (locs : List Loc), rH G q27.2 H → va_S (rA G) s.heap H locs → W p l e rm_X12_enough s m args below meth c H locs 0 0 Q (F0 m 66 ls [.int (if a2 = 1 then q37 else (if q37 = (-5) then 1 else 0))]) := by
      intro H locs hH hS
      subst hQ
      exact cEi X (rH2 (so_s hf) hH) hS (pf1 (so_s hf)) dX12_enough_66
    refine lv_icmp_ne (tgt := 55) hx hb dX12_enough_48 (by decide) (fun hc48 => ?_) (fun hc48 => ?_)
    · refine lv_iload_n hx hb dX12_enough_55 rfl (lv_at hl 0 rfl) ?_
      refine lv_bipush (v := (-5)) hx hb dX12_enough_56 (by decide) ?_
      refine lv_icmp_ne (tgt := 65) hx hb dX12_enough_58 (by decide) (fun hc58 => ?_) (fun hc58 => ?_)
      · refine lv_iconst (v := 0) hx hb dX12_enough_65 (by decide) ?_
        exact W.eq (by rw [if_neg hc48, if_neg hc58] <;> rfl) (hJ _ _ hH hS)
      · refine lv_iconst (v := 1) hx hb dX12_enough_61 (by decide) ?_
        refine lv_goto (tgt := 66) hx hb dX12_enough_62 (by decide) ?_
        exact W.eq (by rw [if_neg hc48, if_pos hc58] <;> rfl) (hJ _ _ hH hS)
    · refine lv_iload_n hx hb dX12_enough_51 rfl (lv_at hl 0 rfl) ?_
      refine lv_goto (tgt := 66) hx hb dX12_enough_52 (by decide) ?_
      exact W.eq (by rw [if_pos hc48] <;> rfl) (hJ _ _ hH hS)
  have hf := fo_t hc hf
  refine lv_bipush (v := (-5)) hx hb dX12_enough_67 (by decide) ?_
  refine lv_istore (lv' := [(4, .int (-5)), (3, .int q37), (0, .ref (G.2.2.1 300)), (1, .int a1), (2, .int a2)]) hx hb dX12_enough_69 hl (by decide) rfl (fun ls hl => ?_)
  refine lv_iconst (v := 0) hx hb dX12_enough_71 (by decide) ?_
  refine lv_istore (lv' := [(5, .int 0), (4, .int (-5)), (3, .int q37), (0, .ref (G.2.2.1 300)), (1, .int a1), (2, .int a2)]) hx hb dX12_enough_72 hl (by decide) rfl (fun ls hl => ?_)
  have hL74 : ∀ (n74 : Nat) (v74_4 : Int32) (v74_5 : Int32) (H : Heap) (locs : List Loc) (ls : Array Slot), f_X12_enough_L74 a1 q27 q37 n74 v74_4 v74_5 = some q → rH G q27.2 H → va_S (rA G) s.heap H locs → lv_has ls 7 [(5, .int v74_5), (4, .int v74_4), (3, .int q37), (0, .ref (G.2.2.1 300)), (1, .int a1)] → W p l e rm_X12_enough s m args below meth c H locs 0 0 Q (F0 m 74 ls []) := by
    intro n74
    induction n74 with
    | zero => intro v74_4 v74_5 H locs ls hf; rw [f_X12_enough_L74] at hf; cases hf
    | succ n74 ih74 =>
      intro v74_4 v74_5 H locs ls hf hH hS hl
      rw [f_X12_enough_L74] at hf
      refine lv_iload hx hb dX12_enough_74 (lv_at hl 0 rfl) ?_
      refine lv_aload_n hx hb dX12_enough_76 rfl (lv_at hl 3 rfl) ?_
      refine ro_get (C := RX12) (N := 30) X hH 0 (by decide) rO rfl inBX12 13 (by decide) rfl bw1391 dX12_enough_77 ?_
      refine lv_icmp_ge (tgt := 165) hx hb dX12_enough_80 (by decide) (fun hc => ?_) (fun hc => ?_)
      · have hf := fo_t hc hf
        refine lv_iload hx hb dX12_enough_165 (lv_at hl 1 rfl) ?_
        subst hQ
        exact cEi X (rH2 (so_s hf) hH) hS (pf1 (so_s hf)) dX12_enough_167
      have hf := fo_f hc hf
      refine lv_iload_n hx hb dX12_enough_83 rfl (lv_at hl 2 rfl) ?_
      refine lv_bipush (v := (-5)) hx hb dX12_enough_84 (by decide) ?_
      refine lv_icmp_eq (tgt := 165) hx hb dX12_enough_86 (by decide) (fun hc => ?_) (fun hc => ?_)
      · have hf := fo_t hc hf
        refine lv_iload hx hb dX12_enough_165 (lv_at hl 1 rfl) ?_
        subst hQ
        exact cEi X (rH2 (so_s hf) hH) hS (pf1 (so_s hf)) dX12_enough_167
      have hf := fo_f hc hf
      refine lv_iconst (v := 0) hx hb dX12_enough_89 (by decide) ?_
      refine lv_istore (lv' := [(6, .int 0), (5, .int v74_5), (4, .int v74_4), (3, .int q37), (0, .ref (G.2.2.1 300)), (1, .int a1)]) hx hb dX12_enough_90 hl (by decide) rfl (fun ls hl => ?_)
      obtain ⟨j159, ej159, hf⟩ := nm_x hf
      have hj159 : ∀ (y159_4 : Int32) (H : Heap) (locs : List Loc) (ls : Array Slot), j159 y159_4 = some q → rH G q27.2 H → va_S (rA G) s.heap H locs → lv_has ls 7 [(5, .int v74_5), (4, .int y159_4), (3, .int q37), (0, .ref (G.2.2.1 300)), (1, .int a1)] → W p l e rm_X12_enough s m args below meth c H locs 0 0 Q (F0 m 159 ls []) := by
        intro y159_4 H locs ls hf hH hS hl
        have hf := jb1 ej159 hf
        obtain ⟨x159, ex159⟩ : ∃ z : Int32, z = (v74_5 + 1) := ⟨_, rfl⟩
        have hf := nm_s hf x159 ex159
        refine lv_iinc (v := x159) (lv' := [(5, .int x159), (4, .int y159_4), (3, .int q37), (0, .ref (G.2.2.1 300)), (1, .int a1)]) hx hb dX12_enough_159 hl (k := 0) rfl (by rw [ex159]; rfl) (by decide) rfl (fun ls hl => ?_)
        refine lv_goto (tgt := 74) hx hb dX12_enough_162 (by decide) ?_
        exact ih74 _ _ _ _ _ hf hH hS (lv_sub hl [0, 1, 2, 3, 4] rfl)
      have hL92 : ∀ (n92 : Nat) (v92_4 : Int32) (v92_6 : Int32) (H : Heap) (locs : List Loc) (ls : Array Slot), f_X12_enough_L92 a1 q27 q37 v74_5 j159 n92 v92_4 v92_6 = some q → rH G q27.2 H → va_S (rA G) s.heap H locs → lv_has ls 7 [(6, .int v92_6), (5, .int v74_5), (4, .int v92_4), (3, .int q37), (0, .ref (G.2.2.1 300)), (1, .int a1)] → W p l e rm_X12_enough s m args below meth c H locs 0 0 Q (F0 m 92 ls []) := by
        intro n92
        induction n92 with
        | zero => intro v92_4 v92_6 H locs ls hf; rw [f_X12_enough_L92] at hf; cases hf
        | succ n92 ih92 =>
          intro v92_4 v92_6 H locs ls hf hH hS hl
          rw [f_X12_enough_L92] at hf
          refine lv_iload hx hb dX12_enough_92 (lv_at hl 0 rfl) ?_
          refine lv_aload_n hx hb dX12_enough_94 rfl (lv_at hl 4 rfl) ?_
          refine ro_get (C := RX12) (N := 30) X hH 0 (by decide) rO rfl inBX12 1 (by decide) rfl bw1379 dX12_enough_95 ?_
          refine lv_sipush (v := 1660) hx hb dX12_enough_98 (by decide) ?_
          refine lv_iload_n hx hb dX12_enough_101 rfl (lv_at hl 5 rfl) ?_
          refine lv_iadd hx hb dX12_enough_102 ?_
          by_cases hc : ((1660 + a1) < 0 ∨ 3250 ≤ (1660 + a1).toNatClampNeg)
          · cases (fo_t hc hf)
          have hf := fo_f hc hf
          refine ra_ld X hH 0 (by decide) (by decide) hc dX12_enough_103 ?_
          refine lv_icmp_ge (tgt := 159) hx hb dX12_enough_104 (by decide) (fun hc => ?_) (fun hc => ?_)
          · have hf := fo_t hc hf
            exact hj159 _ _ _ _ hf hH hS (lv_sub hl [1, 2, 3, 4, 5] rfl)
          have hf := fo_f hc hf
          refine lv_aload_n hx hb dX12_enough_107 rfl (lv_at hl 4 rfl) ?_
          refine lv_iload_n hx hb dX12_enough_108 rfl (lv_at hl 5 rfl) ?_
          refine lv_iload hx hb dX12_enough_109 (lv_at hl 1 rfl) ?_
          refine lv_iload hx hb dX12_enough_111 (lv_at hl 0 rfl) ?_
          refine lv_iload_n hx hb dX12_enough_113 rfl (lv_at hl 3 rfl) ?_
          obtain ⟨q114, hq114, hf⟩ := bd_s hf
          refine cGz (cVrun (rest := []) X (c_X12_spares l G q27.2 a1 v74_5 v92_6 q37 q114 hq114) bw1650 bw1652 bw77 bw105 bw1653 cn_X12_spares ⟨rfl, rfl, Nat.le_of_ble_eq_true rfl, Nat.le_of_ble_eq_true rfl⟩ (r_rec X hH) rA_g hH hS hl rfl (Nat.le_of_ble_eq_true rfl) dX12_enough_114) hS (fun hz114 H locs hH hS => ?_)
          obtain ⟨j151, ej151, hf⟩ := nm_x hf
          have hj151 : ∀ (z151_0 : Int32) (H : Heap) (locs : List Loc) (ls : Array Slot), j151 z151_0 = some q → rH G q27.2 H → va_S (rA G) s.heap H locs → lv_has ls 7 [(6, .int v92_6), (5, .int v74_5), (3, .int q37), (0, .ref (G.2.2.1 300)), (1, .int a1)] → W p l e rm_X12_enough s m args below meth c H locs 0 0 Q (F0 m 151 ls [.int z151_0]) := by
            intro z151_0 H locs ls hf hH hS hl
            have hf := jb1 ej151 hf
            refine lv_istore (lv' := [(4, .int z151_0), (6, .int v92_6), (5, .int v74_5), (3, .int q37), (0, .ref (G.2.2.1 300)), (1, .int a1)]) hx hb dX12_enough_151 hl (by decide) rfl (fun ls hl => ?_)
            obtain ⟨x153, ex153⟩ : ∃ z : Int32, z = (v92_6 + 1) := ⟨_, rfl⟩
            have hf := nm_s hf x153 ex153
            refine lv_iinc (v := x153) (lv' := [(6, .int x153), (4, .int z151_0), (5, .int v74_5), (3, .int q37), (0, .ref (G.2.2.1 300)), (1, .int a1)]) hx hb dX12_enough_153 hl (k := 1) rfl (by rw [ex153]; rfl) (by decide) rfl (fun ls hl => ?_)
            refine lv_goto (tgt := 92) hx hb dX12_enough_156 (by decide) ?_
            exact ih92 _ _ _ _ _ hf hH hS (lv_sub hl [0, 2, 1, 3, 4, 5] rfl)
          obtain ⟨j149, ej149, hf⟩ := nm_x hf
          have hj149 : ∀ (u0 : Unit) (H : Heap) (locs : List Loc) (ls : Array Slot), j149 u0 = some q → rH G q27.2 H → va_S (rA G) s.heap H locs → lv_has ls 7 [(6, .int v92_6), (5, .int v74_5), (4, .int v92_4), (3, .int q37), (0, .ref (G.2.2.1 300)), (1, .int a1)] → W p l e rm_X12_enough s m args below meth c H locs 0 0 Q (F0 m 149 ls []) := by
            intro u0 H locs ls hf hH hS hl
            have hf := jb1 ej149 hf
            refine lv_iload hx hb dX12_enough_149 (lv_at hl 2 rfl) ?_
            exact hj151 _ _ _ _ hf hH hS (lv_sub hl [0, 1, 3, 4, 5] rfl)
          refine lv_if_eq (tgt := 149) hx hb dX12_enough_117 (by decide) (fun hc => ?_) (fun hc => ?_)
          · have hf := fo_t hc hf
            exact hj149 () _ _ _ hf hH hS (lv_sub hl [0, 1, 2, 3, 4, 5] rfl)
          have hf := fo_f hc hf
          refine lv_iload hx hb dX12_enough_120 (lv_at hl 2 rfl) ?_
          refine lv_bipush (v := (-5)) hx hb dX12_enough_122 (by decide) ?_
          obtain ⟨j139, ej139, hf⟩ := nm_x hf
          have hj139 : ∀ (u0 : Unit) (H : Heap) (locs : List Loc) (ls : Array Slot), j139 u0 = some q → rH G q27.2 H → va_S (rA G) s.heap H locs → lv_has ls 7 [(6, .int v92_6), (5, .int v74_5), (3, .int q37), (0, .ref (G.2.2.1 300)), (1, .int a1)] → W p l e rm_X12_enough s m args below meth c H locs 0 0 Q (F0 m 139 ls []) := by
            intro u0 H locs ls hf hH hS hl
            have hf := jb1 ej139 hf
            refine lv_aload_n hx hb dX12_enough_139 rfl (lv_at hl 3 rfl) ?_
            refine ro_get (C := RX12) (N := 30) X hH 0 (by decide) rO rfl inBX12 9 (by decide) rfl bw1387 dX12_enough_140 ?_
            refine lv_iload hx hb dX12_enough_143 (lv_at hl 1 rfl) ?_
            by_cases hc : (v74_5 < 0 ∨ 80 ≤ v74_5.toNatClampNeg)
            · cases (fo_t hc hf)
            have hf := fo_f hc hf
            refine ra_ld X hH 4 (by decide) (by decide) hc dX12_enough_145 ?_
            refine lv_goto (tgt := 151) hx hb dX12_enough_146 (by decide) ?_
            exact hj151 _ _ _ _ hf hH hS (lv_sub hl [0, 1, 2, 3, 4] rfl)
          refine lv_icmp_eq (tgt := 139) hx hb dX12_enough_124 (by decide) (fun hc => ?_) (fun hc => ?_)
          · have hf := fo_t hc hf
            exact hj139 () _ _ _ hf hH hS (lv_sub hl [0, 1, 3, 4, 5] rfl)
          have hf := fo_f hc hf
          refine lv_aload_n hx hb dX12_enough_127 rfl (lv_at hl 4 rfl) ?_
          refine ro_get (C := RX12) (N := 30) X hH 0 (by decide) rO rfl inBX12 9 (by decide) rfl bw1387 dX12_enough_128 ?_
          refine lv_iload hx hb dX12_enough_131 (lv_at hl 1 rfl) ?_
          by_cases hc : (v74_5 < 0 ∨ 80 ≤ v74_5.toNatClampNeg)
          · cases (fo_t hc hf)
          have hf := fo_f hc hf
          refine ra_ld X hH 4 (by decide) (by decide) hc dX12_enough_133 ?_
          refine lv_iload hx hb dX12_enough_134 (lv_at hl 2 rfl) ?_
          refine lv_icmp_ge (tgt := 149) hx hb dX12_enough_136 (by decide) (fun hc => ?_) (fun hc => ?_)
          · have hf := fo_t hc hf
            exact hj149 () _ _ _ hf hH hS (lv_sub hl [0, 1, 2, 3, 4, 5] rfl)
          have hf := fo_f hc hf
          exact hj139 () _ _ _ hf hH hS (lv_sub hl [0, 1, 3, 4, 5] rfl)
      exact hL92 _ _ _ _ _ _ hf hH hS (lv_sub hl [0, 1, 2, 3, 4, 5] rfl)
  exact hL74 _ _ _ _ _ _ hf hH hS (lv_sub hl [0, 1, 2, 3, 4] rfl)
def f_X12_page_L95 (x59 : Int32) (j146 : CW → Option (Int32 × CW)) : Nat → Int32 → CW → Option (Int32 × CW)
  | 0, _, _ => none
  | n95 + 1, v95_3, w95_ => (if 27 ≤ v95_3 then (j146 w95_) else (if (v95_3 < 0 ∨ 27 ≤ v95_3.toNatClampNeg) then none else (if (((2330 + (27 * x59)) + v95_3) < 0 ∨ 3250 ≤ ((2330 + (27 * x59)) + v95_3).toNatClampNeg) then none else (nmk (sC w95_ 0 ((2330 + (27 * x59)) + v95_3).toNatClampNeg (w95_.1 11 v95_3.toNatClampNeg)) fun w121 => (if ((50 + v95_3) < 0 ∨ 3250 ≤ (50 + v95_3).toNatClampNeg) then none else (if (v95_3 < 0 ∨ 27 ≤ v95_3.toNatClampNeg) then none else (if ((50 + v95_3) < 0 ∨ 3250 ≤ (50 + v95_3).toNatClampNeg) then none else (nmk (sC w121 0 (50 + v95_3).toNatClampNeg ((w121.1 0 (50 + v95_3).toNatClampNeg) - (w121.1 11 v95_3.toNatClampNeg))) fun w139 => (nmk (v95_3 + 1) fun (x140 : Int32) => (f_X12_page_L95 x59 j146 n95 x140 w139))))))))))
def f_X12_page (w : CW) (a1 : Int32) : Option (Int32 × CW) := (Option.bind (f_X12_isVerse w a1) fun q2 => (if q2 = 0 then (some ((-1), w)) else (if ((3 : Int32) < 0 ∨ 3250 ≤ (3 : Int32).toNatClampNeg) then none else (if (w.1 0 (3 : Int32).toNatClampNeg) = 20 then (some ((-4), w)) else (if ((0 : Int32) < 0 ∨ 3250 ≤ (0 : Int32).toNatClampNeg) then none else (Option.bind (f_X12_sets w a1 (w.1 0 (0 : Int32).toNatClampNeg)) fun q32 => (if q32.1 = 0 then (some ((-9), q32.2)) else (Option.bind (f_X12_lacking q32.2) fun q42 => (if q42 = (-5) then (if ((3 : Int32) < 0 ∨ 3250 ≤ (3 : Int32).toNatClampNeg) then none else (nmk (q32.2.1 0 (3 : Int32).toNatClampNeg) fun (x59 : Int32) => (if ((2270 + x59) < 0 ∨ 3250 ≤ (2270 + x59).toNatClampNeg) then none else (nmk (sC q32.2 0 (2270 + x59).toNatClampNeg a1) fun w70 => (if ((2290 + x59) < 0 ∨ 3250 ≤ (2290 + x59).toNatClampNeg) then none else (nmk (sC w70 0 (2290 + x59).toNatClampNeg 1) fun w81 => (if ((2310 + x59) < 0 ∨ 3250 ≤ (2310 + x59).toNatClampNeg) then none else (nmk (sC w81 0 (2310 + x59).toNatClampNeg 0) fun w92 => (nmk (fun (w146_ : CW) => (if ((3 : Int32) < 0 ∨ 3250 ≤ (3 : Int32).toNatClampNeg) then none else (if ((3 : Int32) < 0 ∨ 3250 ≤ (3 : Int32).toNatClampNeg) then none else (nmk (sC w146_ 0 (3 : Int32).toNatClampNeg ((w146_.1 0 (3 : Int32).toNatClampNeg) + 1)) fun w155 => (some (x59, w155)))))) fun j146 => (f_X12_page_L95 x59 j146 FU 0 w92)))))))))) else (some ((-3), q32.2)))))))))))
abbrev rm_X12_page : Room := { frames := 7, cells := 0, slots := 0, locals := 156 }
theorem cn_X12_page : CN yX12_page 1 := ⟨by decide +kernel, by decide +kernel, by decide +kernel⟩
set_option maxHeartbeats 4000000 in
set_option maxRecDepth 100000 in
theorem c_X12_page (l : Launch) (G : GX) (w : CW) (a1 : Int32) (q : Int32 × CW) (hf : f_X12_page w a1 = some q) : MI l G yX12_page cX12_page 4 (some .int) rm_X12_page [.ref (G.2.2.1 300), .int a1] (rA G) (rH G w) (rH G q.2) q.1 := by
  refine cM_start (by decide +kernel) (Nat.le_of_ble_eq_true rfl) ?_
  intro p e s m below meth c ls X hH hl
  have hS : va_S (rA G) s.heap s.heap [] := va_S.rf
  have hx := X.1.1
  have hb := X.1.2.1
  generalize hargs : ([.ref (G.2.2.1 300), .int a1] : List Value).toArray = args at X ⊢
  generalize hQ : MQ below (QI (rA G) (rH G q.2) q.1) args s 0 0 (rA G) = Q
  have hl : lv_has ls 4 [(0, .ref (G.2.2.1 300)), (1, .int a1)] := hl
  unfold f_X12_page at hf
  refine lv_aload_n hx hb dX12_page_0 rfl (lv_at hl 0 rfl) ?_
  refine lv_iload_n hx hb dX12_page_1 rfl (lv_at hl 1 rfl) ?_
  obtain ⟨q2, hq2, hf⟩ := bd_s hf
  refine cGz (cVrun (rest := []) X (c_X12_isVerse l G w a1 q2 hq2) bw1585 bw1587 bw63 bw105 bw1588 cn_X12_isVerse ⟨rfl, rfl, Nat.le_of_ble_eq_true rfl, Nat.le_of_ble_eq_true rfl⟩ (r_rec X hH) rA_g hH hS hl rfl (Nat.le_of_ble_eq_true rfl) dX12_page_2) hS (fun hz2 H locs hH hS => ?_)
  refine lv_if_ne (tgt := 10) hx hb dX12_page_5 (by decide) (fun hc => ?_) (fun hc => ?_)
  rotate_left
  · have hf := fo_t hc hf
    refine lv_iconst (v := (-1)) hx hb dX12_page_8 (by decide) ?_
    subst hQ
    exact cEi X (rH2 (so_s hf) hH) hS (pf1 (so_s hf)) dX12_page_9
  have hf := fo_f hc hf
  refine lv_aload_n hx hb dX12_page_10 rfl (lv_at hl 0 rfl) ?_
  refine ro_get (C := RX12) (N := 30) X hH 0 (by decide) rO rfl inBX12 1 (by decide) rfl bw1379 dX12_page_11 ?_
  refine lv_iconst (v := 3) hx hb dX12_page_14 (by decide) ?_
  by_cases hc : ((3 : Int32) < 0 ∨ 3250 ≤ (3 : Int32).toNatClampNeg)
  · cases (fo_t hc hf)
  have hf := fo_f hc hf
  refine ra_ld X hH 0 (by decide) (by decide) hc dX12_page_15 ?_
  refine lv_bipush (v := 20) hx hb dX12_page_16 (by decide) ?_
  refine lv_icmp_ne (tgt := 24) hx hb dX12_page_18 (by decide) (fun hc => ?_) (fun hc => ?_)
  rotate_left
  · have hf := fo_t hc hf
    refine lv_bipush (v := (-4)) hx hb dX12_page_21 (by decide) ?_
    subst hQ
    exact cEi X (rH2 (so_s hf) hH) hS (pf1 (so_s hf)) dX12_page_23
  have hf := fo_f hc hf
  refine lv_aload_n hx hb dX12_page_24 rfl (lv_at hl 0 rfl) ?_
  refine lv_iload_n hx hb dX12_page_25 rfl (lv_at hl 1 rfl) ?_
  refine lv_aload_n hx hb dX12_page_26 rfl (lv_at hl 0 rfl) ?_
  refine ro_get (C := RX12) (N := 30) X hH 0 (by decide) rO rfl inBX12 1 (by decide) rfl bw1379 dX12_page_27 ?_
  refine lv_iconst (v := 0) hx hb dX12_page_30 (by decide) ?_
  by_cases hc : ((0 : Int32) < 0 ∨ 3250 ≤ (0 : Int32).toNatClampNeg)
  · cases (fo_t hc hf)
  have hf := fo_f hc hf
  refine ra_ld X hH 0 (by decide) (by decide) hc dX12_page_31 ?_
  obtain ⟨q32, hq32, hf⟩ := bd_s hf
  refine cGz (cVrun (rest := []) X (c_X12_sets l G w a1 (w.1 0 (0 : Int32).toNatClampNeg) q32 hq32) bw1589 bw1591 bw64 bw105 bw1592 cn_X12_sets ⟨rfl, rfl, Nat.le_of_ble_eq_true rfl, Nat.le_of_ble_eq_true rfl⟩ (r_rec X hH) rA_g hH hS hl rfl (Nat.le_of_ble_eq_true rfl) dX12_page_32) hS (fun hz32 H locs hH hS => ?_)
  refine lv_if_ne (tgt := 41) hx hb dX12_page_35 (by decide) (fun hc => ?_) (fun hc => ?_)
  rotate_left
  · have hf := fo_t hc hf
    refine lv_bipush (v := (-9)) hx hb dX12_page_38 (by decide) ?_
    subst hQ
    exact cEi X (rH2 (so_s hf) hH) hS (pf1 (so_s hf)) dX12_page_40
  have hf := fo_f hc hf
  refine lv_aload_n hx hb dX12_page_41 rfl (lv_at hl 0 rfl) ?_
  obtain ⟨q42, hq42, hf⟩ := bd_s hf
  refine cGi (cVrun (rest := []) X (c_X12_lacking l G q32.2 q42 hq42) bw1646 bw1648 bw76 bw105 bw1649 cn_X12_lacking ⟨rfl, rfl, Nat.le_of_ble_eq_true rfl, Nat.le_of_ble_eq_true rfl⟩ (r_rec X hH) rA_g hH hS hl rfl (Nat.le_of_ble_eq_true rfl) dX12_page_42) hS (fun H locs hH hS => ?_)
  refine lv_bipush (v := (-5)) hx hb dX12_page_45 (by decide) ?_
  refine lv_icmp_eq (tgt := 53) hx hb dX12_page_47 (by decide) (fun hc => ?_) (fun hc => ?_)
  rotate_left
  · have hf := fo_f hc hf
    refine lv_bipush (v := (-3)) hx hb dX12_page_50 (by decide) ?_
    subst hQ
    exact cEi X (rH2 (so_s hf) hH) hS (pf1 (so_s hf)) dX12_page_52
  have hf := fo_t hc hf
  refine lv_aload_n hx hb dX12_page_53 rfl (lv_at hl 0 rfl) ?_
  refine ro_get (C := RX12) (N := 30) X hH 0 (by decide) rO rfl inBX12 1 (by decide) rfl bw1379 dX12_page_54 ?_
  refine lv_iconst (v := 3) hx hb dX12_page_57 (by decide) ?_
  by_cases hc : ((3 : Int32) < 0 ∨ 3250 ≤ (3 : Int32).toNatClampNeg)
  · cases (fo_t hc hf)
  have hf := fo_f hc hf
  refine ra_ld X hH 0 (by decide) (by decide) hc dX12_page_58 ?_
  refine lv_topi (fun x59 ex59 => ?_)
  have hf := nm_s hf x59 ex59
  refine lv_istore_n (lv' := [(2, .int x59), (0, .ref (G.2.2.1 300)), (1, .int a1)]) hx hb dX12_page_59 rfl hl (by decide) rfl (fun ls hl => ?_)
  refine lv_aload_n hx hb dX12_page_60 rfl (lv_at hl 1 rfl) ?_
  refine ro_get (C := RX12) (N := 30) X hH 0 (by decide) rO rfl inBX12 1 (by decide) rfl bw1379 dX12_page_61 ?_
  refine lv_sipush (v := 2270) hx hb dX12_page_64 (by decide) ?_
  refine lv_iload_n hx hb dX12_page_67 rfl (lv_at hl 0 rfl) ?_
  refine lv_iadd hx hb dX12_page_68 ?_
  refine lv_iload_n hx hb dX12_page_69 rfl (lv_at hl 2 rfl) ?_
  by_cases hc : ((2270 + x59) < 0 ∨ 3250 ≤ (2270 + x59).toNatClampNeg)
  · cases (fo_t hc hf)
  have hf := fo_f hc hf
  refine ra_st X hH hS 0 (by decide) (by decide) hc dX12_page_70 (fun H locs hH hS => ?_)
  obtain ⟨w70, ew70⟩ : ∃ z : CW, z = (sC q32.2 0 (2270 + x59).toNatClampNeg a1) := ⟨_, rfl⟩
  have hf := nm_s hf w70 ew70
  have hH : rH G w70 H := ew70 ▸ hH
  refine lv_aload_n hx hb dX12_page_71 rfl (lv_at hl 1 rfl) ?_
  refine ro_get (C := RX12) (N := 30) X hH 0 (by decide) rO rfl inBX12 1 (by decide) rfl bw1379 dX12_page_72 ?_
  refine lv_sipush (v := 2290) hx hb dX12_page_75 (by decide) ?_
  refine lv_iload_n hx hb dX12_page_78 rfl (lv_at hl 0 rfl) ?_
  refine lv_iadd hx hb dX12_page_79 ?_
  refine lv_iconst (v := 1) hx hb dX12_page_80 (by decide) ?_
  by_cases hc : ((2290 + x59) < 0 ∨ 3250 ≤ (2290 + x59).toNatClampNeg)
  · cases (fo_t hc hf)
  have hf := fo_f hc hf
  refine ra_st X hH hS 0 (by decide) (by decide) hc dX12_page_81 (fun H locs hH hS => ?_)
  obtain ⟨w81, ew81⟩ : ∃ z : CW, z = (sC w70 0 (2290 + x59).toNatClampNeg 1) := ⟨_, rfl⟩
  have hf := nm_s hf w81 ew81
  have hH : rH G w81 H := ew81 ▸ hH
  refine lv_aload_n hx hb dX12_page_82 rfl (lv_at hl 1 rfl) ?_
  refine ro_get (C := RX12) (N := 30) X hH 0 (by decide) rO rfl inBX12 1 (by decide) rfl bw1379 dX12_page_83 ?_
  refine lv_sipush (v := 2310) hx hb dX12_page_86 (by decide) ?_
  refine lv_iload_n hx hb dX12_page_89 rfl (lv_at hl 0 rfl) ?_
  refine lv_iadd hx hb dX12_page_90 ?_
  refine lv_iconst (v := 0) hx hb dX12_page_91 (by decide) ?_
  by_cases hc : ((2310 + x59) < 0 ∨ 3250 ≤ (2310 + x59).toNatClampNeg)
  · cases (fo_t hc hf)
  have hf := fo_f hc hf
  refine ra_st X hH hS 0 (by decide) (by decide) hc dX12_page_92 (fun H locs hH hS => ?_)
  obtain ⟨w92, ew92⟩ : ∃ z : CW, z = (sC w81 0 (2310 + x59).toNatClampNeg 0) := ⟨_, rfl⟩
  have hf := nm_s hf w92 ew92
  have hH : rH G w92 H := ew92 ▸ hH
  refine lv_iconst (v := 0) hx hb dX12_page_93 (by decide) ?_
  refine lv_istore_n (lv' := [(3, .int 0), (2, .int x59), (0, .ref (G.2.2.1 300)), (1, .int a1)]) hx hb dX12_page_94 rfl hl (by decide) rfl (fun ls hl => ?_)
  obtain ⟨j146, ej146, hf⟩ := nm_x hf
  have hj146 : ∀ (w146_ : CW) (H : Heap) (locs : List Loc) (ls : Array Slot), j146 w146_ = some q → rH G w146_ H → va_S (rA G) s.heap H locs → lv_has ls 4 [(2, .int x59), (0, .ref (G.2.2.1 300))] → W p l e rm_X12_page s m args below meth c H locs 0 0 Q (F0 m 146 ls []) := by
    intro w146_ H locs ls hf hH hS hl
    have hf := jb1 ej146 hf
    refine lv_aload_n hx hb dX12_page_146 rfl (lv_at hl 1 rfl) ?_
    refine ro_get (C := RX12) (N := 30) X hH 0 (by decide) rO rfl inBX12 1 (by decide) rfl bw1379 dX12_page_147 ?_
    refine lv_iconst (v := 3) hx hb dX12_page_150 (by decide) ?_
    refine lv_dup2_11 hx hb dX12_page_151 rfl rfl ?_
    by_cases hc : ((3 : Int32) < 0 ∨ 3250 ≤ (3 : Int32).toNatClampNeg)
    · cases (fo_t hc hf)
    have hf := fo_f hc hf
    refine ra_ld X hH 0 (by decide) (by decide) hc dX12_page_152 ?_
    refine lv_iconst (v := 1) hx hb dX12_page_153 (by decide) ?_
    refine lv_iadd hx hb dX12_page_154 ?_
    by_cases hc : ((3 : Int32) < 0 ∨ 3250 ≤ (3 : Int32).toNatClampNeg)
    · cases (fo_t hc hf)
    have hf := fo_f hc hf
    refine ra_st X hH hS 0 (by decide) (by decide) hc dX12_page_155 (fun H locs hH hS => ?_)
    obtain ⟨w155, ew155⟩ : ∃ z : CW, z = (sC w146_ 0 (3 : Int32).toNatClampNeg ((w146_.1 0 (3 : Int32).toNatClampNeg) + 1)) := ⟨_, rfl⟩
    have hf := nm_s hf w155 ew155
    have hH : rH G w155 H := ew155 ▸ hH
    refine lv_iload_n hx hb dX12_page_156 rfl (lv_at hl 0 rfl) ?_
    subst hQ
    exact cEi X (rH2 (so_s hf) hH) hS (pf1 (so_s hf)) dX12_page_157
  have hL95 : ∀ (n95 : Nat) (v95_3 : Int32) (w95_ : CW) (H : Heap) (locs : List Loc) (ls : Array Slot), f_X12_page_L95 x59 j146 n95 v95_3 w95_ = some q → rH G w95_ H → va_S (rA G) s.heap H locs → lv_has ls 4 [(3, .int v95_3), (2, .int x59), (0, .ref (G.2.2.1 300))] → W p l e rm_X12_page s m args below meth c H locs 0 0 Q (F0 m 95 ls []) := by
    intro n95
    induction n95 with
    | zero => intro v95_3 w95_ H locs ls hf; rw [f_X12_page_L95] at hf; cases hf
    | succ n95 ih95 =>
      intro v95_3 w95_ H locs ls hf hH hS hl
      rw [f_X12_page_L95] at hf
      refine lv_iload_n hx hb dX12_page_95 rfl (lv_at hl 0 rfl) ?_
      refine lv_bipush (v := 27) hx hb dX12_page_96 (by decide) ?_
      refine lv_icmp_ge (tgt := 146) hx hb dX12_page_98 (by decide) (fun hc => ?_) (fun hc => ?_)
      · have hf := fo_t hc hf
        exact hj146 _ _ _ _ hf hH hS (lv_sub hl [1, 2] rfl)
      have hf := fo_f hc hf
      refine lv_aload_n hx hb dX12_page_101 rfl (lv_at hl 2 rfl) ?_
      refine ro_get (C := RX12) (N := 30) X hH 0 (by decide) rO rfl inBX12 1 (by decide) rfl bw1379 dX12_page_102 ?_
      refine lv_sipush (v := 2330) hx hb dX12_page_105 (by decide) ?_
      refine lv_bipush (v := 27) hx hb dX12_page_108 (by decide) ?_
      refine lv_iload_n hx hb dX12_page_110 rfl (lv_at hl 1 rfl) ?_
      refine lv_imul hx hb dX12_page_111 ?_
      refine lv_iadd hx hb dX12_page_112 ?_
      refine lv_iload_n hx hb dX12_page_113 rfl (lv_at hl 0 rfl) ?_
      refine lv_iadd hx hb dX12_page_114 ?_
      refine lv_aload_n hx hb dX12_page_115 rfl (lv_at hl 2 rfl) ?_
      refine ro_get (C := RX12) (N := 30) X hH 0 (by decide) rO rfl inBX12 17 (by decide) rfl bw1395 dX12_page_116 ?_
      refine lv_iload_n hx hb dX12_page_119 rfl (lv_at hl 0 rfl) ?_
      by_cases hc : (v95_3 < 0 ∨ 27 ≤ v95_3.toNatClampNeg)
      · cases (fo_t hc hf)
      have hf := fo_f hc hf
      refine ra_ld X hH 11 (by decide) (by decide) hc dX12_page_120 ?_
      by_cases hc : (((2330 + (27 * x59)) + v95_3) < 0 ∨ 3250 ≤ ((2330 + (27 * x59)) + v95_3).toNatClampNeg)
      · cases (fo_t hc hf)
      have hf := fo_f hc hf
      refine ra_st X hH hS 0 (by decide) (by decide) hc dX12_page_121 (fun H locs hH hS => ?_)
      obtain ⟨w121, ew121⟩ : ∃ z : CW, z = (sC w95_ 0 ((2330 + (27 * x59)) + v95_3).toNatClampNeg (w95_.1 11 v95_3.toNatClampNeg)) := ⟨_, rfl⟩
      have hf := nm_s hf w121 ew121
      have hH : rH G w121 H := ew121 ▸ hH
      refine lv_aload_n hx hb dX12_page_122 rfl (lv_at hl 2 rfl) ?_
      refine ro_get (C := RX12) (N := 30) X hH 0 (by decide) rO rfl inBX12 1 (by decide) rfl bw1379 dX12_page_123 ?_
      refine lv_bipush (v := 50) hx hb dX12_page_126 (by decide) ?_
      refine lv_iload_n hx hb dX12_page_128 rfl (lv_at hl 0 rfl) ?_
      refine lv_iadd hx hb dX12_page_129 ?_
      refine lv_dup2_11 hx hb dX12_page_130 rfl rfl ?_
      by_cases hc : ((50 + v95_3) < 0 ∨ 3250 ≤ (50 + v95_3).toNatClampNeg)
      · cases (fo_t hc hf)
      have hf := fo_f hc hf
      refine ra_ld X hH 0 (by decide) (by decide) hc dX12_page_131 ?_
      refine lv_aload_n hx hb dX12_page_132 rfl (lv_at hl 2 rfl) ?_
      refine ro_get (C := RX12) (N := 30) X hH 0 (by decide) rO rfl inBX12 17 (by decide) rfl bw1395 dX12_page_133 ?_
      refine lv_iload_n hx hb dX12_page_136 rfl (lv_at hl 0 rfl) ?_
      by_cases hc : (v95_3 < 0 ∨ 27 ≤ v95_3.toNatClampNeg)
      · cases (fo_t hc hf)
      have hf := fo_f hc hf
      refine ra_ld X hH 11 (by decide) (by decide) hc dX12_page_137 ?_
      refine lv_isub hx hb dX12_page_138 ?_
      by_cases hc : ((50 + v95_3) < 0 ∨ 3250 ≤ (50 + v95_3).toNatClampNeg)
      · cases (fo_t hc hf)
      have hf := fo_f hc hf
      refine ra_st X hH hS 0 (by decide) (by decide) hc dX12_page_139 (fun H locs hH hS => ?_)
      obtain ⟨w139, ew139⟩ : ∃ z : CW, z = (sC w121 0 (50 + v95_3).toNatClampNeg ((w121.1 0 (50 + v95_3).toNatClampNeg) - (w121.1 11 v95_3.toNatClampNeg))) := ⟨_, rfl⟩
      have hf := nm_s hf w139 ew139
      have hH : rH G w139 H := ew139 ▸ hH
      obtain ⟨x140, ex140⟩ : ∃ z : Int32, z = (v95_3 + 1) := ⟨_, rfl⟩
      have hf := nm_s hf x140 ex140
      refine lv_iinc (v := x140) (lv' := [(3, .int x140), (2, .int x59), (0, .ref (G.2.2.1 300))]) hx hb dX12_page_140 hl (k := 0) rfl (by rw [ex140]; rfl) (by decide) rfl (fun ls hl => ?_)
      refine lv_goto (tgt := 95) hx hb dX12_page_143 (by decide) ?_
      exact ih95 _ _ _ _ _ hf hH hS (lv_sub hl [0, 1, 2] rfl)
  exact hL95 _ _ _ _ _ _ hf hH hS (lv_sub hl [0, 1, 2] rfl)
def f_X12_isPage (w : CW) (a1 : Int32) : Option (Int32) := (if ((3 : Int32) < 0 ∨ 3250 ≤ (3 : Int32).toNatClampNeg) then none else (some (f_X12_in a1 0 ((w.1 0 (3 : Int32).toNatClampNeg) - 1))))
abbrev rm_X12_isPage : Room := { frames := 2, cells := 0, slots := 0, locals := 22 }
theorem cn_X12_isPage : CN yX12_isPage 1 := ⟨by decide +kernel, by decide +kernel, by decide +kernel⟩
set_option maxHeartbeats 4000000 in
set_option maxRecDepth 100000 in
theorem c_X12_isPage (l : Launch) (G : GX) (w : CW) (a1 : Int32) (q : Int32) (hf : f_X12_isPage w a1 = some q) : MZ l G yX12_isPage cX12_isPage 2 (some .boolean) rm_X12_isPage [.ref (G.2.2.1 300), .int a1] (rA G) (rH G w) (rH G w) q := by
  refine cM_start (by decide +kernel) (Nat.le_of_ble_eq_true rfl) ?_
  intro p e s m below meth c ls X hH hl
  have hS : va_S (rA G) s.heap s.heap [] := va_S.rf
  have hx := X.1.1
  have hb := X.1.2.1
  generalize hargs : ([.ref (G.2.2.1 300), .int a1] : List Value).toArray = args at X ⊢
  generalize hQ : MQ below (QZ (rA G) (rH G w) q) args s 0 0 (rA G) = Q
  have hl : lv_has ls 2 [(0, .ref (G.2.2.1 300)), (1, .int a1)] := hl
  unfold f_X12_isPage at hf
  refine lv_iload_n hx hb dX12_isPage_0 rfl (lv_at hl 1 rfl) ?_
  refine lv_iconst (v := 0) hx hb dX12_isPage_1 (by decide) ?_
  refine lv_aload_n hx hb dX12_isPage_2 rfl (lv_at hl 0 rfl) ?_
  refine ro_get (C := RX12) (N := 30) X hH 0 (by decide) rO rfl inBX12 1 (by decide) rfl bw1379 dX12_isPage_3 ?_
  refine lv_iconst (v := 3) hx hb dX12_isPage_6 (by decide) ?_
  by_cases hc : ((3 : Int32) < 0 ∨ 3250 ≤ (3 : Int32).toNatClampNeg)
  · cases (fo_t hc hf)
  have hf := fo_f hc hf
  refine ra_ld X hH 0 (by decide) (by decide) hc dX12_isPage_7 ?_
  refine lv_iconst (v := 1) hx hb dX12_isPage_8 (by decide) ?_
  refine lv_isub hx hb dX12_isPage_9 ?_
  refine cGi (cSrun (rest := []) X (c_X12_in l G (rH G w) (rA G) rA_g a1 0 ((w.1 0 (3 : Int32).toNatClampNeg) - 1) _ rfl) bw1477 bw1478 bw105 bw1479 cn_X12_in ⟨rfl, rfl, Nat.le_of_ble_eq_true rfl, Nat.le_of_ble_eq_true rfl⟩ rA_g hH hS hl rfl (Nat.le_of_ble_eq_true rfl) dX12_isPage_10) hS (fun H locs hH hS => ?_)
  subst hQ
  exact cEzz X hH hS (so_s hf) (zb_X12_in a1 0 ((w.1 0 (3 : Int32).toNatClampNeg) - 1)) dX12_isPage_13
def f_X12_pull (w : CW) (a1 : Int32) (a2 : Int32) : Option (Int32 × CW) := (Option.bind (f_X12_isPage w a1) fun q2 => (if q2 = 0 then (some ((-1), w)) else (if (f_X12_in a2 1 500) = 0 then (some ((-2), w)) else (if ((2290 + a1) < 0 ∨ 3250 ≤ (2290 + a1).toNatClampNeg) then none else (if (w.1 0 (2290 + a1).toNatClampNeg) = 0 then (some ((-3), w)) else (if ((2310 + a1) < 0 ∨ 3250 ≤ (2310 + a1).toNatClampNeg) then none else (if ((2310 + a1) < 0 ∨ 3250 ≤ (2310 + a1).toNatClampNeg) then none else (nmk (sC w 0 (2310 + a1).toNatClampNeg ((w.1 0 (2310 + a1).toNatClampNeg) + a2)) fun w53 => (if ((2310 + a1) < 0 ∨ 3250 ≤ (2310 + a1).toNatClampNeg) then none else (some ((w53.1 0 (2310 + a1).toNatClampNeg), w53)))))))))))
abbrev rm_X12_pull : Room := { frames := 3, cells := 0, slots := 0, locals := 43 }
theorem cn_X12_pull : CN yX12_pull 2 := ⟨by decide +kernel, by decide +kernel, by decide +kernel⟩
set_option maxHeartbeats 4000000 in
set_option maxRecDepth 100000 in
theorem c_X12_pull (l : Launch) (G : GX) (w : CW) (a1 : Int32) (a2 : Int32) (q : Int32 × CW) (hf : f_X12_pull w a1 a2 = some q) : MI l G yX12_pull cX12_pull 3 (some .int) rm_X12_pull [.ref (G.2.2.1 300), .int a1, .int a2] (rA G) (rH G w) (rH G q.2) q.1 := by
  refine cM_start (by decide +kernel) (Nat.le_of_ble_eq_true rfl) ?_
  intro p e s m below meth c ls X hH hl
  have hS : va_S (rA G) s.heap s.heap [] := va_S.rf
  have hx := X.1.1
  have hb := X.1.2.1
  generalize hargs : ([.ref (G.2.2.1 300), .int a1, .int a2] : List Value).toArray = args at X ⊢
  generalize hQ : MQ below (QI (rA G) (rH G q.2) q.1) args s 0 0 (rA G) = Q
  have hl : lv_has ls 3 [(0, .ref (G.2.2.1 300)), (1, .int a1), (2, .int a2)] := hl
  unfold f_X12_pull at hf
  refine lv_aload_n hx hb dX12_pull_0 rfl (lv_at hl 0 rfl) ?_
  refine lv_iload_n hx hb dX12_pull_1 rfl (lv_at hl 1 rfl) ?_
  obtain ⟨q2, hq2, hf⟩ := bd_s hf
  refine cGz (cVrun (rest := []) X (c_X12_isPage l G w a1 q2 hq2) bw1662 bw1664 bw78 bw105 bw1665 cn_X12_isPage ⟨rfl, rfl, Nat.le_of_ble_eq_true rfl, Nat.le_of_ble_eq_true rfl⟩ (r_rec X hH) rA_g hH hS hl rfl (Nat.le_of_ble_eq_true rfl) dX12_pull_2) hS (fun hz2 H locs hH hS => ?_)
  refine lv_if_ne (tgt := 10) hx hb dX12_pull_5 (by decide) (fun hc => ?_) (fun hc => ?_)
  rotate_left
  · have hf := fo_t hc hf
    refine lv_iconst (v := (-1)) hx hb dX12_pull_8 (by decide) ?_
    subst hQ
    exact cEi X (rH2 (so_s hf) hH) hS (pf1 (so_s hf)) dX12_pull_9
  have hf := fo_f hc hf
  refine lv_iload_n hx hb dX12_pull_10 rfl (lv_at hl 2 rfl) ?_
  refine lv_iconst (v := 1) hx hb dX12_pull_11 (by decide) ?_
  refine lv_sipush (v := 500) hx hb dX12_pull_12 (by decide) ?_
  refine cGi (cSrun (rest := []) X (c_X12_in l G (rH G w) (rA G) rA_g a2 1 500 _ rfl) bw1477 bw1478 bw105 bw1479 cn_X12_in ⟨rfl, rfl, Nat.le_of_ble_eq_true rfl, Nat.le_of_ble_eq_true rfl⟩ rA_g hH hS hl rfl (Nat.le_of_ble_eq_true rfl) dX12_pull_15) hS (fun H locs hH hS => ?_)
  refine lv_if_ne (tgt := 24) hx hb dX12_pull_18 (by decide) (fun hc => ?_) (fun hc => ?_)
  rotate_left
  · have hf := fo_t hc hf
    refine lv_bipush (v := (-2)) hx hb dX12_pull_21 (by decide) ?_
    subst hQ
    exact cEi X (rH2 (so_s hf) hH) hS (pf1 (so_s hf)) dX12_pull_23
  have hf := fo_f hc hf
  refine lv_aload_n hx hb dX12_pull_24 rfl (lv_at hl 0 rfl) ?_
  refine ro_get (C := RX12) (N := 30) X hH 0 (by decide) rO rfl inBX12 1 (by decide) rfl bw1379 dX12_pull_25 ?_
  refine lv_sipush (v := 2290) hx hb dX12_pull_28 (by decide) ?_
  refine lv_iload_n hx hb dX12_pull_31 rfl (lv_at hl 1 rfl) ?_
  refine lv_iadd hx hb dX12_pull_32 ?_
  by_cases hc : ((2290 + a1) < 0 ∨ 3250 ≤ (2290 + a1).toNatClampNeg)
  · cases (fo_t hc hf)
  have hf := fo_f hc hf
  refine ra_ld X hH 0 (by decide) (by decide) hc dX12_pull_33 ?_
  refine lv_if_ne (tgt := 40) hx hb dX12_pull_34 (by decide) (fun hc => ?_) (fun hc => ?_)
  rotate_left
  · have hf := fo_t hc hf
    refine lv_bipush (v := (-3)) hx hb dX12_pull_37 (by decide) ?_
    subst hQ
    exact cEi X (rH2 (so_s hf) hH) hS (pf1 (so_s hf)) dX12_pull_39
  have hf := fo_f hc hf
  refine lv_aload_n hx hb dX12_pull_40 rfl (lv_at hl 0 rfl) ?_
  refine ro_get (C := RX12) (N := 30) X hH 0 (by decide) rO rfl inBX12 1 (by decide) rfl bw1379 dX12_pull_41 ?_
  refine lv_sipush (v := 2310) hx hb dX12_pull_44 (by decide) ?_
  refine lv_iload_n hx hb dX12_pull_47 rfl (lv_at hl 1 rfl) ?_
  refine lv_iadd hx hb dX12_pull_48 ?_
  refine lv_dup2_11 hx hb dX12_pull_49 rfl rfl ?_
  by_cases hc : ((2310 + a1) < 0 ∨ 3250 ≤ (2310 + a1).toNatClampNeg)
  · cases (fo_t hc hf)
  have hf := fo_f hc hf
  refine ra_ld X hH 0 (by decide) (by decide) hc dX12_pull_50 ?_
  refine lv_iload_n hx hb dX12_pull_51 rfl (lv_at hl 2 rfl) ?_
  refine lv_iadd hx hb dX12_pull_52 ?_
  by_cases hc : ((2310 + a1) < 0 ∨ 3250 ≤ (2310 + a1).toNatClampNeg)
  · cases (fo_t hc hf)
  have hf := fo_f hc hf
  refine ra_st X hH hS 0 (by decide) (by decide) hc dX12_pull_53 (fun H locs hH hS => ?_)
  obtain ⟨w53, ew53⟩ : ∃ z : CW, z = (sC w 0 (2310 + a1).toNatClampNeg ((w.1 0 (2310 + a1).toNatClampNeg) + a2)) := ⟨_, rfl⟩
  have hf := nm_s hf w53 ew53
  have hH : rH G w53 H := ew53 ▸ hH
  refine lv_aload_n hx hb dX12_pull_54 rfl (lv_at hl 0 rfl) ?_
  refine ro_get (C := RX12) (N := 30) X hH 0 (by decide) rO rfl inBX12 1 (by decide) rfl bw1379 dX12_pull_55 ?_
  refine lv_sipush (v := 2310) hx hb dX12_pull_58 (by decide) ?_
  refine lv_iload_n hx hb dX12_pull_61 rfl (lv_at hl 1 rfl) ?_
  refine lv_iadd hx hb dX12_pull_62 ?_
  by_cases hc : ((2310 + a1) < 0 ∨ 3250 ≤ (2310 + a1).toNatClampNeg)
  · cases (fo_t hc hf)
  have hf := fo_f hc hf
  refine ra_ld X hH 0 (by decide) (by decide) hc dX12_pull_63 ?_
  subst hQ
  exact cEi X (rH2 (so_s hf) hH) hS (pf1 (so_s hf)) dX12_pull_64
def f_X12_down_L30 (a1 : Int32) (j130 : Int32 → CW → Option (Int32 × CW)) : Nat → Int32 → Int32 → CW → Option (Int32 × CW)
  | 0, _, _, _ => none
  | n30 + 1, v30_2, v30_3, w30_ => (if 27 ≤ v30_3 then (j130 v30_2 w30_) else (if (((2330 + (27 * a1)) + v30_3) < 0 ∨ 3250 ≤ ((2330 + (27 * a1)) + v30_3).toNatClampNeg) then none else (nmk (w30_.1 0 ((2330 + (27 * a1)) + v30_3).toNatClampNeg) fun (x51 : Int32) => (if ((2310 + a1) < 0 ∨ 3250 ≤ (2310 + a1).toNatClampNeg) then none else (nmk ((x51 * (w30_.1 0 (2310 + a1).toNatClampNeg)) / 10000) fun (x70 : Int32) => (nmk (if x70 ≤ x51 then x70 else x51) fun (x86 : Int32) => (if ((80 + v30_3) < 0 ∨ 3250 ≤ (80 + v30_3).toNatClampNeg) then none else (if ((80 + v30_3) < 0 ∨ 3250 ≤ (80 + v30_3).toNatClampNeg) then none else (nmk (sC w30_ 0 (80 + v30_3).toNatClampNeg ((w30_.1 0 (80 + v30_3).toNatClampNeg) + x86)) fun w101 => (if ((50 + v30_3) < 0 ∨ 3250 ≤ (50 + v30_3).toNatClampNeg) then none else (if ((50 + v30_3) < 0 ∨ 3250 ≤ (50 + v30_3).toNatClampNeg) then none else (nmk (sC w101 0 (50 + v30_3).toNatClampNeg ((w101.1 0 (50 + v30_3).toNatClampNeg) + (x51 - x86))) fun w118 => (nmk (v30_2 + x86) fun (x123 : Int32) => (nmk (v30_3 + 1) fun (x124 : Int32) => (f_X12_down_L30 a1 j130 n30 x123 x124 w118)))))))))))))))
def f_X12_down (w : CW) (a1 : Int32) : Option (Int32 × CW) := (Option.bind (f_X12_isPage w a1) fun q2 => (if q2 = 0 then (some ((-1), w)) else (if ((2290 + a1) < 0 ∨ 3250 ≤ (2290 + a1).toNatClampNeg) then none else (if (w.1 0 (2290 + a1).toNatClampNeg) = 0 then (some ((-3), w)) else (nmk (fun (y130_2 : Int32) (w130_ : CW) => (if ((2290 + a1) < 0 ∨ 3250 ≤ (2290 + a1).toNatClampNeg) then none else (nmk (sC w130_ 0 (2290 + a1).toNatClampNeg 0) fun w140 => (some (y130_2, w140))))) fun j130 => (f_X12_down_L30 a1 j130 FU 0 0 w))))))
abbrev rm_X12_down : Room := { frames := 3, cells := 0, slots := 0, locals := 43 }
theorem cn_X12_down : CN yX12_down 1 := ⟨by decide +kernel, by decide +kernel, by decide +kernel⟩
set_option maxHeartbeats 4000000 in
set_option maxRecDepth 100000 in
theorem c_X12_down (l : Launch) (G : GX) (w : CW) (a1 : Int32) (q : Int32 × CW) (hf : f_X12_down w a1 = some q) : MI l G yX12_down cX12_down 6 (some .int) rm_X12_down [.ref (G.2.2.1 300), .int a1] (rA G) (rH G w) (rH G q.2) q.1 := by
  refine cM_start (by decide +kernel) (Nat.le_of_ble_eq_true rfl) ?_
  intro p e s m below meth c ls X hH hl
  have hS : va_S (rA G) s.heap s.heap [] := va_S.rf
  have hx := X.1.1
  have hb := X.1.2.1
  generalize hargs : ([.ref (G.2.2.1 300), .int a1] : List Value).toArray = args at X ⊢
  generalize hQ : MQ below (QI (rA G) (rH G q.2) q.1) args s 0 0 (rA G) = Q
  have hl : lv_has ls 6 [(0, .ref (G.2.2.1 300)), (1, .int a1)] := hl
  unfold f_X12_down at hf
  refine lv_aload_n hx hb dX12_down_0 rfl (lv_at hl 0 rfl) ?_
  refine lv_iload_n hx hb dX12_down_1 rfl (lv_at hl 1 rfl) ?_
  obtain ⟨q2, hq2, hf⟩ := bd_s hf
  refine cGz (cVrun (rest := []) X (c_X12_isPage l G w a1 q2 hq2) bw1662 bw1664 bw78 bw105 bw1665 cn_X12_isPage ⟨rfl, rfl, Nat.le_of_ble_eq_true rfl, Nat.le_of_ble_eq_true rfl⟩ (r_rec X hH) rA_g hH hS hl rfl (Nat.le_of_ble_eq_true rfl) dX12_down_2) hS (fun hz2 H locs hH hS => ?_)
  refine lv_if_ne (tgt := 10) hx hb dX12_down_5 (by decide) (fun hc => ?_) (fun hc => ?_)
  rotate_left
  · have hf := fo_t hc hf
    refine lv_iconst (v := (-1)) hx hb dX12_down_8 (by decide) ?_
    subst hQ
    exact cEi X (rH2 (so_s hf) hH) hS (pf1 (so_s hf)) dX12_down_9
  have hf := fo_f hc hf
  refine lv_aload_n hx hb dX12_down_10 rfl (lv_at hl 0 rfl) ?_
  refine ro_get (C := RX12) (N := 30) X hH 0 (by decide) rO rfl inBX12 1 (by decide) rfl bw1379 dX12_down_11 ?_
  refine lv_sipush (v := 2290) hx hb dX12_down_14 (by decide) ?_
  refine lv_iload_n hx hb dX12_down_17 rfl (lv_at hl 1 rfl) ?_
  refine lv_iadd hx hb dX12_down_18 ?_
  by_cases hc : ((2290 + a1) < 0 ∨ 3250 ≤ (2290 + a1).toNatClampNeg)
  · cases (fo_t hc hf)
  have hf := fo_f hc hf
  refine ra_ld X hH 0 (by decide) (by decide) hc dX12_down_19 ?_
  refine lv_if_ne (tgt := 26) hx hb dX12_down_20 (by decide) (fun hc => ?_) (fun hc => ?_)
  rotate_left
  · have hf := fo_t hc hf
    refine lv_bipush (v := (-3)) hx hb dX12_down_23 (by decide) ?_
    subst hQ
    exact cEi X (rH2 (so_s hf) hH) hS (pf1 (so_s hf)) dX12_down_25
  have hf := fo_f hc hf
  refine lv_iconst (v := 0) hx hb dX12_down_26 (by decide) ?_
  refine lv_istore_n (lv' := [(2, .int 0), (0, .ref (G.2.2.1 300)), (1, .int a1)]) hx hb dX12_down_27 rfl hl (by decide) rfl (fun ls hl => ?_)
  refine lv_iconst (v := 0) hx hb dX12_down_28 (by decide) ?_
  refine lv_istore_n (lv' := [(3, .int 0), (2, .int 0), (0, .ref (G.2.2.1 300)), (1, .int a1)]) hx hb dX12_down_29 rfl hl (by decide) rfl (fun ls hl => ?_)
  obtain ⟨j130, ej130, hf⟩ := nm_x hf
  have hj130 : ∀ (y130_2 : Int32) (w130_ : CW) (H : Heap) (locs : List Loc) (ls : Array Slot), j130 y130_2 w130_ = some q → rH G w130_ H → va_S (rA G) s.heap H locs → lv_has ls 6 [(2, .int y130_2), (0, .ref (G.2.2.1 300)), (1, .int a1)] → W p l e rm_X12_down s m args below meth c H locs 0 0 Q (F0 m 130 ls []) := by
    intro y130_2 w130_ H locs ls hf hH hS hl
    have hf := jb2 ej130 hf
    refine lv_aload_n hx hb dX12_down_130 rfl (lv_at hl 1 rfl) ?_
    refine ro_get (C := RX12) (N := 30) X hH 0 (by decide) rO rfl inBX12 1 (by decide) rfl bw1379 dX12_down_131 ?_
    refine lv_sipush (v := 2290) hx hb dX12_down_134 (by decide) ?_
    refine lv_iload_n hx hb dX12_down_137 rfl (lv_at hl 2 rfl) ?_
    refine lv_iadd hx hb dX12_down_138 ?_
    refine lv_iconst (v := 0) hx hb dX12_down_139 (by decide) ?_
    by_cases hc : ((2290 + a1) < 0 ∨ 3250 ≤ (2290 + a1).toNatClampNeg)
    · cases (fo_t hc hf)
    have hf := fo_f hc hf
    refine ra_st X hH hS 0 (by decide) (by decide) hc dX12_down_140 (fun H locs hH hS => ?_)
    obtain ⟨w140, ew140⟩ : ∃ z : CW, z = (sC w130_ 0 (2290 + a1).toNatClampNeg 0) := ⟨_, rfl⟩
    have hf := nm_s hf w140 ew140
    have hH : rH G w140 H := ew140 ▸ hH
    refine lv_iload_n hx hb dX12_down_141 rfl (lv_at hl 0 rfl) ?_
    subst hQ
    exact cEi X (rH2 (so_s hf) hH) hS (pf1 (so_s hf)) dX12_down_142
  have hL30 : ∀ (n30 : Nat) (v30_2 : Int32) (v30_3 : Int32) (w30_ : CW) (H : Heap) (locs : List Loc) (ls : Array Slot), f_X12_down_L30 a1 j130 n30 v30_2 v30_3 w30_ = some q → rH G w30_ H → va_S (rA G) s.heap H locs → lv_has ls 6 [(3, .int v30_3), (2, .int v30_2), (0, .ref (G.2.2.1 300)), (1, .int a1)] → W p l e rm_X12_down s m args below meth c H locs 0 0 Q (F0 m 30 ls []) := by
    intro n30
    induction n30 with
    | zero => intro v30_2 v30_3 w30_ H locs ls hf; rw [f_X12_down_L30] at hf; cases hf
    | succ n30 ih30 =>
      intro v30_2 v30_3 w30_ H locs ls hf hH hS hl
      rw [f_X12_down_L30] at hf
      refine lv_iload_n hx hb dX12_down_30 rfl (lv_at hl 0 rfl) ?_
      refine lv_bipush (v := 27) hx hb dX12_down_31 (by decide) ?_
      refine lv_icmp_ge (tgt := 130) hx hb dX12_down_33 (by decide) (fun hc => ?_) (fun hc => ?_)
      · have hf := fo_t hc hf
        exact hj130 _ _ _ _ _ hf hH hS (lv_sub hl [1, 2, 3] rfl)
      have hf := fo_f hc hf
      refine lv_aload_n hx hb dX12_down_36 rfl (lv_at hl 2 rfl) ?_
      refine ro_get (C := RX12) (N := 30) X hH 0 (by decide) rO rfl inBX12 1 (by decide) rfl bw1379 dX12_down_37 ?_
      refine lv_sipush (v := 2330) hx hb dX12_down_40 (by decide) ?_
      refine lv_bipush (v := 27) hx hb dX12_down_43 (by decide) ?_
      refine lv_iload_n hx hb dX12_down_45 rfl (lv_at hl 3 rfl) ?_
      refine lv_imul hx hb dX12_down_46 ?_
      refine lv_iadd hx hb dX12_down_47 ?_
      refine lv_iload_n hx hb dX12_down_48 rfl (lv_at hl 0 rfl) ?_
      refine lv_iadd hx hb dX12_down_49 ?_
      by_cases hc : (((2330 + (27 * a1)) + v30_3) < 0 ∨ 3250 ≤ ((2330 + (27 * a1)) + v30_3).toNatClampNeg)
      · cases (fo_t hc hf)
      have hf := fo_f hc hf
      refine ra_ld X hH 0 (by decide) (by decide) hc dX12_down_50 ?_
      refine lv_topi (fun x51 ex51 => ?_)
      have hf := nm_s hf x51 ex51
      refine lv_istore (lv' := [(4, .int x51), (3, .int v30_3), (2, .int v30_2), (0, .ref (G.2.2.1 300)), (1, .int a1)]) hx hb dX12_down_51 hl (by decide) rfl (fun ls hl => ?_)
      refine lv_iload hx hb dX12_down_53 (lv_at hl 0 rfl) ?_
      refine lv_aload_n hx hb dX12_down_55 rfl (lv_at hl 3 rfl) ?_
      refine ro_get (C := RX12) (N := 30) X hH 0 (by decide) rO rfl inBX12 1 (by decide) rfl bw1379 dX12_down_56 ?_
      refine lv_sipush (v := 2310) hx hb dX12_down_59 (by decide) ?_
      refine lv_iload_n hx hb dX12_down_62 rfl (lv_at hl 4 rfl) ?_
      refine lv_iadd hx hb dX12_down_63 ?_
      by_cases hc : ((2310 + a1) < 0 ∨ 3250 ≤ (2310 + a1).toNatClampNeg)
      · cases (fo_t hc hf)
      have hf := fo_f hc hf
      refine ra_ld X hH 0 (by decide) (by decide) hc dX12_down_64 ?_
      refine lv_imul hx hb dX12_down_65 ?_
      refine lv_sipush (v := 10000) hx hb dX12_down_66 (by decide) ?_
      refine lv_idiv hx hb dX12_down_69 (by decide) ?_
      refine lv_topi (fun x70 ex70 => ?_)
      have hf := nm_s hf x70 ex70
      refine lv_istore (lv' := [(5, .int x70), (4, .int x51), (3, .int v30_3), (2, .int v30_2), (0, .ref (G.2.2.1 300)), (1, .int a1)]) hx hb dX12_down_70 hl (by decide) rfl (fun ls hl => ?_)
      refine lv_iload hx hb dX12_down_72 (lv_at hl 0 rfl) ?_
      refine lv_iload hx hb dX12_down_74 (lv_at hl 1 rfl) ?_
      have hJ : ∀ (H : Heap) (locs : List Loc), rH G w30_ H → va_S (rA G) s.heap H locs → W p l e rm_X12_down s m args below meth c H locs 0 0 Q (F0 m 86 ls [.int (if x70 ≤ x51 then x70 else x51)]) := by
        intro H locs hH hS
        refine lv_topi (fun x86 ex86 => ?_)
        have hf := nm_s hf x86 ex86
        refine lv_istore (lv' := [(5, .int x86), (4, .int x51), (3, .int v30_3), (2, .int v30_2), (0, .ref (G.2.2.1 300)), (1, .int a1)]) hx hb dX12_down_86 hl (by decide) rfl (fun ls hl => ?_)
        refine lv_aload_n hx hb dX12_down_88 rfl (lv_at hl 4 rfl) ?_
        refine ro_get (C := RX12) (N := 30) X hH 0 (by decide) rO rfl inBX12 1 (by decide) rfl bw1379 dX12_down_89 ?_
        refine lv_bipush (v := 80) hx hb dX12_down_92 (by decide) ?_
        refine lv_iload_n hx hb dX12_down_94 rfl (lv_at hl 2 rfl) ?_
        refine lv_iadd hx hb dX12_down_95 ?_
        refine lv_dup2_11 hx hb dX12_down_96 rfl rfl ?_
        by_cases hc : ((80 + v30_3) < 0 ∨ 3250 ≤ (80 + v30_3).toNatClampNeg)
        · cases (fo_t hc hf)
        have hf := fo_f hc hf
        refine ra_ld X hH 0 (by decide) (by decide) hc dX12_down_97 ?_
        refine lv_iload hx hb dX12_down_98 (lv_at hl 0 rfl) ?_
        refine lv_iadd hx hb dX12_down_100 ?_
        by_cases hc : ((80 + v30_3) < 0 ∨ 3250 ≤ (80 + v30_3).toNatClampNeg)
        · cases (fo_t hc hf)
        have hf := fo_f hc hf
        refine ra_st X hH hS 0 (by decide) (by decide) hc dX12_down_101 (fun H locs hH hS => ?_)
        obtain ⟨w101, ew101⟩ : ∃ z : CW, z = (sC w30_ 0 (80 + v30_3).toNatClampNeg ((w30_.1 0 (80 + v30_3).toNatClampNeg) + x86)) := ⟨_, rfl⟩
        have hf := nm_s hf w101 ew101
        have hH : rH G w101 H := ew101 ▸ hH
        refine lv_aload_n hx hb dX12_down_102 rfl (lv_at hl 4 rfl) ?_
        refine ro_get (C := RX12) (N := 30) X hH 0 (by decide) rO rfl inBX12 1 (by decide) rfl bw1379 dX12_down_103 ?_
        refine lv_bipush (v := 50) hx hb dX12_down_106 (by decide) ?_
        refine lv_iload_n hx hb dX12_down_108 rfl (lv_at hl 2 rfl) ?_
        refine lv_iadd hx hb dX12_down_109 ?_
        refine lv_dup2_11 hx hb dX12_down_110 rfl rfl ?_
        by_cases hc : ((50 + v30_3) < 0 ∨ 3250 ≤ (50 + v30_3).toNatClampNeg)
        · cases (fo_t hc hf)
        have hf := fo_f hc hf
        refine ra_ld X hH 0 (by decide) (by decide) hc dX12_down_111 ?_
        refine lv_iload hx hb dX12_down_112 (lv_at hl 1 rfl) ?_
        refine lv_iload hx hb dX12_down_114 (lv_at hl 0 rfl) ?_
        refine lv_isub hx hb dX12_down_116 ?_
        refine lv_iadd hx hb dX12_down_117 ?_
        by_cases hc : ((50 + v30_3) < 0 ∨ 3250 ≤ (50 + v30_3).toNatClampNeg)
        · cases (fo_t hc hf)
        have hf := fo_f hc hf
        refine ra_st X hH hS 0 (by decide) (by decide) hc dX12_down_118 (fun H locs hH hS => ?_)
        obtain ⟨w118, ew118⟩ : ∃ z : CW, z = (sC w101 0 (50 + v30_3).toNatClampNeg ((w101.1 0 (50 + v30_3).toNatClampNeg) + (x51 - x86))) := ⟨_, rfl⟩
        have hf := nm_s hf w118 ew118
        have hH : rH G w118 H := ew118 ▸ hH
        refine lv_iload_n hx hb dX12_down_119 rfl (lv_at hl 3 rfl) ?_
        refine lv_iload hx hb dX12_down_120 (lv_at hl 0 rfl) ?_
        refine lv_iadd hx hb dX12_down_122 ?_
        refine lv_topi (fun x123 ex123 => ?_)
        have hf := nm_s hf x123 ex123
        refine lv_istore_n (lv' := [(2, .int x123), (5, .int x86), (4, .int x51), (3, .int v30_3), (0, .ref (G.2.2.1 300)), (1, .int a1)]) hx hb dX12_down_123 rfl hl (by decide) rfl (fun ls hl => ?_)
        obtain ⟨x124, ex124⟩ : ∃ z : Int32, z = (v30_3 + 1) := ⟨_, rfl⟩
        have hf := nm_s hf x124 ex124
        refine lv_iinc (v := x124) (lv' := [(3, .int x124), (2, .int x123), (5, .int x86), (4, .int x51), (0, .ref (G.2.2.1 300)), (1, .int a1)]) hx hb dX12_down_124 hl (k := 3) rfl (by rw [ex124]; rfl) (by decide) rfl (fun ls hl => ?_)
        refine lv_goto (tgt := 30) hx hb dX12_down_127 (by decide) ?_
        exact ih30 _ _ _ _ _ _ hf hH hS (lv_sub hl [0, 1, 4, 5] rfl)
      refine lv_icmp_le (tgt := 84) hx hb dX12_down_76 (by decide) (fun hc76 => ?_) (fun hc76 => ?_)
      · refine lv_iload hx hb dX12_down_84 (lv_at hl 0 rfl) ?_
        exact W.eq (by rw [if_pos hc76] <;> rfl) (hJ _ _ hH hS)
      · refine lv_iload hx hb dX12_down_79 (lv_at hl 1 rfl) ?_
        refine lv_goto (tgt := 86) hx hb dX12_down_81 (by decide) ?_
        exact W.eq (by rw [if_neg hc76] <;> rfl) (hJ _ _ hH hS)
  exact hL30 _ _ _ _ _ _ _ hf hH hS (lv_sub hl [0, 1, 2, 3] rfl)
def f_X12_press (w : CW) (a1 : Int32) (a2 : Int32) : Option (Int32 × CW) := (if (f_X12_in a1 0 3) = 0 then (some ((-1), w)) else (if (f_X12_in a2 0 99) = 0 then (some ((-2), w)) else (if ((2870 + a1) < 0 ∨ 3250 ≤ (2870 + a1).toNatClampNeg) then none else (nmk (w.1 0 (2870 + a1).toNatClampNeg) fun (x34 : Int32) => (if ((2870 + a1) < 0 ∨ 3250 ≤ (2870 + a1).toNatClampNeg) then none else (nmk (sC w 0 (2870 + a1).toNatClampNeg a2) fun w45 => (some (x34, w45))))))))
abbrev rm_X12_press : Room := { frames := 2, cells := 0, slots := 0, locals := 22 }
theorem cn_X12_press : CN yX12_press 2 := ⟨by decide +kernel, by decide +kernel, by decide +kernel⟩
set_option maxHeartbeats 4000000 in
set_option maxRecDepth 100000 in
theorem c_X12_press (l : Launch) (G : GX) (w : CW) (a1 : Int32) (a2 : Int32) (q : Int32 × CW) (hf : f_X12_press w a1 a2 = some q) : MI l G yX12_press cX12_press 4 (some .int) rm_X12_press [.ref (G.2.2.1 300), .int a1, .int a2] (rA G) (rH G w) (rH G q.2) q.1 := by
  refine cM_start (by decide +kernel) (Nat.le_of_ble_eq_true rfl) ?_
  intro p e s m below meth c ls X hH hl
  have hS : va_S (rA G) s.heap s.heap [] := va_S.rf
  have hx := X.1.1
  have hb := X.1.2.1
  generalize hargs : ([.ref (G.2.2.1 300), .int a1, .int a2] : List Value).toArray = args at X ⊢
  generalize hQ : MQ below (QI (rA G) (rH G q.2) q.1) args s 0 0 (rA G) = Q
  have hl : lv_has ls 4 [(0, .ref (G.2.2.1 300)), (1, .int a1), (2, .int a2)] := hl
  unfold f_X12_press at hf
  refine lv_iload_n hx hb dX12_press_0 rfl (lv_at hl 1 rfl) ?_
  refine lv_iconst (v := 0) hx hb dX12_press_1 (by decide) ?_
  refine lv_iconst (v := 3) hx hb dX12_press_2 (by decide) ?_
  refine cGi (cSrun (rest := []) X (c_X12_in l G (rH G w) (rA G) rA_g a1 0 3 _ rfl) bw1477 bw1478 bw105 bw1479 cn_X12_in ⟨rfl, rfl, Nat.le_of_ble_eq_true rfl, Nat.le_of_ble_eq_true rfl⟩ rA_g hH hS hl rfl (Nat.le_of_ble_eq_true rfl) dX12_press_3) hS (fun H locs hH hS => ?_)
  refine lv_if_ne (tgt := 11) hx hb dX12_press_6 (by decide) (fun hc => ?_) (fun hc => ?_)
  rotate_left
  · have hf := fo_t hc hf
    refine lv_iconst (v := (-1)) hx hb dX12_press_9 (by decide) ?_
    subst hQ
    exact cEi X (rH2 (so_s hf) hH) hS (pf1 (so_s hf)) dX12_press_10
  have hf := fo_f hc hf
  refine lv_iload_n hx hb dX12_press_11 rfl (lv_at hl 2 rfl) ?_
  refine lv_iconst (v := 0) hx hb dX12_press_12 (by decide) ?_
  refine lv_bipush (v := 99) hx hb dX12_press_13 (by decide) ?_
  refine cGi (cSrun (rest := []) X (c_X12_in l G (rH G w) (rA G) rA_g a2 0 99 _ rfl) bw1477 bw1478 bw105 bw1479 cn_X12_in ⟨rfl, rfl, Nat.le_of_ble_eq_true rfl, Nat.le_of_ble_eq_true rfl⟩ rA_g hH hS hl rfl (Nat.le_of_ble_eq_true rfl) dX12_press_15) hS (fun H locs hH hS => ?_)
  refine lv_if_ne (tgt := 24) hx hb dX12_press_18 (by decide) (fun hc => ?_) (fun hc => ?_)
  rotate_left
  · have hf := fo_t hc hf
    refine lv_bipush (v := (-2)) hx hb dX12_press_21 (by decide) ?_
    subst hQ
    exact cEi X (rH2 (so_s hf) hH) hS (pf1 (so_s hf)) dX12_press_23
  have hf := fo_f hc hf
  refine lv_aload_n hx hb dX12_press_24 rfl (lv_at hl 0 rfl) ?_
  refine ro_get (C := RX12) (N := 30) X hH 0 (by decide) rO rfl inBX12 1 (by decide) rfl bw1379 dX12_press_25 ?_
  refine lv_sipush (v := 2870) hx hb dX12_press_28 (by decide) ?_
  refine lv_iload_n hx hb dX12_press_31 rfl (lv_at hl 1 rfl) ?_
  refine lv_iadd hx hb dX12_press_32 ?_
  by_cases hc : ((2870 + a1) < 0 ∨ 3250 ≤ (2870 + a1).toNatClampNeg)
  · cases (fo_t hc hf)
  have hf := fo_f hc hf
  refine ra_ld X hH 0 (by decide) (by decide) hc dX12_press_33 ?_
  refine lv_topi (fun x34 ex34 => ?_)
  have hf := nm_s hf x34 ex34
  refine lv_istore_n (lv' := [(3, .int x34), (0, .ref (G.2.2.1 300)), (1, .int a1), (2, .int a2)]) hx hb dX12_press_34 rfl hl (by decide) rfl (fun ls hl => ?_)
  refine lv_aload_n hx hb dX12_press_35 rfl (lv_at hl 1 rfl) ?_
  refine ro_get (C := RX12) (N := 30) X hH 0 (by decide) rO rfl inBX12 1 (by decide) rfl bw1379 dX12_press_36 ?_
  refine lv_sipush (v := 2870) hx hb dX12_press_39 (by decide) ?_
  refine lv_iload_n hx hb dX12_press_42 rfl (lv_at hl 2 rfl) ?_
  refine lv_iadd hx hb dX12_press_43 ?_
  refine lv_iload_n hx hb dX12_press_44 rfl (lv_at hl 3 rfl) ?_
  by_cases hc : ((2870 + a1) < 0 ∨ 3250 ≤ (2870 + a1).toNatClampNeg)
  · cases (fo_t hc hf)
  have hf := fo_f hc hf
  refine ra_st X hH hS 0 (by decide) (by decide) hc dX12_press_45 (fun H locs hH hS => ?_)
  obtain ⟨w45, ew45⟩ : ∃ z : CW, z = (sC w 0 (2870 + a1).toNatClampNeg a2) := ⟨_, rfl⟩
  have hf := nm_s hf w45 ew45
  have hH : rH G w45 H := ew45 ▸ hH
  refine lv_iload_n hx hb dX12_press_46 rfl (lv_at hl 0 rfl) ?_
  subst hQ
  exact cEi X (rH2 (so_s hf) hH) hS (pf1 (so_s hf)) dX12_press_47
def f_X12_isFeast (w : CW) (a1 : Int32) : Option (Int32 × CW) := (Option.bind (f_X12_looks w a1) fun q2 => (if ((a1 - a1 / 30 * 30) < 0 ∨ 30 ≤ (a1 - a1 / 30 * 30).toNatClampNeg) then none else (if ((q2.1 7 (a1 - a1 / 30 * 30).toNatClampNeg) = 0 ∨ (q2.1 7 (a1 - a1 / 30 * 30).toNatClampNeg) = 1) then some ((q2.1 7 (a1 - a1 / 30 * 30).toNatClampNeg), q2) else none)))
abbrev rm_X12_isFeast : Room := { frames := 4, cells := 0, slots := 0, locals := 71 }
theorem cn_X12_isFeast : CN yX12_isFeast 1 := ⟨by decide +kernel, by decide +kernel, by decide +kernel⟩
set_option maxHeartbeats 4000000 in
set_option maxRecDepth 100000 in
theorem c_X12_isFeast (l : Launch) (G : GX) (w : CW) (a1 : Int32) (q : Int32 × CW) (hf : f_X12_isFeast w a1 = some q) : MZ l G yX12_isFeast cX12_isFeast 2 (some .boolean) rm_X12_isFeast [.ref (G.2.2.1 300), .int a1] (rA G) (rH G w) (rH G q.2) q.1 := by
  refine cM_start (by decide +kernel) (Nat.le_of_ble_eq_true rfl) ?_
  intro p e s m below meth c ls X hH hl
  have hS : va_S (rA G) s.heap s.heap [] := va_S.rf
  have hx := X.1.1
  have hb := X.1.2.1
  generalize hargs : ([.ref (G.2.2.1 300), .int a1] : List Value).toArray = args at X ⊢
  generalize hQ : MQ below (QZ (rA G) (rH G q.2) q.1) args s 0 0 (rA G) = Q
  have hl : lv_has ls 2 [(0, .ref (G.2.2.1 300)), (1, .int a1)] := hl
  unfold f_X12_isFeast at hf
  refine lv_aload_n hx hb dX12_isFeast_0 rfl (lv_at hl 0 rfl) ?_
  refine lv_iload_n hx hb dX12_isFeast_1 rfl (lv_at hl 1 rfl) ?_
  obtain ⟨q2, hq2, hf⟩ := bd_s hf
  refine cGv (cVrun (rest := []) X (c_X12_looks l G w a1 q2 hq2) bw1562 bw1564 bw60 bw105 bw1565 cn_X12_looks ⟨rfl, rfl, Nat.le_of_ble_eq_true rfl, Nat.le_of_ble_eq_true rfl⟩ (r_rec X hH) rA_g hH hS hl rfl (Nat.le_of_ble_eq_true rfl) dX12_isFeast_2) hS (fun H locs hH hS => ?_)
  refine lv_aload_n hx hb dX12_isFeast_5 rfl (lv_at hl 0 rfl) ?_
  refine ro_get (C := RX12) (N := 30) X hH 0 (by decide) rO rfl inBX12 12 (by decide) rfl bw1390 dX12_isFeast_6 ?_
  refine lv_iload_n hx hb dX12_isFeast_9 rfl (lv_at hl 1 rfl) ?_
  refine lv_bipush (v := 30) hx hb dX12_isFeast_10 (by decide) ?_
  refine lv_irem hx hb dX12_isFeast_12 (by decide) ?_
  by_cases hc : ((a1 - a1 / 30 * 30) < 0 ∨ 30 ≤ (a1 - a1 / 30 * 30).toNatClampNeg)
  · cases (fo_t hc hf)
  have hf := fo_f hc hf
  refine rz_ld X hH hc dX12_isFeast_13 ?_
  by_cases hz : ((q2.1 7 (a1 - a1 / 30 * 30).toNatClampNeg) = 0 ∨ (q2.1 7 (a1 - a1 / 30 * 30).toNatClampNeg) = 1)
  rotate_left
  · cases (fo_f hz hf)
  have hf := fo_t hz hf
  subst hQ
  exact cEzz X (rH2 (so_s hf) hH) hS (pf1 (so_s hf)) hz dX12_isFeast_14
def f_X12_order_L180 (j243 : Int32 → Int32 → CW → Option (Int32 × CW)) : Nat → Int32 → Int32 → Int32 → Int32 → CW → Option (Int32 × CW)
  | 0, _, _, _, _, _ => none
  | n180 + 1, v180_5, v180_6, v180_7, v180_8, w180_ => (if 999 < v180_8 then (j243 v180_6 v180_7 w180_) else (if v180_5 ≤ 0 then (j243 v180_6 v180_7 w180_) else (Option.bind (f_X12_isFeast w180_ v180_8) fun q196 => (nmk (fun (y237_5 : Int32) (y237_6 : Int32) (y237_7 : Int32) => (nmk (v180_8 + 1) fun (x237 : Int32) => (f_X12_order_L180 j243 n180 y237_5 y237_6 y237_7 x237 q196.2))) fun j237 => (if q196.1 = 0 then (nmk (if v180_6 = (-5) then v180_8 else v180_6) fun (x216 : Int32) => (nmk (v180_5 + (-1)) fun (x218 : Int32) => (nmk (if x218 = 0 then (v180_8 + 1) else (-5)) fun (x235 : Int32) => (j237 x218 x216 x235)))) else (j237 v180_5 v180_6 v180_7))))))
def f_X12_order_L32 (w : CW) (j119 : Int32 → Int32 → Option (Int32 × CW)) : Nat → Int32 → Int32 → Int32 → Option (Int32 × CW)
  | 0, _, _, _ => none
  | n32 + 1, v32_3, v32_4, v32_5 => (if 4 ≤ v32_5 then (j119 v32_3 v32_4) else (if ((2874 + v32_5) < 0 ∨ 3250 ≤ (2874 + v32_5).toNatClampNeg) then none else (if ((0 : Int32) < 0 ∨ 3250 ≤ (0 : Int32).toNatClampNeg) then none else (nmk (fun (z78_0 : Int32) => (if ((2870 + v32_5) < 0 ∨ 3250 ≤ (2870 + v32_5).toNatClampNeg) then none else (nmk (fun (y113_3 : Int32) (y113_4 : Int32) => (nmk (v32_5 + 1) fun (x113 : Int32) => (f_X12_order_L32 w j119 n32 y113_3 y113_4 x113))) fun j113 => (if (w.1 0 (2870 + v32_5).toNatClampNeg) ≤ 0 then (j113 v32_3 v32_4) else (nmk (fun (_ : Unit) => (j113 v32_5 z78_0)) fun j106 => (if v32_3 = (-1) then (j106 ()) else (if v32_4 ≤ z78_0 then (j113 v32_3 v32_4) else (j106 ())))))))) fun j78 => (if (w.1 0 (2874 + v32_5).toNatClampNeg) ≤ (w.1 0 (0 : Int32).toNatClampNeg) then (if ((0 : Int32) < 0 ∨ 3250 ≤ (0 : Int32).toNatClampNeg) then none else (j78 (w.1 0 (0 : Int32).toNatClampNeg))) else (if ((2874 + v32_5) < 0 ∨ 3250 ≤ (2874 + v32_5).toNatClampNeg) then none else (j78 (w.1 0 (2874 + v32_5).toNatClampNeg))))))))
def f_X12_order (w : CW) (a1 : Int32) (a2 : Int32) : Option (Int32 × CW) := (Option.bind (f_X12_isPage w a1) fun q2 => (if q2 = 0 then (some ((-1), w)) else (if (f_X12_in a2 1 999) = 0 then (some ((-2), w)) else (nmk (fun (y119_3 : Int32) (y119_4 : Int32) => (if y119_3 = (-1) then (some ((-3), w)) else (if ((4 : Int32) < 0 ∨ 3250 ≤ (4 : Int32).toNatClampNeg) then none else (if (w.1 0 (4 : Int32).toNatClampNeg) = 12 then (some ((-4), w)) else (if ((2870 + y119_3) < 0 ∨ 3250 ≤ (2870 + y119_3).toNatClampNeg) then none else (if ((2870 + y119_3) < 0 ∨ 3250 ≤ (2870 + y119_3).toNatClampNeg) then none else (if (w.1 0 (2870 + y119_3).toNatClampNeg) = 0 then none else (nmk (((a2 + (w.1 0 (2870 + y119_3).toNatClampNeg)) - 1) / (w.1 0 (2870 + y119_3).toNatClampNeg)) fun (x166 : Int32) => (nmk (fun (y243_6 : Int32) (y243_7 : Int32) (w243_ : CW) => (if ((4 : Int32) < 0 ∨ 3250 ≤ (4 : Int32).toNatClampNeg) then none else (nmk (w243_.1 0 (4 : Int32).toNatClampNeg) fun (x249 : Int32) => (if ((2880 + x249) < 0 ∨ 3250 ≤ (2880 + x249).toNatClampNeg) then none else (nmk (sC w243_ 0 (2880 + x249).toNatClampNeg y119_3) fun w262 => (if ((2892 + x249) < 0 ∨ 3250 ≤ (2892 + x249).toNatClampNeg) then none else (nmk (sC w262 0 (2892 + x249).toNatClampNeg y243_6) fun w275 => (if ((2904 + x249) < 0 ∨ 3250 ≤ (2904 + x249).toNatClampNeg) then none else (nmk (sC w275 0 (2904 + x249).toNatClampNeg y243_7) fun w288 => (if ((2874 + y119_3) < 0 ∨ 3250 ≤ (2874 + y119_3).toNatClampNeg) then none else (nmk (sC w288 0 (2874 + y119_3).toNatClampNeg (if y243_7 = (-5) then 1001 else y243_7)) fun w313 => (if ((4 : Int32) < 0 ∨ 3250 ≤ (4 : Int32).toNatClampNeg) then none else (if ((4 : Int32) < 0 ∨ 3250 ≤ (4 : Int32).toNatClampNeg) then none else (nmk (sC w313 0 (4 : Int32).toNatClampNeg ((w313.1 0 (4 : Int32).toNatClampNeg) + 1)) fun w323 => (some (x249, w323)))))))))))))))) fun j243 => (f_X12_order_L180 j243 FU x166 (-5) (-5) y119_4 w)))))))))) fun j119 => (f_X12_order_L32 w j119 FU (-1) 0 0)))))
abbrev rm_X12_order : Room := { frames := 5, cells := 0, slots := 0, locals := 92 }
theorem cn_X12_order : CN yX12_order 2 := ⟨by decide +kernel, by decide +kernel, by decide +kernel⟩
set_option maxHeartbeats 4000000 in
set_option maxRecDepth 100000 in
theorem c_X12_order (l : Launch) (G : GX) (w : CW) (a1 : Int32) (a2 : Int32) (q : Int32 × CW) (hf : f_X12_order w a1 a2 = some q) : MI l G yX12_order cX12_order 9 (some .int) rm_X12_order [.ref (G.2.2.1 300), .int a1, .int a2] (rA G) (rH G w) (rH G q.2) q.1 := by
  refine cM_start (by decide +kernel) (Nat.le_of_ble_eq_true rfl) ?_
  intro p e s m below meth c ls X hH hl
  have hS : va_S (rA G) s.heap s.heap [] := va_S.rf
  have hx := X.1.1
  have hb := X.1.2.1
  generalize hargs : ([.ref (G.2.2.1 300), .int a1, .int a2] : List Value).toArray = args at X ⊢
  generalize hQ : MQ below (QI (rA G) (rH G q.2) q.1) args s 0 0 (rA G) = Q
  have hl : lv_has ls 9 [(0, .ref (G.2.2.1 300)), (1, .int a1), (2, .int a2)] := hl
  unfold f_X12_order at hf
  refine lv_aload_n hx hb dX12_order_0 rfl (lv_at hl 0 rfl) ?_
  refine lv_iload_n hx hb dX12_order_1 rfl (lv_at hl 1 rfl) ?_
  obtain ⟨q2, hq2, hf⟩ := bd_s hf
  refine cGz (cVrun (rest := []) X (c_X12_isPage l G w a1 q2 hq2) bw1662 bw1664 bw78 bw105 bw1665 cn_X12_isPage ⟨rfl, rfl, Nat.le_of_ble_eq_true rfl, Nat.le_of_ble_eq_true rfl⟩ (r_rec X hH) rA_g hH hS hl rfl (Nat.le_of_ble_eq_true rfl) dX12_order_2) hS (fun hz2 H locs hH hS => ?_)
  refine lv_if_ne (tgt := 10) hx hb dX12_order_5 (by decide) (fun hc => ?_) (fun hc => ?_)
  rotate_left
  · have hf := fo_t hc hf
    refine lv_iconst (v := (-1)) hx hb dX12_order_8 (by decide) ?_
    subst hQ
    exact cEi X (rH2 (so_s hf) hH) hS (pf1 (so_s hf)) dX12_order_9
  have hf := fo_f hc hf
  refine lv_iload_n hx hb dX12_order_10 rfl (lv_at hl 2 rfl) ?_
  refine lv_iconst (v := 1) hx hb dX12_order_11 (by decide) ?_
  refine lv_sipush (v := 999) hx hb dX12_order_12 (by decide) ?_
  refine cGi (cSrun (rest := []) X (c_X12_in l G (rH G w) (rA G) rA_g a2 1 999 _ rfl) bw1477 bw1478 bw105 bw1479 cn_X12_in ⟨rfl, rfl, Nat.le_of_ble_eq_true rfl, Nat.le_of_ble_eq_true rfl⟩ rA_g hH hS hl rfl (Nat.le_of_ble_eq_true rfl) dX12_order_15) hS (fun H locs hH hS => ?_)
  refine lv_if_ne (tgt := 24) hx hb dX12_order_18 (by decide) (fun hc => ?_) (fun hc => ?_)
  rotate_left
  · have hf := fo_t hc hf
    refine lv_bipush (v := (-2)) hx hb dX12_order_21 (by decide) ?_
    subst hQ
    exact cEi X (rH2 (so_s hf) hH) hS (pf1 (so_s hf)) dX12_order_23
  have hf := fo_f hc hf
  refine lv_iconst (v := (-1)) hx hb dX12_order_24 (by decide) ?_
  refine lv_istore_n (lv' := [(3, .int (-1)), (0, .ref (G.2.2.1 300)), (1, .int a1), (2, .int a2)]) hx hb dX12_order_25 rfl hl (by decide) rfl (fun ls hl => ?_)
  refine lv_iconst (v := 0) hx hb dX12_order_26 (by decide) ?_
  refine lv_istore (lv' := [(4, .int 0), (3, .int (-1)), (0, .ref (G.2.2.1 300)), (1, .int a1), (2, .int a2)]) hx hb dX12_order_27 hl (by decide) rfl (fun ls hl => ?_)
  refine lv_iconst (v := 0) hx hb dX12_order_29 (by decide) ?_
  refine lv_istore (lv' := [(5, .int 0), (4, .int 0), (3, .int (-1)), (0, .ref (G.2.2.1 300)), (1, .int a1), (2, .int a2)]) hx hb dX12_order_30 hl (by decide) rfl (fun ls hl => ?_)
  obtain ⟨j119, ej119, hf⟩ := nm_x hf
  have hj119 : ∀ (y119_3 : Int32) (y119_4 : Int32) (H : Heap) (locs : List Loc) (ls : Array Slot), j119 y119_3 y119_4 = some q → rH G w H → va_S (rA G) s.heap H locs → lv_has ls 9 [(4, .int y119_4), (3, .int y119_3), (0, .ref (G.2.2.1 300)), (2, .int a2)] → W p l e rm_X12_order s m args below meth c H locs 0 0 Q (F0 m 119 ls []) := by
    intro y119_3 y119_4 H locs ls hf hH hS hl
    have hf := jb2 ej119 hf
    refine lv_iload_n hx hb dX12_order_119 rfl (lv_at hl 1 rfl) ?_
    refine lv_iconst (v := (-1)) hx hb dX12_order_120 (by decide) ?_
    refine lv_icmp_ne (tgt := 127) hx hb dX12_order_121 (by decide) (fun hc => ?_) (fun hc => ?_)
    rotate_left
    · have hf := fo_t hc hf
      refine lv_bipush (v := (-3)) hx hb dX12_order_124 (by decide) ?_
      subst hQ
      exact cEi X (rH2 (so_s hf) hH) hS (pf1 (so_s hf)) dX12_order_126
    have hf := fo_f hc hf
    refine lv_aload_n hx hb dX12_order_127 rfl (lv_at hl 2 rfl) ?_
    refine ro_get (C := RX12) (N := 30) X hH 0 (by decide) rO rfl inBX12 1 (by decide) rfl bw1379 dX12_order_128 ?_
    refine lv_iconst (v := 4) hx hb dX12_order_131 (by decide) ?_
    by_cases hc : ((4 : Int32) < 0 ∨ 3250 ≤ (4 : Int32).toNatClampNeg)
    · cases (fo_t hc hf)
    have hf := fo_f hc hf
    refine ra_ld X hH 0 (by decide) (by decide) hc dX12_order_132 ?_
    refine lv_bipush (v := 12) hx hb dX12_order_133 (by decide) ?_
    refine lv_icmp_ne (tgt := 141) hx hb dX12_order_135 (by decide) (fun hc => ?_) (fun hc => ?_)
    rotate_left
    · have hf := fo_t hc hf
      refine lv_bipush (v := (-4)) hx hb dX12_order_138 (by decide) ?_
      subst hQ
      exact cEi X (rH2 (so_s hf) hH) hS (pf1 (so_s hf)) dX12_order_140
    have hf := fo_f hc hf
    refine lv_iload_n hx hb dX12_order_141 rfl (lv_at hl 3 rfl) ?_
    refine lv_aload_n hx hb dX12_order_142 rfl (lv_at hl 2 rfl) ?_
    refine ro_get (C := RX12) (N := 30) X hH 0 (by decide) rO rfl inBX12 1 (by decide) rfl bw1379 dX12_order_143 ?_
    refine lv_sipush (v := 2870) hx hb dX12_order_146 (by decide) ?_
    refine lv_iload_n hx hb dX12_order_149 rfl (lv_at hl 1 rfl) ?_
    refine lv_iadd hx hb dX12_order_150 ?_
    by_cases hc : ((2870 + y119_3) < 0 ∨ 3250 ≤ (2870 + y119_3).toNatClampNeg)
    · cases (fo_t hc hf)
    have hf := fo_f hc hf
    refine ra_ld X hH 0 (by decide) (by decide) hc dX12_order_151 ?_
    refine lv_iadd hx hb dX12_order_152 ?_
    refine lv_iconst (v := 1) hx hb dX12_order_153 (by decide) ?_
    refine lv_isub hx hb dX12_order_154 ?_
    refine lv_aload_n hx hb dX12_order_155 rfl (lv_at hl 2 rfl) ?_
    refine ro_get (C := RX12) (N := 30) X hH 0 (by decide) rO rfl inBX12 1 (by decide) rfl bw1379 dX12_order_156 ?_
    refine lv_sipush (v := 2870) hx hb dX12_order_159 (by decide) ?_
    refine lv_iload_n hx hb dX12_order_162 rfl (lv_at hl 1 rfl) ?_
    refine lv_iadd hx hb dX12_order_163 ?_
    by_cases hc : ((2870 + y119_3) < 0 ∨ 3250 ≤ (2870 + y119_3).toNatClampNeg)
    · cases (fo_t hc hf)
    have hf := fo_f hc hf
    refine ra_ld X hH 0 (by decide) (by decide) hc dX12_order_164 ?_
    by_cases hc : (w.1 0 (2870 + y119_3).toNatClampNeg) = 0
    · cases (fo_t hc hf)
    have hf := fo_f hc hf
    refine lv_idiv hx hb dX12_order_165 hc ?_
    refine lv_topi (fun x166 ex166 => ?_)
    have hf := nm_s hf x166 ex166
    refine lv_istore (lv' := [(5, .int x166), (4, .int y119_4), (3, .int y119_3), (0, .ref (G.2.2.1 300)), (2, .int a2)]) hx hb dX12_order_166 hl (by decide) rfl (fun ls hl => ?_)
    refine lv_bipush (v := (-5)) hx hb dX12_order_168 (by decide) ?_
    refine lv_istore (lv' := [(6, .int (-5)), (5, .int x166), (4, .int y119_4), (3, .int y119_3), (0, .ref (G.2.2.1 300)), (2, .int a2)]) hx hb dX12_order_170 hl (by decide) rfl (fun ls hl => ?_)
    refine lv_bipush (v := (-5)) hx hb dX12_order_172 (by decide) ?_
    refine lv_istore (lv' := [(7, .int (-5)), (6, .int (-5)), (5, .int x166), (4, .int y119_4), (3, .int y119_3), (0, .ref (G.2.2.1 300)), (2, .int a2)]) hx hb dX12_order_174 hl (by decide) rfl (fun ls hl => ?_)
    refine lv_iload hx hb dX12_order_176 (lv_at hl 3 rfl) ?_
    refine lv_istore (lv' := [(8, .int y119_4), (7, .int (-5)), (6, .int (-5)), (5, .int x166), (4, .int y119_4), (3, .int y119_3), (0, .ref (G.2.2.1 300)), (2, .int a2)]) hx hb dX12_order_178 hl (by decide) rfl (fun ls hl => ?_)
    obtain ⟨j243, ej243, hf⟩ := nm_x hf
    have hj243 : ∀ (y243_6 : Int32) (y243_7 : Int32) (w243_ : CW) (H : Heap) (locs : List Loc) (ls : Array Slot), j243 y243_6 y243_7 w243_ = some q → rH G w243_ H → va_S (rA G) s.heap H locs → lv_has ls 9 [(7, .int y243_7), (6, .int y243_6), (3, .int y119_3), (0, .ref (G.2.2.1 300))] → W p l e rm_X12_order s m args below meth c H locs 0 0 Q (F0 m 243 ls []) := by
      intro y243_6 y243_7 w243_ H locs ls hf hH hS hl
      have hf := jb3 ej243 hf
      refine lv_aload_n hx hb dX12_order_243 rfl (lv_at hl 3 rfl) ?_
      refine ro_get (C := RX12) (N := 30) X hH 0 (by decide) rO rfl inBX12 1 (by decide) rfl bw1379 dX12_order_244 ?_
      refine lv_iconst (v := 4) hx hb dX12_order_247 (by decide) ?_
      by_cases hc : ((4 : Int32) < 0 ∨ 3250 ≤ (4 : Int32).toNatClampNeg)
      · cases (fo_t hc hf)
      have hf := fo_f hc hf
      refine ra_ld X hH 0 (by decide) (by decide) hc dX12_order_248 ?_
      refine lv_topi (fun x249 ex249 => ?_)
      have hf := nm_s hf x249 ex249
      refine lv_istore (lv' := [(8, .int x249), (7, .int y243_7), (6, .int y243_6), (3, .int y119_3), (0, .ref (G.2.2.1 300))]) hx hb dX12_order_249 hl (by decide) rfl (fun ls hl => ?_)
      refine lv_aload_n hx hb dX12_order_251 rfl (lv_at hl 4 rfl) ?_
      refine ro_get (C := RX12) (N := 30) X hH 0 (by decide) rO rfl inBX12 1 (by decide) rfl bw1379 dX12_order_252 ?_
      refine lv_sipush (v := 2880) hx hb dX12_order_255 (by decide) ?_
      refine lv_iload hx hb dX12_order_258 (lv_at hl 0 rfl) ?_
      refine lv_iadd hx hb dX12_order_260 ?_
      refine lv_iload_n hx hb dX12_order_261 rfl (lv_at hl 3 rfl) ?_
      by_cases hc : ((2880 + x249) < 0 ∨ 3250 ≤ (2880 + x249).toNatClampNeg)
      · cases (fo_t hc hf)
      have hf := fo_f hc hf
      refine ra_st X hH hS 0 (by decide) (by decide) hc dX12_order_262 (fun H locs hH hS => ?_)
      obtain ⟨w262, ew262⟩ : ∃ z : CW, z = (sC w243_ 0 (2880 + x249).toNatClampNeg y119_3) := ⟨_, rfl⟩
      have hf := nm_s hf w262 ew262
      have hH : rH G w262 H := ew262 ▸ hH
      refine lv_aload_n hx hb dX12_order_263 rfl (lv_at hl 4 rfl) ?_
      refine ro_get (C := RX12) (N := 30) X hH 0 (by decide) rO rfl inBX12 1 (by decide) rfl bw1379 dX12_order_264 ?_
      refine lv_sipush (v := 2892) hx hb dX12_order_267 (by decide) ?_
      refine lv_iload hx hb dX12_order_270 (lv_at hl 0 rfl) ?_
      refine lv_iadd hx hb dX12_order_272 ?_
      refine lv_iload hx hb dX12_order_273 (lv_at hl 2 rfl) ?_
      by_cases hc : ((2892 + x249) < 0 ∨ 3250 ≤ (2892 + x249).toNatClampNeg)
      · cases (fo_t hc hf)
      have hf := fo_f hc hf
      refine ra_st X hH hS 0 (by decide) (by decide) hc dX12_order_275 (fun H locs hH hS => ?_)
      obtain ⟨w275, ew275⟩ : ∃ z : CW, z = (sC w262 0 (2892 + x249).toNatClampNeg y243_6) := ⟨_, rfl⟩
      have hf := nm_s hf w275 ew275
      have hH : rH G w275 H := ew275 ▸ hH
      refine lv_aload_n hx hb dX12_order_276 rfl (lv_at hl 4 rfl) ?_
      refine ro_get (C := RX12) (N := 30) X hH 0 (by decide) rO rfl inBX12 1 (by decide) rfl bw1379 dX12_order_277 ?_
      refine lv_sipush (v := 2904) hx hb dX12_order_280 (by decide) ?_
      refine lv_iload hx hb dX12_order_283 (lv_at hl 0 rfl) ?_
      refine lv_iadd hx hb dX12_order_285 ?_
      refine lv_iload hx hb dX12_order_286 (lv_at hl 1 rfl) ?_
      by_cases hc : ((2904 + x249) < 0 ∨ 3250 ≤ (2904 + x249).toNatClampNeg)
      · cases (fo_t hc hf)
      have hf := fo_f hc hf
      refine ra_st X hH hS 0 (by decide) (by decide) hc dX12_order_288 (fun H locs hH hS => ?_)
      obtain ⟨w288, ew288⟩ : ∃ z : CW, z = (sC w275 0 (2904 + x249).toNatClampNeg y243_7) := ⟨_, rfl⟩
      have hf := nm_s hf w288 ew288
      have hH : rH G w288 H := ew288 ▸ hH
      refine lv_aload_n hx hb dX12_order_289 rfl (lv_at hl 4 rfl) ?_
      refine ro_get (C := RX12) (N := 30) X hH 0 (by decide) rO rfl inBX12 1 (by decide) rfl bw1379 dX12_order_290 ?_
      refine lv_sipush (v := 2874) hx hb dX12_order_293 (by decide) ?_
      refine lv_iload_n hx hb dX12_order_296 rfl (lv_at hl 3 rfl) ?_
      refine lv_iadd hx hb dX12_order_297 ?_
      refine lv_iload hx hb dX12_order_298 (lv_at hl 1 rfl) ?_
      refine lv_bipush (v := (-5)) hx hb dX12_order_300 (by decide) ?_
      have hJ : ∀ (H : Heap) (locs : List Loc), rH G w288 H → va_S (rA G) s.heap H locs → W p l e rm_X12_order s m args below meth c H locs 0 0 Q (F0 m 313 ls [.int (if y243_7 = (-5) then 1001 else y243_7), .int (2874 + y119_3), .ref (G.2.2.1 301)]) := by
        intro H locs hH hS
        by_cases hc : ((2874 + y119_3) < 0 ∨ 3250 ≤ (2874 + y119_3).toNatClampNeg)
        · cases (fo_t hc hf)
        have hf := fo_f hc hf
        refine ra_st X hH hS 0 (by decide) (by decide) hc dX12_order_313 (fun H locs hH hS => ?_)
        obtain ⟨w313, ew313⟩ : ∃ z : CW, z = (sC w288 0 (2874 + y119_3).toNatClampNeg (if y243_7 = (-5) then 1001 else y243_7)) := ⟨_, rfl⟩
        have hf := nm_s hf w313 ew313
        have hH : rH G w313 H := ew313 ▸ hH
        refine lv_aload_n hx hb dX12_order_314 rfl (lv_at hl 4 rfl) ?_
        refine ro_get (C := RX12) (N := 30) X hH 0 (by decide) rO rfl inBX12 1 (by decide) rfl bw1379 dX12_order_315 ?_
        refine lv_iconst (v := 4) hx hb dX12_order_318 (by decide) ?_
        refine lv_dup2_11 hx hb dX12_order_319 rfl rfl ?_
        by_cases hc : ((4 : Int32) < 0 ∨ 3250 ≤ (4 : Int32).toNatClampNeg)
        · cases (fo_t hc hf)
        have hf := fo_f hc hf
        refine ra_ld X hH 0 (by decide) (by decide) hc dX12_order_320 ?_
        refine lv_iconst (v := 1) hx hb dX12_order_321 (by decide) ?_
        refine lv_iadd hx hb dX12_order_322 ?_
        by_cases hc : ((4 : Int32) < 0 ∨ 3250 ≤ (4 : Int32).toNatClampNeg)
        · cases (fo_t hc hf)
        have hf := fo_f hc hf
        refine ra_st X hH hS 0 (by decide) (by decide) hc dX12_order_323 (fun H locs hH hS => ?_)
        obtain ⟨w323, ew323⟩ : ∃ z : CW, z = (sC w313 0 (4 : Int32).toNatClampNeg ((w313.1 0 (4 : Int32).toNatClampNeg) + 1)) := ⟨_, rfl⟩
        have hf := nm_s hf w323 ew323
        have hH : rH G w323 H := ew323 ▸ hH
        refine lv_iload hx hb dX12_order_324 (lv_at hl 0 rfl) ?_
        subst hQ
        exact cEi X (rH2 (so_s hf) hH) hS (pf1 (so_s hf)) dX12_order_326
      refine lv_icmp_ne (tgt := 311) hx hb dX12_order_302 (by decide) (fun hc302 => ?_) (fun hc302 => ?_)
      · refine lv_iload hx hb dX12_order_311 (lv_at hl 1 rfl) ?_
        exact W.eq (by rw [if_neg hc302] <;> rfl) (hJ _ _ hH hS)
      · refine lv_sipush (v := 1001) hx hb dX12_order_305 (by decide) ?_
        refine lv_goto (tgt := 313) hx hb dX12_order_308 (by decide) ?_
        exact W.eq (by rw [if_pos hc302] <;> rfl) (hJ _ _ hH hS)
    have hL180 : ∀ (n180 : Nat) (v180_5 : Int32) (v180_6 : Int32) (v180_7 : Int32) (v180_8 : Int32) (w180_ : CW) (H : Heap) (locs : List Loc) (ls : Array Slot), f_X12_order_L180 j243 n180 v180_5 v180_6 v180_7 v180_8 w180_ = some q → rH G w180_ H → va_S (rA G) s.heap H locs → lv_has ls 9 [(8, .int v180_8), (7, .int v180_7), (6, .int v180_6), (5, .int v180_5), (3, .int y119_3), (0, .ref (G.2.2.1 300))] → W p l e rm_X12_order s m args below meth c H locs 0 0 Q (F0 m 180 ls []) := by
      intro n180
      induction n180 with
      | zero => intro v180_5 v180_6 v180_7 v180_8 w180_ H locs ls hf; rw [f_X12_order_L180] at hf; cases hf
      | succ n180 ih180 =>
        intro v180_5 v180_6 v180_7 v180_8 w180_ H locs ls hf hH hS hl
        rw [f_X12_order_L180] at hf
        refine lv_iload hx hb dX12_order_180 (lv_at hl 0 rfl) ?_
        refine lv_sipush (v := 999) hx hb dX12_order_182 (by decide) ?_
        refine lv_icmp_gt (tgt := 243) hx hb dX12_order_185 (by decide) (fun hc => ?_) (fun hc => ?_)
        · have hf := fo_t hc hf
          exact hj243 _ _ _ _ _ _ hf hH hS (lv_sub hl [1, 2, 4, 5] rfl)
        have hf := fo_f hc hf
        refine lv_iload hx hb dX12_order_188 (lv_at hl 3 rfl) ?_
        refine lv_if_le (tgt := 243) hx hb dX12_order_190 (by decide) (fun hc => ?_) (fun hc => ?_)
        · have hf := fo_t hc hf
          exact hj243 _ _ _ _ _ _ hf hH hS (lv_sub hl [1, 2, 4, 5] rfl)
        have hf := fo_f hc hf
        refine lv_aload_n hx hb dX12_order_193 rfl (lv_at hl 5 rfl) ?_
        refine lv_iload hx hb dX12_order_194 (lv_at hl 0 rfl) ?_
        obtain ⟨q196, hq196, hf⟩ := bd_s hf
        refine cGz (cVrun (rest := []) X (c_X12_isFeast l G w180_ v180_8 q196 hq196) bw1678 bw1680 bw79 bw105 bw1681 cn_X12_isFeast ⟨rfl, rfl, Nat.le_of_ble_eq_true rfl, Nat.le_of_ble_eq_true rfl⟩ (r_rec X hH) rA_g hH hS hl rfl (Nat.le_of_ble_eq_true rfl) dX12_order_196) hS (fun hz196 H locs hH hS => ?_)
        obtain ⟨j237, ej237, hf⟩ := nm_x hf
        have hj237 : ∀ (y237_5 : Int32) (y237_6 : Int32) (y237_7 : Int32) (H : Heap) (locs : List Loc) (ls : Array Slot), j237 y237_5 y237_6 y237_7 = some q → rH G q196.2 H → va_S (rA G) s.heap H locs → lv_has ls 9 [(8, .int v180_8), (7, .int y237_7), (6, .int y237_6), (5, .int y237_5), (3, .int y119_3), (0, .ref (G.2.2.1 300))] → W p l e rm_X12_order s m args below meth c H locs 0 0 Q (F0 m 237 ls []) := by
          intro y237_5 y237_6 y237_7 H locs ls hf hH hS hl
          have hf := jb3 ej237 hf
          obtain ⟨x237, ex237⟩ : ∃ z : Int32, z = (v180_8 + 1) := ⟨_, rfl⟩
          have hf := nm_s hf x237 ex237
          refine lv_iinc (v := x237) (lv' := [(8, .int x237), (7, .int y237_7), (6, .int y237_6), (5, .int y237_5), (3, .int y119_3), (0, .ref (G.2.2.1 300))]) hx hb dX12_order_237 hl (k := 0) rfl (by rw [ex237]; rfl) (by decide) rfl (fun ls hl => ?_)
          refine lv_goto (tgt := 180) hx hb dX12_order_240 (by decide) ?_
          exact ih180 _ _ _ _ _ _ _ _ hf hH hS (lv_sub hl [0, 1, 2, 3, 4, 5] rfl)
        refine lv_if_ne (tgt := 237) hx hb dX12_order_199 (by decide) (fun hc => ?_) (fun hc => ?_)
        · have hf := fo_f hc hf
          exact hj237 _ _ _ _ _ _ hf hH hS (lv_sub hl [0, 1, 2, 3, 4, 5] rfl)
        have hf := fo_t hc hf
        refine lv_iload hx hb dX12_order_202 (lv_at hl 2 rfl) ?_
        refine lv_bipush (v := (-5)) hx hb dX12_order_204 (by decide) ?_
        have hJ : ∀ (H : Heap) (locs : List Loc), rH G q196.2 H → va_S (rA G) s.heap H locs → W p l e rm_X12_order s m args below meth c H locs 0 0 Q (F0 m 216 ls [.int (if v180_6 = (-5) then v180_8 else v180_6)]) := by
          intro H locs hH hS
          refine lv_topi (fun x216 ex216 => ?_)
          have hf := nm_s hf x216 ex216
          refine lv_istore (lv' := [(6, .int x216), (8, .int v180_8), (7, .int v180_7), (5, .int v180_5), (3, .int y119_3), (0, .ref (G.2.2.1 300))]) hx hb dX12_order_216 hl (by decide) rfl (fun ls hl => ?_)
          obtain ⟨x218, ex218⟩ : ∃ z : Int32, z = (v180_5 + (-1)) := ⟨_, rfl⟩
          have hf := nm_s hf x218 ex218
          refine lv_iinc (v := x218) (lv' := [(5, .int x218), (6, .int x216), (8, .int v180_8), (7, .int v180_7), (3, .int y119_3), (0, .ref (G.2.2.1 300))]) hx hb dX12_order_218 hl (k := 3) rfl (by rw [ex218]; rfl) (by decide) rfl (fun ls hl => ?_)
          refine lv_iload hx hb dX12_order_221 (lv_at hl 0 rfl) ?_
          have hJ : ∀ (H : Heap) (locs : List Loc), rH G q196.2 H → va_S (rA G) s.heap H locs → W p l e rm_X12_order s m args below meth c H locs 0 0 Q (F0 m 235 ls [.int (if x218 = 0 then (v180_8 + 1) else (-5))]) := by
            intro H locs hH hS
            refine lv_topi (fun x235 ex235 => ?_)
            have hf := nm_s hf x235 ex235
            refine lv_istore (lv' := [(7, .int x235), (5, .int x218), (6, .int x216), (8, .int v180_8), (3, .int y119_3), (0, .ref (G.2.2.1 300))]) hx hb dX12_order_235 hl (by decide) rfl (fun ls hl => ?_)
            exact hj237 _ _ _ _ _ _ hf hH hS (lv_sub hl [3, 0, 2, 1, 4, 5] rfl)
          refine lv_if_ne (tgt := 233) hx hb dX12_order_223 (by decide) (fun hc223 => ?_) (fun hc223 => ?_)
          · refine lv_bipush (v := (-5)) hx hb dX12_order_233 (by decide) ?_
            exact W.eq (by rw [if_neg hc223] <;> rfl) (hJ _ _ hH hS)
          · refine lv_iload hx hb dX12_order_226 (lv_at hl 2 rfl) ?_
            refine lv_iconst (v := 1) hx hb dX12_order_228 (by decide) ?_
            refine lv_iadd hx hb dX12_order_229 ?_
            refine lv_goto (tgt := 235) hx hb dX12_order_230 (by decide) ?_
            exact W.eq (by rw [if_pos hc223] <;> rfl) (hJ _ _ hH hS)
        refine lv_icmp_ne (tgt := 214) hx hb dX12_order_206 (by decide) (fun hc206 => ?_) (fun hc206 => ?_)
        · refine lv_iload hx hb dX12_order_214 (lv_at hl 2 rfl) ?_
          exact W.eq (by rw [if_neg hc206] <;> rfl) (hJ _ _ hH hS)
        · refine lv_iload hx hb dX12_order_209 (lv_at hl 0 rfl) ?_
          refine lv_goto (tgt := 216) hx hb dX12_order_211 (by decide) ?_
          exact W.eq (by rw [if_pos hc206] <;> rfl) (hJ _ _ hH hS)
    exact hL180 _ _ _ _ _ _ _ _ _ hf hH hS (lv_sub hl [0, 1, 2, 3, 5, 6] rfl)
  have hL32 : ∀ (n32 : Nat) (v32_3 : Int32) (v32_4 : Int32) (v32_5 : Int32) (H : Heap) (locs : List Loc) (ls : Array Slot), f_X12_order_L32 w j119 n32 v32_3 v32_4 v32_5 = some q → rH G w H → va_S (rA G) s.heap H locs → lv_has ls 9 [(5, .int v32_5), (4, .int v32_4), (3, .int v32_3), (0, .ref (G.2.2.1 300)), (2, .int a2)] → W p l e rm_X12_order s m args below meth c H locs 0 0 Q (F0 m 32 ls []) := by
    intro n32
    induction n32 with
    | zero => intro v32_3 v32_4 v32_5 H locs ls hf; rw [f_X12_order_L32] at hf; cases hf
    | succ n32 ih32 =>
      intro v32_3 v32_4 v32_5 H locs ls hf hH hS hl
      rw [f_X12_order_L32] at hf
      refine lv_iload hx hb dX12_order_32 (lv_at hl 0 rfl) ?_
      refine lv_iconst (v := 4) hx hb dX12_order_34 (by decide) ?_
      refine lv_icmp_ge (tgt := 119) hx hb dX12_order_35 (by decide) (fun hc => ?_) (fun hc => ?_)
      · have hf := fo_t hc hf
        exact hj119 _ _ _ _ _ hf hH hS (lv_sub hl [1, 2, 3, 4] rfl)
      have hf := fo_f hc hf
      refine lv_aload_n hx hb dX12_order_38 rfl (lv_at hl 3 rfl) ?_
      refine ro_get (C := RX12) (N := 30) X hH 0 (by decide) rO rfl inBX12 1 (by decide) rfl bw1379 dX12_order_39 ?_
      refine lv_sipush (v := 2874) hx hb dX12_order_42 (by decide) ?_
      refine lv_iload hx hb dX12_order_45 (lv_at hl 0 rfl) ?_
      refine lv_iadd hx hb dX12_order_47 ?_
      by_cases hc : ((2874 + v32_5) < 0 ∨ 3250 ≤ (2874 + v32_5).toNatClampNeg)
      · cases (fo_t hc hf)
      have hf := fo_f hc hf
      refine ra_ld X hH 0 (by decide) (by decide) hc dX12_order_48 ?_
      refine lv_aload_n hx hb dX12_order_49 rfl (lv_at hl 3 rfl) ?_
      refine ro_get (C := RX12) (N := 30) X hH 0 (by decide) rO rfl inBX12 1 (by decide) rfl bw1379 dX12_order_50 ?_
      refine lv_iconst (v := 0) hx hb dX12_order_53 (by decide) ?_
      by_cases hc : ((0 : Int32) < 0 ∨ 3250 ≤ (0 : Int32).toNatClampNeg)
      · cases (fo_t hc hf)
      have hf := fo_f hc hf
      refine ra_ld X hH 0 (by decide) (by decide) hc dX12_order_54 ?_
      obtain ⟨j78, ej78, hf⟩ := nm_x hf
      have hj78 : ∀ (z78_0 : Int32) (H : Heap) (locs : List Loc) (ls : Array Slot), j78 z78_0 = some q → rH G w H → va_S (rA G) s.heap H locs → lv_has ls 9 [(5, .int v32_5), (4, .int v32_4), (3, .int v32_3), (0, .ref (G.2.2.1 300)), (2, .int a2)] → W p l e rm_X12_order s m args below meth c H locs 0 0 Q (F0 m 78 ls [.int z78_0]) := by
        intro z78_0 H locs ls hf hH hS hl
        have hf := jb1 ej78 hf
        refine lv_istore (lv' := [(6, .int z78_0), (5, .int v32_5), (4, .int v32_4), (3, .int v32_3), (0, .ref (G.2.2.1 300)), (2, .int a2)]) hx hb dX12_order_78 hl (by decide) rfl (fun ls hl => ?_)
        refine lv_aload_n hx hb dX12_order_80 rfl (lv_at hl 4 rfl) ?_
        refine ro_get (C := RX12) (N := 30) X hH 0 (by decide) rO rfl inBX12 1 (by decide) rfl bw1379 dX12_order_81 ?_
        refine lv_sipush (v := 2870) hx hb dX12_order_84 (by decide) ?_
        refine lv_iload hx hb dX12_order_87 (lv_at hl 1 rfl) ?_
        refine lv_iadd hx hb dX12_order_89 ?_
        by_cases hc : ((2870 + v32_5) < 0 ∨ 3250 ≤ (2870 + v32_5).toNatClampNeg)
        · cases (fo_t hc hf)
        have hf := fo_f hc hf
        refine ra_ld X hH 0 (by decide) (by decide) hc dX12_order_90 ?_
        obtain ⟨j113, ej113, hf⟩ := nm_x hf
        have hj113 : ∀ (y113_3 : Int32) (y113_4 : Int32) (H : Heap) (locs : List Loc) (ls : Array Slot), j113 y113_3 y113_4 = some q → rH G w H → va_S (rA G) s.heap H locs → lv_has ls 9 [(5, .int v32_5), (4, .int y113_4), (3, .int y113_3), (0, .ref (G.2.2.1 300)), (2, .int a2)] → W p l e rm_X12_order s m args below meth c H locs 0 0 Q (F0 m 113 ls []) := by
          intro y113_3 y113_4 H locs ls hf hH hS hl
          have hf := jb2 ej113 hf
          obtain ⟨x113, ex113⟩ : ∃ z : Int32, z = (v32_5 + 1) := ⟨_, rfl⟩
          have hf := nm_s hf x113 ex113
          refine lv_iinc (v := x113) (lv' := [(5, .int x113), (4, .int y113_4), (3, .int y113_3), (0, .ref (G.2.2.1 300)), (2, .int a2)]) hx hb dX12_order_113 hl (k := 0) rfl (by rw [ex113]; rfl) (by decide) rfl (fun ls hl => ?_)
          refine lv_goto (tgt := 32) hx hb dX12_order_116 (by decide) ?_
          exact ih32 _ _ _ _ _ _ hf hH hS (lv_sub hl [0, 1, 2, 3, 4] rfl)
        refine lv_if_le (tgt := 113) hx hb dX12_order_91 (by decide) (fun hc => ?_) (fun hc => ?_)
        · have hf := fo_t hc hf
          exact hj113 _ _ _ _ _ hf hH hS (lv_sub hl [1, 2, 3, 4, 5] rfl)
        have hf := fo_f hc hf
        refine lv_iload_n hx hb dX12_order_94 rfl (lv_at hl 3 rfl) ?_
        refine lv_iconst (v := (-1)) hx hb dX12_order_95 (by decide) ?_
        obtain ⟨j106, ej106, hf⟩ := nm_x hf
        have hj106 : ∀ (u0 : Unit) (H : Heap) (locs : List Loc) (ls : Array Slot), j106 u0 = some q → rH G w H → va_S (rA G) s.heap H locs → lv_has ls 9 [(6, .int z78_0), (5, .int v32_5), (0, .ref (G.2.2.1 300)), (2, .int a2)] → W p l e rm_X12_order s m args below meth c H locs 0 0 Q (F0 m 106 ls []) := by
          intro u0 H locs ls hf hH hS hl
          have hf := jb1 ej106 hf
          refine lv_iload hx hb dX12_order_106 (lv_at hl 1 rfl) ?_
          refine lv_istore_n (lv' := [(3, .int v32_5), (6, .int z78_0), (5, .int v32_5), (0, .ref (G.2.2.1 300)), (2, .int a2)]) hx hb dX12_order_108 rfl hl (by decide) rfl (fun ls hl => ?_)
          refine lv_iload hx hb dX12_order_109 (lv_at hl 1 rfl) ?_
          refine lv_istore (lv' := [(4, .int z78_0), (3, .int v32_5), (6, .int z78_0), (5, .int v32_5), (0, .ref (G.2.2.1 300)), (2, .int a2)]) hx hb dX12_order_111 hl (by decide) rfl (fun ls hl => ?_)
          exact hj113 _ _ _ _ _ hf hH hS (lv_sub hl [3, 0, 1, 4, 5] rfl)
        refine lv_icmp_eq (tgt := 106) hx hb dX12_order_96 (by decide) (fun hc => ?_) (fun hc => ?_)
        · have hf := fo_t hc hf
          exact hj106 () _ _ _ hf hH hS (lv_sub hl [0, 1, 4, 5] rfl)
        have hf := fo_f hc hf
        refine lv_iload hx hb dX12_order_99 (lv_at hl 0 rfl) ?_
        refine lv_iload hx hb dX12_order_101 (lv_at hl 2 rfl) ?_
        refine lv_icmp_ge (tgt := 113) hx hb dX12_order_103 (by decide) (fun hc => ?_) (fun hc => ?_)
        · have hf := fo_t hc hf
          exact hj113 _ _ _ _ _ hf hH hS (lv_sub hl [1, 2, 3, 4, 5] rfl)
        have hf := fo_f hc hf
        exact hj106 () _ _ _ hf hH hS (lv_sub hl [0, 1, 4, 5] rfl)
      refine lv_icmp_le (tgt := 72) hx hb dX12_order_55 (by decide) (fun hc => ?_) (fun hc => ?_)
      · have hf := fo_t hc hf
        refine lv_aload_n hx hb dX12_order_72 rfl (lv_at hl 3 rfl) ?_
        refine ro_get (C := RX12) (N := 30) X hH 0 (by decide) rO rfl inBX12 1 (by decide) rfl bw1379 dX12_order_73 ?_
        refine lv_iconst (v := 0) hx hb dX12_order_76 (by decide) ?_
        by_cases hc : ((0 : Int32) < 0 ∨ 3250 ≤ (0 : Int32).toNatClampNeg)
        · cases (fo_t hc hf)
        have hf := fo_f hc hf
        refine ra_ld X hH 0 (by decide) (by decide) hc dX12_order_77 ?_
        exact hj78 _ _ _ _ hf hH hS (lv_sub hl [0, 1, 2, 3, 4] rfl)
      have hf := fo_f hc hf
      refine lv_aload_n hx hb dX12_order_58 rfl (lv_at hl 3 rfl) ?_
      refine ro_get (C := RX12) (N := 30) X hH 0 (by decide) rO rfl inBX12 1 (by decide) rfl bw1379 dX12_order_59 ?_
      refine lv_sipush (v := 2874) hx hb dX12_order_62 (by decide) ?_
      refine lv_iload hx hb dX12_order_65 (lv_at hl 0 rfl) ?_
      refine lv_iadd hx hb dX12_order_67 ?_
      by_cases hc : ((2874 + v32_5) < 0 ∨ 3250 ≤ (2874 + v32_5).toNatClampNeg)
      · cases (fo_t hc hf)
      have hf := fo_f hc hf
      refine ra_ld X hH 0 (by decide) (by decide) hc dX12_order_68 ?_
      refine lv_goto (tgt := 78) hx hb dX12_order_69 (by decide) ?_
      exact hj78 _ _ _ _ hf hH hS (lv_sub hl [0, 1, 2, 3, 4] rfl)
  exact hL32 _ _ _ _ _ _ _ hf hH hS (lv_sub hl [0, 1, 2, 3, 5] rfl)
def f_X12_done (w : CW) (a1 : Int32) (a2 : Int32) : Option (Int32) := (if ((4 : Int32) < 0 ∨ 3250 ≤ (4 : Int32).toNatClampNeg) then none else (if (f_X12_in a1 0 ((w.1 0 (4 : Int32).toNatClampNeg) - 1)) = 0 then (some (-1)) else (if a2 = 0 then (if ((2880 + a1) < 0 ∨ 3250 ≤ (2880 + a1).toNatClampNeg) then none else (some (w.1 0 (2880 + a1).toNatClampNeg))) else (if a2 = 1 then (if ((2892 + a1) < 0 ∨ 3250 ≤ (2892 + a1).toNatClampNeg) then none else (some (w.1 0 (2892 + a1).toNatClampNeg))) else (if a2 = 2 then (if ((2904 + a1) < 0 ∨ 3250 ≤ (2904 + a1).toNatClampNeg) then none else (some (w.1 0 (2904 + a1).toNatClampNeg))) else (some (-1)))))))
abbrev rm_X12_done : Room := { frames := 2, cells := 0, slots := 0, locals := 22 }
theorem cn_X12_done : CN yX12_done 2 := ⟨by decide +kernel, by decide +kernel, by decide +kernel⟩
set_option maxHeartbeats 4000000 in
set_option maxRecDepth 100000 in
theorem c_X12_done (l : Launch) (G : GX) (w : CW) (a1 : Int32) (a2 : Int32) (q : Int32) (hf : f_X12_done w a1 a2 = some q) : MI l G yX12_done cX12_done 3 (some .int) rm_X12_done [.ref (G.2.2.1 300), .int a1, .int a2] (rA G) (rH G w) (rH G w) q := by
  refine cM_start (by decide +kernel) (Nat.le_of_ble_eq_true rfl) ?_
  intro p e s m below meth c ls X hH hl
  have hS : va_S (rA G) s.heap s.heap [] := va_S.rf
  have hx := X.1.1
  have hb := X.1.2.1
  generalize hargs : ([.ref (G.2.2.1 300), .int a1, .int a2] : List Value).toArray = args at X ⊢
  generalize hQ : MQ below (QI (rA G) (rH G w) q) args s 0 0 (rA G) = Q
  have hl : lv_has ls 3 [(0, .ref (G.2.2.1 300)), (1, .int a1), (2, .int a2)] := hl
  unfold f_X12_done at hf
  refine lv_iload_n hx hb dX12_done_0 rfl (lv_at hl 1 rfl) ?_
  refine lv_iconst (v := 0) hx hb dX12_done_1 (by decide) ?_
  refine lv_aload_n hx hb dX12_done_2 rfl (lv_at hl 0 rfl) ?_
  refine ro_get (C := RX12) (N := 30) X hH 0 (by decide) rO rfl inBX12 1 (by decide) rfl bw1379 dX12_done_3 ?_
  refine lv_iconst (v := 4) hx hb dX12_done_6 (by decide) ?_
  by_cases hc : ((4 : Int32) < 0 ∨ 3250 ≤ (4 : Int32).toNatClampNeg)
  · cases (fo_t hc hf)
  have hf := fo_f hc hf
  refine ra_ld X hH 0 (by decide) (by decide) hc dX12_done_7 ?_
  refine lv_iconst (v := 1) hx hb dX12_done_8 (by decide) ?_
  refine lv_isub hx hb dX12_done_9 ?_
  refine cGi (cSrun (rest := []) X (c_X12_in l G (rH G w) (rA G) rA_g a1 0 ((w.1 0 (4 : Int32).toNatClampNeg) - 1) _ rfl) bw1477 bw1478 bw105 bw1479 cn_X12_in ⟨rfl, rfl, Nat.le_of_ble_eq_true rfl, Nat.le_of_ble_eq_true rfl⟩ rA_g hH hS hl rfl (Nat.le_of_ble_eq_true rfl) dX12_done_10) hS (fun H locs hH hS => ?_)
  refine lv_if_ne (tgt := 18) hx hb dX12_done_13 (by decide) (fun hc => ?_) (fun hc => ?_)
  rotate_left
  · have hf := fo_t hc hf
    refine lv_iconst (v := (-1)) hx hb dX12_done_16 (by decide) ?_
    subst hQ
    exact cEi X hH hS (so_s hf) dX12_done_17
  have hf := fo_f hc hf
  refine lv_iload_n hx hb dX12_done_18 rfl (lv_at hl 2 rfl) ?_
  by_cases hc0 : a2 = 0
  · have hf := fo_t hc0 hf
    refine lv_tableIn (tgt := 44) hx hb dX12_done_19 (by rw [hc0]; decide) (by rw [hc0]; decide) (by rw [hc0]; rfl) (by decide) ?_
    refine lv_aload_n hx hb dX12_done_44 rfl (lv_at hl 0 rfl) ?_
    refine ro_get (C := RX12) (N := 30) X hH 0 (by decide) rO rfl inBX12 1 (by decide) rfl bw1379 dX12_done_45 ?_
    refine lv_sipush (v := 2880) hx hb dX12_done_48 (by decide) ?_
    refine lv_iload_n hx hb dX12_done_51 rfl (lv_at hl 1 rfl) ?_
    refine lv_iadd hx hb dX12_done_52 ?_
    by_cases hc : ((2880 + a1) < 0 ∨ 3250 ≤ (2880 + a1).toNatClampNeg)
    · cases (fo_t hc hf)
    have hf := fo_f hc hf
    refine ra_ld X hH 0 (by decide) (by decide) hc dX12_done_53 ?_
    subst hQ
    exact cEi X hH hS (so_s hf) dX12_done_54
  have hf := fo_f hc0 hf
  by_cases hc1 : a2 = 1
  · have hf := fo_t hc1 hf
    refine lv_tableIn (tgt := 55) hx hb dX12_done_19 (by rw [hc1]; decide) (by rw [hc1]; decide) (by rw [hc1]; rfl) (by decide) ?_
    refine lv_aload_n hx hb dX12_done_55 rfl (lv_at hl 0 rfl) ?_
    refine ro_get (C := RX12) (N := 30) X hH 0 (by decide) rO rfl inBX12 1 (by decide) rfl bw1379 dX12_done_56 ?_
    refine lv_sipush (v := 2892) hx hb dX12_done_59 (by decide) ?_
    refine lv_iload_n hx hb dX12_done_62 rfl (lv_at hl 1 rfl) ?_
    refine lv_iadd hx hb dX12_done_63 ?_
    by_cases hc : ((2892 + a1) < 0 ∨ 3250 ≤ (2892 + a1).toNatClampNeg)
    · cases (fo_t hc hf)
    have hf := fo_f hc hf
    refine ra_ld X hH 0 (by decide) (by decide) hc dX12_done_64 ?_
    subst hQ
    exact cEi X hH hS (so_s hf) dX12_done_65
  have hf := fo_f hc1 hf
  by_cases hc2 : a2 = 2
  · have hf := fo_t hc2 hf
    refine lv_tableIn (tgt := 66) hx hb dX12_done_19 (by rw [hc2]; decide) (by rw [hc2]; decide) (by rw [hc2]; rfl) (by decide) ?_
    refine lv_aload_n hx hb dX12_done_66 rfl (lv_at hl 0 rfl) ?_
    refine ro_get (C := RX12) (N := 30) X hH 0 (by decide) rO rfl inBX12 1 (by decide) rfl bw1379 dX12_done_67 ?_
    refine lv_sipush (v := 2904) hx hb dX12_done_70 (by decide) ?_
    refine lv_iload_n hx hb dX12_done_73 rfl (lv_at hl 1 rfl) ?_
    refine lv_iadd hx hb dX12_done_74 ?_
    by_cases hc : ((2904 + a1) < 0 ∨ 3250 ≤ (2904 + a1).toNatClampNeg)
    · cases (fo_t hc hf)
    have hf := fo_f hc hf
    refine ra_ld X hH 0 (by decide) (by decide) hc dX12_done_75 ?_
    subst hQ
    exact cEi X hH hS (so_s hf) dX12_done_76
  have hf := fo_f hc2 hf
  refine lv_tableOut (tgt := 77) hx hb dX12_done_19 (sw_out (ks := [0, 1, 2]) (by intro k hk; simp only [List.mem_cons, List.not_mem_nil, or_false] at hk; rcases hk with rfl | rfl | rfl <;> assumption) (sw_all 0 [0, 1, 2] (by decide))) (by decide) ?_
  refine lv_iconst (v := (-1)) hx hb dX12_done_77 (by decide) ?_
  subst hQ
  exact cEi X hH hS (so_s hf) dX12_done_78
def f_X12_leaf (w : CW) (a1 : Int32) (a2 : Int32) (a3 : Int32) (a4 : Int32) : Option (Int32 × CW) := (if (f_X12_in a1 0 6) = 0 then (some ((-1), w)) else (if (f_X12_in a4 0 9) = 0 then (some ((-1), w)) else (if (f_X12_in a2 0 29) = 0 then (some ((-2), w)) else (if (f_X12_in a3 0 255) = 0 then (some ((-2), w)) else (if ((5 : Int32) < 0 ∨ 3250 ≤ (5 : Int32).toNatClampNeg) then none else (if (w.1 0 (5 : Int32).toNatClampNeg) = 40 then (some ((-4), w)) else (if ((5 : Int32) < 0 ∨ 3250 ≤ (5 : Int32).toNatClampNeg) then none else (nmk (w.1 0 (5 : Int32).toNatClampNeg) fun (x67 : Int32) => (if ((2920 + x67) < 0 ∨ 3250 ≤ (2920 + x67).toNatClampNeg) then none else (nmk (sC w 0 (2920 + x67).toNatClampNeg a1) fun w80 => (if ((2960 + x67) < 0 ∨ 3250 ≤ (2960 + x67).toNatClampNeg) then none else (nmk (sC w80 0 (2960 + x67).toNatClampNeg a2) fun w92 => (if ((3000 + x67) < 0 ∨ 3250 ≤ (3000 + x67).toNatClampNeg) then none else (nmk (sC w92 0 (3000 + x67).toNatClampNeg a3) fun w104 => (if ((3040 + x67) < 0 ∨ 3250 ≤ (3040 + x67).toNatClampNeg) then none else (nmk (sC w104 0 (3040 + x67).toNatClampNeg a4) fun w117 => (if ((5 : Int32) < 0 ∨ 3250 ≤ (5 : Int32).toNatClampNeg) then none else (if ((5 : Int32) < 0 ∨ 3250 ≤ (5 : Int32).toNatClampNeg) then none else (nmk (sC w117 0 (5 : Int32).toNatClampNeg ((w117.1 0 (5 : Int32).toNatClampNeg) + 1)) fun w127 => (some (x67, w127)))))))))))))))))))))
abbrev rm_X12_leaf : Room := { frames := 2, cells := 0, slots := 0, locals := 22 }
theorem cn_X12_leaf : CN yX12_leaf 4 := ⟨by decide +kernel, by decide +kernel, by decide +kernel⟩
set_option maxHeartbeats 4000000 in
set_option maxRecDepth 100000 in
theorem c_X12_leaf (l : Launch) (G : GX) (w : CW) (a1 : Int32) (a2 : Int32) (a3 : Int32) (a4 : Int32) (q : Int32 × CW) (hf : f_X12_leaf w a1 a2 a3 a4 = some q) : MI l G yX12_leaf cX12_leaf 6 (some .int) rm_X12_leaf [.ref (G.2.2.1 300), .int a1, .int a2, .int a3, .int a4] (rA G) (rH G w) (rH G q.2) q.1 := by
  refine cM_start (by decide +kernel) (Nat.le_of_ble_eq_true rfl) ?_
  intro p e s m below meth c ls X hH hl
  have hS : va_S (rA G) s.heap s.heap [] := va_S.rf
  have hx := X.1.1
  have hb := X.1.2.1
  generalize hargs : ([.ref (G.2.2.1 300), .int a1, .int a2, .int a3, .int a4] : List Value).toArray = args at X ⊢
  generalize hQ : MQ below (QI (rA G) (rH G q.2) q.1) args s 0 0 (rA G) = Q
  have hl : lv_has ls 6 [(0, .ref (G.2.2.1 300)), (1, .int a1), (2, .int a2), (3, .int a3), (4, .int a4)] := hl
  unfold f_X12_leaf at hf
  refine lv_iload_n hx hb dX12_leaf_0 rfl (lv_at hl 1 rfl) ?_
  refine lv_iconst (v := 0) hx hb dX12_leaf_1 (by decide) ?_
  refine lv_bipush (v := 6) hx hb dX12_leaf_2 (by decide) ?_
  refine cGi (cSrun (rest := []) X (c_X12_in l G (rH G w) (rA G) rA_g a1 0 6 _ rfl) bw1477 bw1478 bw105 bw1479 cn_X12_in ⟨rfl, rfl, Nat.le_of_ble_eq_true rfl, Nat.le_of_ble_eq_true rfl⟩ rA_g hH hS hl rfl (Nat.le_of_ble_eq_true rfl) dX12_leaf_4) hS (fun H locs hH hS => ?_)
  refine lv_if_eq (tgt := 21) hx hb dX12_leaf_7 (by decide) (fun hc => ?_) (fun hc => ?_)
  · have hf := fo_t hc hf
    refine lv_iconst (v := (-1)) hx hb dX12_leaf_21 (by decide) ?_
    subst hQ
    exact cEi X (rH2 (so_s hf) hH) hS (pf1 (so_s hf)) dX12_leaf_22
  have hf := fo_f hc hf
  refine lv_iload hx hb dX12_leaf_10 (lv_at hl 4 rfl) ?_
  refine lv_iconst (v := 0) hx hb dX12_leaf_12 (by decide) ?_
  refine lv_bipush (v := 9) hx hb dX12_leaf_13 (by decide) ?_
  refine cGi (cSrun (rest := []) X (c_X12_in l G (rH G w) (rA G) rA_g a4 0 9 _ rfl) bw1477 bw1478 bw105 bw1479 cn_X12_in ⟨rfl, rfl, Nat.le_of_ble_eq_true rfl, Nat.le_of_ble_eq_true rfl⟩ rA_g hH hS hl rfl (Nat.le_of_ble_eq_true rfl) dX12_leaf_15) hS (fun H locs hH hS => ?_)
  refine lv_if_ne (tgt := 23) hx hb dX12_leaf_18 (by decide) (fun hc => ?_) (fun hc => ?_)
  rotate_left
  · have hf := fo_t hc hf
    refine lv_iconst (v := (-1)) hx hb dX12_leaf_21 (by decide) ?_
    subst hQ
    exact cEi X (rH2 (so_s hf) hH) hS (pf1 (so_s hf)) dX12_leaf_22
  have hf := fo_f hc hf
  refine lv_iload_n hx hb dX12_leaf_23 rfl (lv_at hl 2 rfl) ?_
  refine lv_iconst (v := 0) hx hb dX12_leaf_24 (by decide) ?_
  refine lv_bipush (v := 29) hx hb dX12_leaf_25 (by decide) ?_
  refine cGi (cSrun (rest := []) X (c_X12_in l G (rH G w) (rA G) rA_g a2 0 29 _ rfl) bw1477 bw1478 bw105 bw1479 cn_X12_in ⟨rfl, rfl, Nat.le_of_ble_eq_true rfl, Nat.le_of_ble_eq_true rfl⟩ rA_g hH hS hl rfl (Nat.le_of_ble_eq_true rfl) dX12_leaf_27) hS (fun H locs hH hS => ?_)
  refine lv_if_eq (tgt := 44) hx hb dX12_leaf_30 (by decide) (fun hc => ?_) (fun hc => ?_)
  · have hf := fo_t hc hf
    refine lv_bipush (v := (-2)) hx hb dX12_leaf_44 (by decide) ?_
    subst hQ
    exact cEi X (rH2 (so_s hf) hH) hS (pf1 (so_s hf)) dX12_leaf_46
  have hf := fo_f hc hf
  refine lv_iload_n hx hb dX12_leaf_33 rfl (lv_at hl 3 rfl) ?_
  refine lv_iconst (v := 0) hx hb dX12_leaf_34 (by decide) ?_
  refine lv_sipush (v := 255) hx hb dX12_leaf_35 (by decide) ?_
  refine cGi (cSrun (rest := []) X (c_X12_in l G (rH G w) (rA G) rA_g a3 0 255 _ rfl) bw1477 bw1478 bw105 bw1479 cn_X12_in ⟨rfl, rfl, Nat.le_of_ble_eq_true rfl, Nat.le_of_ble_eq_true rfl⟩ rA_g hH hS hl rfl (Nat.le_of_ble_eq_true rfl) dX12_leaf_38) hS (fun H locs hH hS => ?_)
  refine lv_if_ne (tgt := 47) hx hb dX12_leaf_41 (by decide) (fun hc => ?_) (fun hc => ?_)
  rotate_left
  · have hf := fo_t hc hf
    refine lv_bipush (v := (-2)) hx hb dX12_leaf_44 (by decide) ?_
    subst hQ
    exact cEi X (rH2 (so_s hf) hH) hS (pf1 (so_s hf)) dX12_leaf_46
  have hf := fo_f hc hf
  refine lv_aload_n hx hb dX12_leaf_47 rfl (lv_at hl 0 rfl) ?_
  refine ro_get (C := RX12) (N := 30) X hH 0 (by decide) rO rfl inBX12 1 (by decide) rfl bw1379 dX12_leaf_48 ?_
  refine lv_iconst (v := 5) hx hb dX12_leaf_51 (by decide) ?_
  by_cases hc : ((5 : Int32) < 0 ∨ 3250 ≤ (5 : Int32).toNatClampNeg)
  · cases (fo_t hc hf)
  have hf := fo_f hc hf
  refine ra_ld X hH 0 (by decide) (by decide) hc dX12_leaf_52 ?_
  refine lv_bipush (v := 40) hx hb dX12_leaf_53 (by decide) ?_
  refine lv_icmp_ne (tgt := 61) hx hb dX12_leaf_55 (by decide) (fun hc => ?_) (fun hc => ?_)
  rotate_left
  · have hf := fo_t hc hf
    refine lv_bipush (v := (-4)) hx hb dX12_leaf_58 (by decide) ?_
    subst hQ
    exact cEi X (rH2 (so_s hf) hH) hS (pf1 (so_s hf)) dX12_leaf_60
  have hf := fo_f hc hf
  refine lv_aload_n hx hb dX12_leaf_61 rfl (lv_at hl 0 rfl) ?_
  refine ro_get (C := RX12) (N := 30) X hH 0 (by decide) rO rfl inBX12 1 (by decide) rfl bw1379 dX12_leaf_62 ?_
  refine lv_iconst (v := 5) hx hb dX12_leaf_65 (by decide) ?_
  by_cases hc : ((5 : Int32) < 0 ∨ 3250 ≤ (5 : Int32).toNatClampNeg)
  · cases (fo_t hc hf)
  have hf := fo_f hc hf
  refine ra_ld X hH 0 (by decide) (by decide) hc dX12_leaf_66 ?_
  refine lv_topi (fun x67 ex67 => ?_)
  have hf := nm_s hf x67 ex67
  refine lv_istore (lv' := [(5, .int x67), (0, .ref (G.2.2.1 300)), (1, .int a1), (2, .int a2), (3, .int a3), (4, .int a4)]) hx hb dX12_leaf_67 hl (by decide) rfl (fun ls hl => ?_)
  refine lv_aload_n hx hb dX12_leaf_69 rfl (lv_at hl 1 rfl) ?_
  refine ro_get (C := RX12) (N := 30) X hH 0 (by decide) rO rfl inBX12 1 (by decide) rfl bw1379 dX12_leaf_70 ?_
  refine lv_sipush (v := 2920) hx hb dX12_leaf_73 (by decide) ?_
  refine lv_iload hx hb dX12_leaf_76 (lv_at hl 0 rfl) ?_
  refine lv_iadd hx hb dX12_leaf_78 ?_
  refine lv_iload_n hx hb dX12_leaf_79 rfl (lv_at hl 2 rfl) ?_
  by_cases hc : ((2920 + x67) < 0 ∨ 3250 ≤ (2920 + x67).toNatClampNeg)
  · cases (fo_t hc hf)
  have hf := fo_f hc hf
  refine ra_st X hH hS 0 (by decide) (by decide) hc dX12_leaf_80 (fun H locs hH hS => ?_)
  obtain ⟨w80, ew80⟩ : ∃ z : CW, z = (sC w 0 (2920 + x67).toNatClampNeg a1) := ⟨_, rfl⟩
  have hf := nm_s hf w80 ew80
  have hH : rH G w80 H := ew80 ▸ hH
  refine lv_aload_n hx hb dX12_leaf_81 rfl (lv_at hl 1 rfl) ?_
  refine ro_get (C := RX12) (N := 30) X hH 0 (by decide) rO rfl inBX12 1 (by decide) rfl bw1379 dX12_leaf_82 ?_
  refine lv_sipush (v := 2960) hx hb dX12_leaf_85 (by decide) ?_
  refine lv_iload hx hb dX12_leaf_88 (lv_at hl 0 rfl) ?_
  refine lv_iadd hx hb dX12_leaf_90 ?_
  refine lv_iload_n hx hb dX12_leaf_91 rfl (lv_at hl 3 rfl) ?_
  by_cases hc : ((2960 + x67) < 0 ∨ 3250 ≤ (2960 + x67).toNatClampNeg)
  · cases (fo_t hc hf)
  have hf := fo_f hc hf
  refine ra_st X hH hS 0 (by decide) (by decide) hc dX12_leaf_92 (fun H locs hH hS => ?_)
  obtain ⟨w92, ew92⟩ : ∃ z : CW, z = (sC w80 0 (2960 + x67).toNatClampNeg a2) := ⟨_, rfl⟩
  have hf := nm_s hf w92 ew92
  have hH : rH G w92 H := ew92 ▸ hH
  refine lv_aload_n hx hb dX12_leaf_93 rfl (lv_at hl 1 rfl) ?_
  refine ro_get (C := RX12) (N := 30) X hH 0 (by decide) rO rfl inBX12 1 (by decide) rfl bw1379 dX12_leaf_94 ?_
  refine lv_sipush (v := 3000) hx hb dX12_leaf_97 (by decide) ?_
  refine lv_iload hx hb dX12_leaf_100 (lv_at hl 0 rfl) ?_
  refine lv_iadd hx hb dX12_leaf_102 ?_
  refine lv_iload_n hx hb dX12_leaf_103 rfl (lv_at hl 4 rfl) ?_
  by_cases hc : ((3000 + x67) < 0 ∨ 3250 ≤ (3000 + x67).toNatClampNeg)
  · cases (fo_t hc hf)
  have hf := fo_f hc hf
  refine ra_st X hH hS 0 (by decide) (by decide) hc dX12_leaf_104 (fun H locs hH hS => ?_)
  obtain ⟨w104, ew104⟩ : ∃ z : CW, z = (sC w92 0 (3000 + x67).toNatClampNeg a3) := ⟨_, rfl⟩
  have hf := nm_s hf w104 ew104
  have hH : rH G w104 H := ew104 ▸ hH
  refine lv_aload_n hx hb dX12_leaf_105 rfl (lv_at hl 1 rfl) ?_
  refine ro_get (C := RX12) (N := 30) X hH 0 (by decide) rO rfl inBX12 1 (by decide) rfl bw1379 dX12_leaf_106 ?_
  refine lv_sipush (v := 3040) hx hb dX12_leaf_109 (by decide) ?_
  refine lv_iload hx hb dX12_leaf_112 (lv_at hl 0 rfl) ?_
  refine lv_iadd hx hb dX12_leaf_114 ?_
  refine lv_iload hx hb dX12_leaf_115 (lv_at hl 5 rfl) ?_
  by_cases hc : ((3040 + x67) < 0 ∨ 3250 ≤ (3040 + x67).toNatClampNeg)
  · cases (fo_t hc hf)
  have hf := fo_f hc hf
  refine ra_st X hH hS 0 (by decide) (by decide) hc dX12_leaf_117 (fun H locs hH hS => ?_)
  obtain ⟨w117, ew117⟩ : ∃ z : CW, z = (sC w104 0 (3040 + x67).toNatClampNeg a4) := ⟨_, rfl⟩
  have hf := nm_s hf w117 ew117
  have hH : rH G w117 H := ew117 ▸ hH
  refine lv_aload_n hx hb dX12_leaf_118 rfl (lv_at hl 1 rfl) ?_
  refine ro_get (C := RX12) (N := 30) X hH 0 (by decide) rO rfl inBX12 1 (by decide) rfl bw1379 dX12_leaf_119 ?_
  refine lv_iconst (v := 5) hx hb dX12_leaf_122 (by decide) ?_
  refine lv_dup2_11 hx hb dX12_leaf_123 rfl rfl ?_
  by_cases hc : ((5 : Int32) < 0 ∨ 3250 ≤ (5 : Int32).toNatClampNeg)
  · cases (fo_t hc hf)
  have hf := fo_f hc hf
  refine ra_ld X hH 0 (by decide) (by decide) hc dX12_leaf_124 ?_
  refine lv_iconst (v := 1) hx hb dX12_leaf_125 (by decide) ?_
  refine lv_iadd hx hb dX12_leaf_126 ?_
  by_cases hc : ((5 : Int32) < 0 ∨ 3250 ≤ (5 : Int32).toNatClampNeg)
  · cases (fo_t hc hf)
  have hf := fo_f hc hf
  refine ra_st X hH hS 0 (by decide) (by decide) hc dX12_leaf_127 (fun H locs hH hS => ?_)
  obtain ⟨w127, ew127⟩ : ∃ z : CW, z = (sC w117 0 (5 : Int32).toNatClampNeg ((w117.1 0 (5 : Int32).toNatClampNeg) + 1)) := ⟨_, rfl⟩
  have hf := nm_s hf w127 ew127
  have hH : rH G w127 H := ew127 ▸ hH
  refine lv_iload hx hb dX12_leaf_128 (lv_at hl 0 rfl) ?_
  subst hQ
  exact cEi X (rH2 (so_s hf) hH) hS (pf1 (so_s hf)) dX12_leaf_130
