/-! the shelf: rows taken over from others; the lists -/
def rTake (w : CW) (k k1 : Nat) : CW := sN (sF w k (va_cpy (w.1 k1) (w.1 k) 0 0 (cp k))) k (w.2.1 k1)
def rKeep : Nat → CW → CW
  | 0, w => w
  | n + 1, w => rTake (rKeep n w) (58 + n) n
def rBack : Nat → CW → CW
  | 0, w => w
  | n + 1, w => rTake (rBack n w) n (58 + n)
theorem cp_copy : ∀ i, i < 37 → cp (58 + i) = cp i := by decide +kernel
section CPY
variable {p : Program} {l : Launch} {e : Env} {R : Room} {s : State} {m : MethodId} {args : Array Value} {below : List Frame} {meth : Method} {c : Code} {H : Heap} {locs : List Loc} {cells slots : Nat} {Q : State → Prop}
variable {G : GX} {y : MethodName} {cc : ByteArray} {nL idx pc : Nat} {ret : Option FieldType} {rest : List Value} {ls : Array Slot} {w : CW} {lv : List (Nat × Value)}
theorem ca_copy (X : CX G p s m args meth c y cc nL ret) (hH : cH G w H) (hS : va_S (cA G) s.heap H locs) (hl : lv_has ls nL lv) {k k1 : Nat} (hk : k < 95) (hk1 : k1 < 95) (hc : cp k1 = cp k) (hlink : Cond.methodLink y.cls idx arraycopyName ∈ BG) (hnat : Cond.native arraycopyName ∈ BG) (hst : Cond.static arraycopyName ∈ BG) (hini : Cond.initialized "java/lang/System" ∈ BG)
    (hframes : 1 ≤ R.frames) (hlocals : (rest.map fun v => v.category).sum + (nativeFrameWords "java/lang/System" "arraycopy" 5 + 11) ≤ R.locals) (hdg : decode cc pc = .ok (.invokestatic idx, 3))
    (kk : ∀ (H1 : Heap) (locs1 : List Loc), cH G (sF w k (va_cpy (w.1 k1) (w.1 k) 0 0 (cp k))) H1 → va_S (cA G) s.heap H1 locs1 → W p l e R s m args below meth c H1 locs1 cells slots Q (F0 m (pc + 3) ls rest)) : W p l e R s m args below meth c H locs cells slots Q (F0 m pc ls (.int (Int32.ofNat (cp k)) :: .int 0 :: .ref (G.2.2.1 (95 + k)) :: .int 0 :: .ref (G.2.2.1 (95 + k1)) :: rest)) := by
  have e0 : (0 : Int32).toNatClampNeg = 0 := by decide
  have en : (Int32.ofNat (cp k)).toNatClampNeg = cp k := nI_clamp (cp_lt k)
  refine va_copyi X.1.1 X.1.2.1 (X.1.2.2.1.trans hl.1.symm) X.1.2.2.2.1 (X.w hlink) (X.w hnat) (X.w hst) (X.w hini) X.2.2.2.1 hH.1 hH.2 hS (95 + k1) (95 + k) 0 0 (cWs_at (95 + k1) (by omega) (cE_arr hk1)) (cWs_at (95 + k) (by omega) (cE_arr hk)) rfl rfl rfl (by decide) (by decide) (nI_pos (cp_lt k)) (by rw [e0, en]; omega) (by rw [e0, en]; omega) (fun i _ => rfl) hframes hlocals hdg (fun H1 locs1 hP hD hS1 => ?_)
  rw [e0, en] at hP hD
  have he : cE G (sF w k (va_cpy (w.1 k1) (w.1 k) 0 0 (cp k))) (95 + k) = .inl (G.2.1.1, cp k, .inl (va_cpy (w.1 k1) (w.1 k) 0 0 (cp k))) := by
    rw [cE_arr hk]; simp [sF]
  rw [cWs_set _ cE_sF he] at hP hD
  exact kk H1 locs1 ⟨hP, hD⟩ hS1
theorem eO201 {G : GX} {w : CW} : cE G w 201 = .inr (0, [.int 37, .ref (G.2.2.1 203), .int 37]) := rfl
theorem eO202 {G : GX} {w : CW} : cE G w 202 = .inr (0, [.int 37, .ref (G.2.2.1 204), .int 37]) := rfl
/-- the lists: 0 the rows, 1 the copies -/
def lO (b : Bool) : Nat := if b then 202 else 201
def lAr (b : Bool) : Nat := if b then 204 else 203
def lEl (b : Bool) (i : Nat) : Nat := if b then 58 + i else i
theorem eOL {G : GX} {w : CW} (b : Bool) : cE G w (lO b) = .inr (0, [.int 37, .ref (G.2.2.1 (lAr b)), .int 37]) := by cases b <;> rfl
theorem eOA {G : GX} {w : CW} (b : Bool) : cE G w (lAr b) = .inl (G.2.1.2.2, 49, .inr (.inr (.inr (.inr fun i => if i < 37 then some (G.2.2.1 (lEl b i)) else none)))) := by cases b <;> rfl
theorem lO_lt (b : Bool) : lO b < 205 := by cases b <;> decide
theorem lAr_lt (b : Bool) : lAr b < 205 := by cases b <;> decide
theorem lEl_lt (b : Bool) {i : Nat} (h : i < 37) : lEl b i < 95 := by cases b <;> simp [lEl] <;> omega
theorem ca_ldq (X : CX G p s m args meth c y cc nL ret) (hH : cH G w H) (b : Bool) {i : Nat} (hi : i < 37) (hdg : decode cc pc = .ok (.aaload, 1))
    (kk : W p l e R s m args below meth c H locs cells slots Q (F0 m (pc + 1) ls (.ref (G.2.2.1 (lEl b i)) :: rest))) : W p l e R s m args below meth c H locs cells slots Q (F0 m pc ls (.int (nI i) :: .ref (G.2.2.1 (lAr b)) :: rest)) := by
  refine va_aldq X.1.1 X.1.2.1 X.2.2.2.1 hH.1 (lAr b) 2 (cWs_at (lAr b) (lAr_lt b) (eOA b)) rfl (vp_in_nI (by omega) (by decide)) hdg ?_
  rw [nI_clamp (by omega), if_pos hi]
  exact kk
end CPY
theorem cn_X5_copy : CN yX5_copy 2 := ⟨by decide +kernel, by decide +kernel, by decide +kernel⟩
abbrev rm_X5_copy : Room := { frames := 2, cells := 0, slots := 0, locals := 60 }
set_option maxHeartbeats 4000000 in
set_option maxRecDepth 100000 in
theorem c_X5_copy (l : Launch) (G : GX) (w : CW) (k : Nat) (hk : k < 95) (k1 : Nat) (hk1 : k1 < 95) (hc : cp k1 = cp k) : MV l G yX5_copy cX5_copy 2 rm_X5_copy [.ref (G.2.2.1 k1), .ref (G.2.2.1 k)] (cA G) (cH G w) (cH G (rTake w k k1)) := by
  refine cM_start (by decide +kernel) (Nat.le_of_ble_eq_true rfl) ?_
  intro p e s m below meth c ls X hH hl
  have hS : va_S (cA G) s.heap s.heap [] := va_S.rf
  have hx := X.1.1
  have hb := X.1.2.1
  have hl : lv_has ls 2 [(0, .ref (G.2.2.1 k1)), (1, .ref (G.2.2.1 k))] := hl
  refine lv_aload_n hx hb dX5_copy_0 rfl (lv_at hl 0 rfl) ?_
  refine lv_ifnull hx hb dX5_copy_1 ?_
  refine lv_aload_n hx hb dX5_copy_4 rfl (lv_at hl 1 rfl) ?_
  refine lv_ifnull hx hb dX5_copy_5 ?_
  refine lv_aload_n hx hb dX5_copy_8 rfl (lv_at hl 0 rfl) ?_
  refine co_get (C := RX5) (N := 2) X hH k1 (Nat.lt_trans hk1 (by decide)) (cE_row hk1) rfl inBX5 0 (by decide) rfl bw169 dX5_copy_9 ?_
  refine ca_len X hH hk1 dX5_copy_12 ?_
  refine lv_aload_n hx hb dX5_copy_13 rfl (lv_at hl 1 rfl) ?_
  refine co_get (C := RX5) (N := 2) X hH k (Nat.lt_trans hk (by decide)) (cE_row hk) rfl inBX5 0 (by decide) rfl bw169 dX5_copy_14 ?_
  refine ca_len X hH hk dX5_copy_17 ?_
  refine lv_icmp_eq (tgt := 22) hx hb dX5_copy_18 (by decide) (fun h => ?_) (fun h => absurd (by rw [hc]) h)
  refine lv_aload_n hx hb dX5_copy_22 rfl (lv_at hl 0 rfl) ?_
  refine co_get (C := RX5) (N := 2) X hH k1 (Nat.lt_trans hk1 (by decide)) (cE_row hk1) rfl inBX5 0 (by decide) rfl bw169 dX5_copy_23 ?_
  refine lv_iconst (v := 0) hx hb dX5_copy_26 (by decide) ?_
  refine lv_aload_n hx hb dX5_copy_27 rfl (lv_at hl 1 rfl) ?_
  refine co_get (C := RX5) (N := 2) X hH k (Nat.lt_trans hk (by decide)) (cE_row hk) rfl inBX5 0 (by decide) rfl bw169 dX5_copy_28 ?_
  refine lv_iconst (v := 0) hx hb dX5_copy_31 (by decide) ?_
  refine lv_aload_n hx hb dX5_copy_32 rfl (lv_at hl 0 rfl) ?_
  refine co_get (C := RX5) (N := 2) X hH k1 (Nat.lt_trans hk1 (by decide)) (cE_row hk1) rfl inBX5 0 (by decide) rfl bw169 dX5_copy_33 ?_
  refine ca_len X hH hk1 dX5_copy_36 ?_
  rw [hc]
  refine ca_copy X hH hS hl hk hk1 hc bw1360 bw235 bw234 bw95 (Nat.le_of_ble_eq_true rfl) (by decide) dX5_copy_37 (fun H locs hH hS => ?_)
  refine lv_aload_n hx hb dX5_copy_40 rfl (lv_at hl 1 rfl) ?_
  refine lv_aload_n hx hb dX5_copy_41 rfl (lv_at hl 0 rfl) ?_
  refine co_get (C := RX5) (N := 2) X hH k1 (Nat.lt_trans hk1 (by decide)) (cE_row hk1) rfl inBX5 1 (by decide) rfl bw170 dX5_copy_42 ?_
  refine c_putsize X hH hS hk bw170 dX5_copy_45 (fun H locs hH hS => ?_)
  exact cEv X hH hS dX5_copy_48
theorem cn_Jx4a65c_size_8abf5 : CN yJx4a65c_size_8abf5 0 := ⟨by decide +kernel, by decide +kernel, by decide +kernel⟩
abbrev rm_Jx4a65c_size_8abf5 : Room := { frames := 1, cells := 0, slots := 0, locals := 0 }
set_option maxHeartbeats 4000000 in
set_option maxRecDepth 100000 in
theorem c_AL_size (l : Launch) (G : GX) (w : CW) (b : Bool) : MI l G yJx4a65c_size_8abf5 cJx4a65c_size_8abf5 1 (some .int) rm_Jx4a65c_size_8abf5 [.ref (G.2.2.1 (lO b))] (cA G) (cH G w) (cH G w) 37 := by
  refine cM_start (by decide +kernel) (Nat.le_of_ble_eq_true rfl) ?_
  intro p e s m below meth c ls X hH hl
  have hS : va_S (cA G) s.heap s.heap [] := va_S.rf
  have hx := X.1.1
  have hb := X.1.2.1
  have hl : lv_has ls 1 [(0, .ref (G.2.2.1 (lO b)))] := hl
  refine lv_aload_n hx hb dJx4a65c_size_8abf5_0 rfl (lv_at hl 0 rfl) ?_
  refine co_get (C := RJx4a65c) (T := TJx4a65c) (N := 3) X hH (lO b) (lO_lt b) (eOL b) rfl inBJx4a65c 2 (by decide) rfl bw141 dJx4a65c_size_8abf5_1 ?_
  exact cEi X hH hS rfl dJx4a65c_size_8abf5_4
theorem cn_Jx4a65c_elementData_915e3 : CN yJx4a65c_elementData_915e3 1 := ⟨by decide +kernel, by decide +kernel, by decide +kernel⟩
abbrev rm_Jx4a65c_elementData_915e3 : Room := { frames := 1, cells := 0, slots := 0, locals := 0 }
set_option maxHeartbeats 4000000 in
set_option maxRecDepth 100000 in
theorem c_AL_el (l : Launch) (G : GX) (w : CW) (b : Bool) (i : Nat) (hi : i < 37) : MR l G yJx4a65c_elementData_915e3 cJx4a65c_elementData_915e3 2 (some (.object "java/lang/Object")) rm_Jx4a65c_elementData_915e3 [.ref (G.2.2.1 (lO b)), .int (nI i)] (cA G) (cH G w) (cH G w) (G.2.2.1 (lEl b i)) := by
  refine cM_start (by decide +kernel) (Nat.le_of_ble_eq_true rfl) ?_
  intro p e s m below meth c ls X hH hl
  have hS : va_S (cA G) s.heap s.heap [] := va_S.rf
  have hx := X.1.1
  have hb := X.1.2.1
  have hl : lv_has ls 2 [(0, .ref (G.2.2.1 (lO b))), (1, .int (nI i))] := hl
  refine lv_aload_n hx hb dJx4a65c_elementData_915e3_0 rfl (lv_at hl 0 rfl) ?_
  refine co_get (C := RJx4a65c) (T := TJx4a65c) (N := 3) X hH (lO b) (lO_lt b) (eOL b) rfl inBJx4a65c 1 (by decide) rfl bw140 dJx4a65c_elementData_915e3_1 ?_
  refine lv_iload_n hx hb dJx4a65c_elementData_915e3_4 rfl (lv_at hl 1 rfl) ?_
  refine ca_ldq X hH b hi dJx4a65c_elementData_915e3_5 ?_
  exact cEr X (Or.inl ⟨_, rfl⟩) hH hS dJx4a65c_elementData_915e3_6
theorem cn_Jx4a65c_get_915e3 : CN yJx4a65c_get_915e3 1 := ⟨by decide +kernel, by decide +kernel, by decide +kernel⟩
abbrev rm_Jx4a65c_get_915e3 : Room := { frames := 3, cells := 0, slots := 0, locals := 43 }
set_option maxHeartbeats 4000000 in
set_option maxRecDepth 100000 in
theorem c_AL_get (l : Launch) (G : GX) (w : CW) (b : Bool) (i : Nat) (hi : i < 37) : MR l G yJx4a65c_get_915e3 cJx4a65c_get_915e3 2 (some (.object "java/lang/Object")) rm_Jx4a65c_get_915e3 [.ref (G.2.2.1 (lO b)), .int (nI i)] (cA G) (cH G w) (cH G w) (G.2.2.1 (lEl b i)) := by
  refine cM_start (by decide +kernel) (Nat.le_of_ble_eq_true rfl) ?_
  intro p e s m below meth c ls X hH hl
  have hS : va_S (cA G) s.heap s.heap [] := va_S.rf
  have hx := X.1.1
  have hb := X.1.2.1
  have hl : lv_has ls 2 [(0, .ref (G.2.2.1 (lO b))), (1, .int (nI i))] := hl
  refine lv_iload_n hx hb dJx4a65c_get_915e3_0 rfl (lv_at hl 1 rfl) ?_
  refine lv_aload_n hx hb dJx4a65c_get_915e3_1 rfl (lv_at hl 0 rfl) ?_
  refine co_get (C := RJx4a65c) (T := TJx4a65c) (N := 3) X hH (lO b) (lO_lt b) (eOL b) rfl inBJx4a65c 2 (by decide) rfl bw141 dJx4a65c_get_915e3_2 ?_
  refine cGi (cSrun (rest := []) X (c_J15_checkIndex_7cf53 l G (cH G w) (cA G) cA_g (nI i) 37 (nI_pos (by omega)) (nI_lt (b := 37) hi (by decide))) bw1349 bw1350 bw111 bw1351 cn_J15_checkIndex_7cf53 ⟨rfl, rfl, Nat.le_of_ble_eq_true rfl, Nat.le_of_ble_eq_true rfl⟩ cA_g hH hS hl rfl (Nat.le_of_ble_eq_true rfl) dJx4a65c_get_915e3_5) hS (fun H locs hH hS => ?_)
  refine lv_pop hx hb dJx4a65c_get_915e3_8 rfl ?_
  refine lv_aload_n hx hb dJx4a65c_get_915e3_9 rfl (lv_at hl 0 rfl) ?_
  refine lv_iload_n hx hb dJx4a65c_get_915e3_10 rfl (lv_at hl 1 rfl) ?_
  refine cGr (cVrun (rest := []) X (c_AL_el l G w b i hi) bw1353 bw1354 bw1355 bw90 bw1356 cn_Jx4a65c_elementData_915e3 ⟨rfl, rfl, Nat.le_of_ble_eq_true rfl, Nat.le_of_ble_eq_true rfl⟩ (c_rec X hH (lO b) (lO_lt b) (eOL b) rfl) cA_g hH hS hl rfl (Nat.le_of_ble_eq_true rfl) dJx4a65c_get_915e3_11) hS (fun H locs hH hS => ?_)
  exact cEr X (Or.inl ⟨_, rfl⟩) hH hS dJx4a65c_get_915e3_14
theorem cn_X7_keep : CN yX7_keep 0 := ⟨by decide +kernel, by decide +kernel, by decide +kernel⟩
abbrev rm_X7_keep : Room := { frames := 4, cells := 0, slots := 0, locals := 124 }
set_option maxHeartbeats 4000000 in
set_option maxRecDepth 100000 in
theorem c_X7_keep (l : Launch) (G : GX) (w : CW) : MV l G yX7_keep cX7_keep 2 rm_X7_keep [.ref (G.2.2.1 191)] (cA G) (cH G w) (cH G (rKeep 37 w)) := by
  refine cM_start (by decide +kernel) (Nat.le_of_ble_eq_true rfl) ?_
  intro p e s m below meth c ls X hH hl
  have hS : va_S (cA G) s.heap s.heap [] := va_S.rf
  have hx := X.1.1
  have hb := X.1.2.1
  have hl : lv_has ls 2 [(0, .ref (G.2.2.1 191))] := hl
  generalize hargs : ([.ref (G.2.2.1 191)] : List Value).toArray = args at X ⊢
  generalize hQ : MQ below (QV (cA G) (cH G (rKeep 37 w))) args s 0 0 (cA G) = Q
  have hL : ∀ (n i : Nat) (H : Heap) (locs : List Loc) (ls : Array Slot), i ≤ 37 → 37 - i < n → cH G (rKeep i w) H → va_S (cA G) s.heap H locs → lv_has ls 2 [(1, .int (nI i)), (0, .ref (G.2.2.1 191))] → W p l e rm_X7_keep s m args below meth c H locs 0 0 Q (F0 m 2 ls []) := by
    intro n
    induction n with
    | zero => intro i H locs ls h1 h2; omega
    | succ n ih =>
      intro i H locs ls h1 h2 hH hS hl
      refine lv_iload_n hx hb dX7_keep_2 rfl (lv_at hl 0 rfl) ?_
      refine lv_aload_n hx hb dX7_keep_3 rfl (lv_at hl 1 rfl) ?_
      refine co_get X hH 191 (by decide) eO191 rfl inBX7 0 (by decide) rfl bw152 dX7_keep_4 ?_
      refine cGi (cVrun (rest := [.int (nI i)]) X (c_AL_size l G (rKeep i w) false) bw1341 bw1342 bw1343 bw90 bw1344 cn_Jx4a65c_size_8abf5 ⟨rfl, rfl, Nat.le_of_ble_eq_true rfl, Nat.le_of_ble_eq_true rfl⟩ (c_rec X hH (lO false) (lO_lt false) (eOL false) rfl) cA_g hH hS hl rfl (Nat.le_of_ble_eq_true rfl) dX7_keep_7) hS (fun H locs hH hS => ?_)
      refine lv_icmp_ge (tgt := 55) hx hb dX7_keep_10 (by decide) (fun hc => ?_) (fun hc => ?_)
      · have e : i = 37 := by
          rcases Nat.lt_or_ge i 37 with q | q
          · exact absurd hc (nI_ge (b := 37) q (by decide))
          · omega
        subst e
        subst hQ
        exact cEv X hH hS dX7_keep_55
      have hi : i < 37 := by
        rcases Nat.lt_or_ge i 37 with q | q
        · exact q
        · exact absurd (nI_le (a := 37) q (by omega)) hc
      refine lv_iload_n hx hb dX7_keep_13 rfl (lv_at hl 0 rfl) ?_
      refine lv_aload_n hx hb dX7_keep_14 rfl (lv_at hl 1 rfl) ?_
      refine co_get X hH 191 (by decide) eO191 rfl inBX7 1 (by decide) rfl bw153 dX7_keep_15 ?_
      refine cGi (cVrun (rest := [.int (nI i)]) X (c_AL_size l G (rKeep i w) true) bw1341 bw1342 bw1343 bw90 bw1344 cn_Jx4a65c_size_8abf5 ⟨rfl, rfl, Nat.le_of_ble_eq_true rfl, Nat.le_of_ble_eq_true rfl⟩ (c_rec X hH (lO true) (lO_lt true) (eOL true) rfl) cA_g hH hS hl rfl (Nat.le_of_ble_eq_true rfl) dX7_keep_18) hS (fun H locs hH hS => ?_)
      refine lv_icmp_ge (tgt := 55) hx hb dX7_keep_21 (by decide) (fun hc2 => absurd hc2 (nI_ge (b := 37) hi (by decide))) (fun hc2 => ?_)
      refine lv_aload_n hx hb dX7_keep_24 rfl (lv_at hl 1 rfl) ?_
      refine co_get X hH 191 (by decide) eO191 rfl inBX7 0 (by decide) rfl bw152 dX7_keep_25 ?_
      refine lv_iload_n hx hb dX7_keep_28 rfl (lv_at hl 0 rfl) ?_
      refine cGr (cVrun (rest := []) X (c_AL_get l G (rKeep i w) false i hi) bw1345 bw1346 bw1347 bw90 bw1348 cn_Jx4a65c_get_915e3 ⟨rfl, rfl, Nat.le_of_ble_eq_true rfl, Nat.le_of_ble_eq_true rfl⟩ (c_rec X hH (lO false) (lO_lt false) (eOL false) rfl) cA_g hH hS hl rfl (Nat.le_of_ble_eq_true rfl) dX7_keep_29) hS (fun H locs hH hS => ?_)
      refine va_castE hx hb X.1.2.2.2.1 (X.w bw163) (c_recR X hH (lEl_lt false hi)) dX7_keep_32 ?_
      refine lv_aload_n hx hb dX7_keep_35 rfl (lv_at hl 1 rfl) ?_
      refine co_get X hH 191 (by decide) eO191 rfl inBX7 1 (by decide) rfl bw153 dX7_keep_36 ?_
      refine lv_iload_n hx hb dX7_keep_39 rfl (lv_at hl 0 rfl) ?_
      refine cGr (cVrun (rest := [.ref (G.2.2.1 (lEl false i))]) X (c_AL_get l G (rKeep i w) true i hi) bw1345 bw1346 bw1347 bw90 bw1348 cn_Jx4a65c_get_915e3 ⟨rfl, rfl, Nat.le_of_ble_eq_true rfl, Nat.le_of_ble_eq_true rfl⟩ (c_rec X hH (lO true) (lO_lt true) (eOL true) rfl) cA_g hH hS hl rfl (Nat.le_of_ble_eq_true rfl) dX7_keep_40) hS (fun H locs hH hS => ?_)
      refine va_castE hx hb X.1.2.2.2.1 (X.w bw163) (c_recR X hH (lEl_lt true hi)) dX7_keep_43 ?_
      refine cGv (cSrun (rest := []) X (c_X5_copy l G (rKeep i w) (58 + i) (lEl_lt true hi) i (lEl_lt false hi) (cp_copy i hi).symm) bw1357 bw1358 bw91 bw1359 cn_X5_copy ⟨rfl, rfl, Nat.le_of_ble_eq_true rfl, Nat.le_of_ble_eq_true rfl⟩ cA_g hH hS hl rfl (Nat.le_of_ble_eq_true rfl) dX7_keep_46) hS (fun H locs hH hS => ?_)
      refine lv_iinc (v := nI (i + 1)) (lv' := [(1, .int (nI (i + 1))), (0, .ref (G.2.2.1 191))]) hx hb dX7_keep_49 hl (k := 0) rfl (nI_1 i) (by decide) rfl (fun ls hl => ?_)
      refine lv_goto (tgt := 2) hx hb dX7_keep_52 (by decide) ?_
      exact ih (i + 1) _ _ _ (by omega) (by omega) hH hS hl
  refine lv_iconst (v := 0) hx hb dX7_keep_0 (by decide) ?_
  refine lv_istore_n (lv' := [(1, .int 0), (0, .ref (G.2.2.1 191))]) hx hb dX7_keep_1 rfl hl (by decide) rfl (fun ls hl => ?_)
  exact hL 38 0 _ _ _ (by omega) (by omega) hH hS hl
def f_X7_keep (w : CW) : CW := rKeep 37 w
theorem cq_X7_keep (l : Launch) (G : GX) (w q : CW) (hf : f_X7_keep w = q) : MV l G yX7_keep cX7_keep 2 rm_X7_keep [.ref (G.2.2.1 191)] (cA G) (cH G w) (cH G q) := by subst hf; exact c_X7_keep l G w
theorem cn_X7_bringBack : CN yX7_bringBack 0 := ⟨by decide +kernel, by decide +kernel, by decide +kernel⟩
abbrev rm_X7_bringBack : Room := { frames := 4, cells := 0, slots := 0, locals := 124 }
set_option maxHeartbeats 4000000 in
set_option maxRecDepth 100000 in
theorem c_X7_bringBack (l : Launch) (G : GX) (w : CW) : MV l G yX7_bringBack cX7_bringBack 2 rm_X7_bringBack [.ref (G.2.2.1 191)] (cA G) (cH G w) (cH G (rBack 37 w)) := by
  refine cM_start (by decide +kernel) (Nat.le_of_ble_eq_true rfl) ?_
  intro p e s m below meth c ls X hH hl
  have hS : va_S (cA G) s.heap s.heap [] := va_S.rf
  have hx := X.1.1
  have hb := X.1.2.1
  have hl : lv_has ls 2 [(0, .ref (G.2.2.1 191))] := hl
  generalize hargs : ([.ref (G.2.2.1 191)] : List Value).toArray = args at X ⊢
  generalize hQ : MQ below (QV (cA G) (cH G (rBack 37 w))) args s 0 0 (cA G) = Q
  have hL : ∀ (n i : Nat) (H : Heap) (locs : List Loc) (ls : Array Slot), i ≤ 37 → 37 - i < n → cH G (rBack i w) H → va_S (cA G) s.heap H locs → lv_has ls 2 [(1, .int (nI i)), (0, .ref (G.2.2.1 191))] → W p l e rm_X7_bringBack s m args below meth c H locs 0 0 Q (F0 m 2 ls []) := by
    intro n
    induction n with
    | zero => intro i H locs ls h1 h2; omega
    | succ n ih =>
      intro i H locs ls h1 h2 hH hS hl
      refine lv_iload_n hx hb dX7_bringBack_2 rfl (lv_at hl 0 rfl) ?_
      refine lv_aload_n hx hb dX7_bringBack_3 rfl (lv_at hl 1 rfl) ?_
      refine co_get X hH 191 (by decide) eO191 rfl inBX7 0 (by decide) rfl bw152 dX7_bringBack_4 ?_
      refine cGi (cVrun (rest := [.int (nI i)]) X (c_AL_size l G (rBack i w) false) bw1341 bw1342 bw1343 bw90 bw1344 cn_Jx4a65c_size_8abf5 ⟨rfl, rfl, Nat.le_of_ble_eq_true rfl, Nat.le_of_ble_eq_true rfl⟩ (c_rec X hH (lO false) (lO_lt false) (eOL false) rfl) cA_g hH hS hl rfl (Nat.le_of_ble_eq_true rfl) dX7_bringBack_7) hS (fun H locs hH hS => ?_)
      refine lv_icmp_ge (tgt := 55) hx hb dX7_bringBack_10 (by decide) (fun hc => ?_) (fun hc => ?_)
      · have e : i = 37 := by
          rcases Nat.lt_or_ge i 37 with q | q
          · exact absurd hc (nI_ge (b := 37) q (by decide))
          · omega
        subst e
        subst hQ
        exact cEv X hH hS dX7_bringBack_55
      have hi : i < 37 := by
        rcases Nat.lt_or_ge i 37 with q | q
        · exact q
        · exact absurd (nI_le (a := 37) q (by omega)) hc
      refine lv_iload_n hx hb dX7_bringBack_13 rfl (lv_at hl 0 rfl) ?_
      refine lv_aload_n hx hb dX7_bringBack_14 rfl (lv_at hl 1 rfl) ?_
      refine co_get X hH 191 (by decide) eO191 rfl inBX7 1 (by decide) rfl bw153 dX7_bringBack_15 ?_
      refine cGi (cVrun (rest := [.int (nI i)]) X (c_AL_size l G (rBack i w) true) bw1341 bw1342 bw1343 bw90 bw1344 cn_Jx4a65c_size_8abf5 ⟨rfl, rfl, Nat.le_of_ble_eq_true rfl, Nat.le_of_ble_eq_true rfl⟩ (c_rec X hH (lO true) (lO_lt true) (eOL true) rfl) cA_g hH hS hl rfl (Nat.le_of_ble_eq_true rfl) dX7_bringBack_18) hS (fun H locs hH hS => ?_)
      refine lv_icmp_ge (tgt := 55) hx hb dX7_bringBack_21 (by decide) (fun hc2 => absurd hc2 (nI_ge (b := 37) hi (by decide))) (fun hc2 => ?_)
      refine lv_aload_n hx hb dX7_bringBack_24 rfl (lv_at hl 1 rfl) ?_
      refine co_get X hH 191 (by decide) eO191 rfl inBX7 1 (by decide) rfl bw153 dX7_bringBack_25 ?_
      refine lv_iload_n hx hb dX7_bringBack_28 rfl (lv_at hl 0 rfl) ?_
      refine cGr (cVrun (rest := []) X (c_AL_get l G (rBack i w) true i hi) bw1345 bw1346 bw1347 bw90 bw1348 cn_Jx4a65c_get_915e3 ⟨rfl, rfl, Nat.le_of_ble_eq_true rfl, Nat.le_of_ble_eq_true rfl⟩ (c_rec X hH (lO true) (lO_lt true) (eOL true) rfl) cA_g hH hS hl rfl (Nat.le_of_ble_eq_true rfl) dX7_bringBack_29) hS (fun H locs hH hS => ?_)
      refine va_castE hx hb X.1.2.2.2.1 (X.w bw163) (c_recR X hH (lEl_lt true hi)) dX7_bringBack_32 ?_
      refine lv_aload_n hx hb dX7_bringBack_35 rfl (lv_at hl 1 rfl) ?_
      refine co_get X hH 191 (by decide) eO191 rfl inBX7 0 (by decide) rfl bw152 dX7_bringBack_36 ?_
      refine lv_iload_n hx hb dX7_bringBack_39 rfl (lv_at hl 0 rfl) ?_
      refine cGr (cVrun (rest := [.ref (G.2.2.1 (lEl true i))]) X (c_AL_get l G (rBack i w) false i hi) bw1345 bw1346 bw1347 bw90 bw1348 cn_Jx4a65c_get_915e3 ⟨rfl, rfl, Nat.le_of_ble_eq_true rfl, Nat.le_of_ble_eq_true rfl⟩ (c_rec X hH (lO false) (lO_lt false) (eOL false) rfl) cA_g hH hS hl rfl (Nat.le_of_ble_eq_true rfl) dX7_bringBack_40) hS (fun H locs hH hS => ?_)
      refine va_castE hx hb X.1.2.2.2.1 (X.w bw163) (c_recR X hH (lEl_lt false hi)) dX7_bringBack_43 ?_
      refine cGv (cSrun (rest := []) X (c_X5_copy l G (rBack i w) i (lEl_lt false hi) (58 + i) (lEl_lt true hi) (cp_copy i hi)) bw1357 bw1358 bw91 bw1359 cn_X5_copy ⟨rfl, rfl, Nat.le_of_ble_eq_true rfl, Nat.le_of_ble_eq_true rfl⟩ cA_g hH hS hl rfl (Nat.le_of_ble_eq_true rfl) dX7_bringBack_46) hS (fun H locs hH hS => ?_)
      refine lv_iinc (v := nI (i + 1)) (lv' := [(1, .int (nI (i + 1))), (0, .ref (G.2.2.1 191))]) hx hb dX7_bringBack_49 hl (k := 0) rfl (nI_1 i) (by decide) rfl (fun ls hl => ?_)
      refine lv_goto (tgt := 2) hx hb dX7_bringBack_52 (by decide) ?_
      exact ih (i + 1) _ _ _ (by omega) (by omega) hH hS hl
  refine lv_iconst (v := 0) hx hb dX7_bringBack_0 (by decide) ?_
  refine lv_istore_n (lv' := [(1, .int 0), (0, .ref (G.2.2.1 191))]) hx hb dX7_bringBack_1 rfl hl (by decide) rfl (fun ls hl => ?_)
  exact hL 38 0 _ _ _ (by omega) (by omega) hH hS hl
def f_X7_bringBack (w : CW) : CW := rBack 37 w
theorem cq_X7_bringBack (l : Launch) (G : GX) (w q : CW) (hf : f_X7_bringBack w = q) : MV l G yX7_bringBack cX7_bringBack 2 rm_X7_bringBack [.ref (G.2.2.1 191)] (cA G) (cH G w) (cH G q) := by subst hf; exact c_X7_bringBack l G w
