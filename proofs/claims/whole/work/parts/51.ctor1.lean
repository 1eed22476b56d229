/-! the making of rows, lists and the shelf -/
theorem bwSame : Cond.sameField "java/util/ArrayList" "java/util/AbstractList" "modCount" "I" ∈ BG := BG_n bt_t1 59 rfl rfl
theorem bwAI : Cond.arrayClass .int ∈ BG := BG_n bt_t1 91 rfl rfl
theorem bwAZ : Cond.arrayClass .boolean ∈ BG := BG_n bt_t6 184 rfl rfl
theorem nI_inj {a b : Nat} (ha : a < 2 ^ 31) (hb : b < 2 ^ 31) (h : nI a = nI b) : a = b := by
  have := congrArg Int32.toNatClampNeg h
  rwa [nI_clamp ha, nI_clamp hb] at this
abbrev rmB (f c s lo : Nat) : Room := { frames := f, cells := c, slots := s, locals := lo }
theorem uE_uE (e : Nat → va_E) (k : Nat) (x y : va_E) : uE (uE e k x) k y = uE e k y := by
  funext j
  unfold uE
  by_cases h : j = k
  · rw [if_pos h, if_pos h]
  · rw [if_neg h, if_neg h, if_neg h]
theorem uE_3 (e : Nat → va_E) (a b : Nat) (x y z : va_E) : uE (uE (uE e a x) b y) a z = uE (uE e b y) a z := by
  funext j
  unfold uE
  by_cases h : j = a
  · rw [if_pos h, if_pos h]
  · rw [if_neg h, if_neg h, if_neg h]
abbrev eQ (B : BX) (N : Nat) (f : Nat → Option Nat) : va_E := .inl (B.2.1.2.2, N, .inr (.inr (.inr (.inr f))))
abbrev eI (B : BX) (N : Nat) (f : Nat → Int32) : va_E := .inl (B.2.1.1, N, .inl f)
abbrev eRow (B : BX) (a : Nat) : va_E := .inr (6, [.ref (B.2.2.1 + a), .int 0])
abbrev eRow0 : va_E := .inr (6, [.null, .int 0])
abbrev eLst (B : BX) (a m : Nat) : va_E := .inr (0, [.int (nI m), .ref (B.2.2.1 + a), .int (nI m)])
abbrev eLst0 (B : BX) : va_E := .inr (0, [.int 0, .ref B.2.2.2.1, .int 0])
abbrev eShf (B : BX) (a b : Nat) : va_E := .inr (8, [.ref (B.2.2.1 + a), .ref (B.2.2.1 + b)])
/-- what a list holds are rows -/
def RWS (B : BX) (n : Nat) (e : Nat → va_E) (f : Nat → Option Nat) : Prop := ∀ i y, f i = some y → ∃ r, r < n ∧ y = B.2.2.1 + r ∧ ∃ vs, e r = .inr (6, vs)
theorem RWS.none {B : BX} {n : Nat} {e : Nat → va_E} : RWS B n e (fun _ => none) := fun _ _ h => by cases h
theorem RWS.add {B : BX} {n : Nat} {e : Nat → va_E} {f : Nat → Option Nat} {r m : Nat} {vs : List Value} (hr : r < n) (he : e r = .inr (6, vs)) (h : RWS B n e f) : RWS B n e (va_up f m (some (B.2.2.1 + r))) := by
  intro i y hy
  unfold va_up at hy
  by_cases hi : i = m
  · rw [if_pos hi] at hy
    exact ⟨r, hr, (Option.some.inj hy).symm, vs, he⟩
  · rw [if_neg hi] at hy
    exact h i y hy
theorem RWS.cut {B : BX} {n N : Nat} {e : Nat → va_E} {f : Nat → Option Nat} (h : RWS B n e f) : RWS B n e (fun i => if i < N then f i else Option.none) := by
  intro i y hy
  by_cases hi : i < N
  · exact h i y (by simpa [hi] using hy)
  · simp [hi] at hy
theorem RWS.push {B : BX} {n : Nat} {e : Nat → va_E} {f : Nat → Option Nat} {x : va_E} (h : RWS B n e f) : RWS B (n + 1) (uE e n x) f := by
  intro i y hy
  obtain ⟨r, h1, h2, vs, h3⟩ := h i y hy
  exact ⟨r, by omega, h2, vs, (uE_n e x (by omega)).trans h3⟩
theorem RWS.updN {B : BX} {n : Nat} {e : Nat → va_E} {f : Nat → Option Nat} {j : Nat} {x : va_E} (hj : ∀ vs, e j ≠ .inr (6, vs)) (h : RWS B n e f) : RWS B n (uE e j x) f := by
  intro i y hy
  obtain ⟨r, h1, h2, vs, h3⟩ := h i y hy
  by_cases hr : r = j
  · subst hr; exact absurd h3 (hj vs)
  · exact ⟨r, h1, h2, vs, (uE_n e x hr).trans h3⟩
theorem RWS.updR {B : BX} {n : Nat} {e : Nat → va_E} {f : Nat → Option Nat} {j : Nat} {vs' : List Value} (h : RWS B n e f) : RWS B n (uE e j (.inr (6, vs'))) f := by
  intro i y hy
  obtain ⟨r, h1, h2, vs, h3⟩ := h i y hy
  by_cases hr : r = j
  · subst hr; exact ⟨r, h1, h2, vs', uE_s e r _⟩
  · exact ⟨r, h1, h2, vs, (uE_n e _ hr).trans h3⟩
section BR2
variable {p : Program} {l : Launch} {e : Env} {R : Room} {s : State} {m : MethodId} {args : Array Value} {below : List Frame} {meth : Method} {c : Code} {H : Heap} {locs : List Loc} {cells slots : Nat} {Q : State → Prop}
variable {B : BX} {y : MethodName} {cc : ByteArray} {nL idx pc n n0 : Nat} {ret : Option FieldType} {rest : List Value} {ls : Array Slot} {E : Nat → va_E} {lv : List (Nat × Value)}
theorem b_getM (X : CB B p s m args meth c y cc nL ret n0) (hH : bH B n E H) (j : Nat) (hj : j < n) {v0 v1 v2 : Value} (he : E j = .inr (0, [v0, v1, v2])) (hlink : Cond.fieldLink y.cls idx "java/util/ArrayList" "modCount" "I" ∈ BG) (hdg : decode cc pc = .ok (.getfield idx, 3))
    (kk : W p l e R s m args below meth c H locs cells slots Q (F0 m (pc + 3) ls (v0 :: rest))) : W p l e R s m args below meth c H locs cells slots Q (F0 m pc ls (.ref (B.2.2.1 + j) :: rest)) :=
  va_get (C := RJx4a65c) (T := TJx4a65c) (N := 3) X.1.1 X.1.2.1 X.1.2.2.2.2 (fun w h => List.mem_cons_of_mem _ (inBJx4a65c w h)) X.1.2.2.2.1 X.2.2.2.1.1 hH j (bL_at j hj he) rfl 0 (by decide) (X.w hlink) (u_same (X.w bwSame)) rfl hdg kk
theorem b_putM (X : CB B p s m args meth c y cc nL ret n0) (hH : bH B n E H) (hS : va_S (bA B) s.heap H locs) (j : Nat) (hj : j < n) {v0 v1 v2 : Value} {v : Int32} (he : E j = .inr (0, [v0, v1, v2])) (hlink : Cond.fieldLink y.cls idx "java/util/ArrayList" "modCount" "I" ∈ BG) (hdg : decode cc pc = .ok (.putfield idx, 3))
    (kk : ∀ (H1 : Heap) (locs1 : List Loc), bH B n (uE E j (.inr (0, [.int v, v1, v2]))) H1 → va_S (bA B) s.heap H1 locs1 → W p l e R s m args below meth c H1 locs1 cells slots Q (F0 m (pc + 3) ls rest)) : W p l e R s m args below meth c H locs cells slots Q (F0 m pc ls (.int v :: .ref (B.2.2.1 + j) :: rest)) :=
  va_put (C := RJx4a65c) (T := TJx4a65c) (N := 3) X.1.1 X.1.2.1 X.1.2.2.2.2 (fun w h => List.mem_cons_of_mem _ (inBJx4a65c w h)) tyJx4a65c tyJx4a65c_ok nmJx4a65c X.1.2.2.2.1 X.2.2.2.1.1 hH bD hS j (bL_at j hj he) rfl 0 (by decide) (X.w hlink) (u_same (X.w bwSame)) rfl (tyJx4a65c_ok 0 (by decide)) rfl rfl (Nat.le_of_ble_eq_true rfl) hdg (fun H1 locs1 hP _ hS1 => kk H1 locs1 (by rw [bL_set] at hP; exact hP) hS1)
theorem b_recQ (X : CB B p s m args meth c y cc nL ret n0) (hH : bH B n E H) (j : Nat) (hj : j < n) {N : Nat} {f : Nat → Option Nat} (he : E j = eQ B N f) : REC s H "[Ljava/lang/Object;" (B.2.2.1 + j) := by
  have h1 := va_nmO (X.2.2.2.1.1.2 2 (B.2.1.2.2, .object "java/lang/Object") rfl).2 rfl
  have h := hH j _ (bL_at j hj he)
  exact ⟨_, h, rfl, h1⟩
theorem b_getC (X : CB B p s m args meth c y cc nL ret n0) (hH : bH B n E H) (hl : lv_has ls nL lv) (j : Nat) (hj : j < n) {N : Nat} {f : Nat → Option Nat} (he : E j = eQ B N f) (hlink : Cond.methodLink y.cls idx ⟨"java/lang/Object", "getClass", "()Ljava/lang/Class;"⟩ ∈ BG) (hR : 1 ≤ R.frames ∧ (rest.map fun v => v.category).sum + 14 ≤ R.locals) (hdg : decode cc pc = .ok (.invokevirtual idx, 3))
    (kk : W p l e R s m args below meth c H locs cells slots Q (F0 m (pc + 3) ls (.ref B.2.2.2.2 :: rest))) : W p l e R s m args below meth c H locs cells slots Q (F0 m pc ls (.ref (B.2.2.1 + j) :: rest)) :=
  va_getC X.1.1 X.1.2.1 (X.1.2.2.1.trans hl.1.symm) X.1.2.2.2.1 (X.w hlink) X.2.2.2.1.2.2.2.2.2.1.use (X.w bw1807) (X.w bw207) (X.w bw223) X.2.2.2.1.2.2.2.2.1 (b_recQ X hH j hj he) hR.1 hR.2 hdg kk
theorem b_ldcM (X : CB B p s m args meth c y cc nL ret n0) (hlink : Cond.classLink y.cls idx "[Ljava/lang/Object;" ∈ BG) (hdg : decode cc pc = .ok (.ldc idx, 2))
    (kk : W p l e R s m args below meth c H locs cells slots Q (F0 m (pc + 2) ls (.ref B.2.2.2.2 :: rest))) : W p l e R s m args below meth c H locs cells slots Q (F0 m pc ls rest) :=
  va_ldcM X.1.1 X.1.2.1 X.1.2.2.2.1 (X.w hlink) X.2.2.2.1.2.2.2.2.1 hdg kk
theorem b_copyq (X : CB B p s m args meth c y cc nL ret n0) (hH : bH B n E H) (hS : va_S (bA B) s.heap H locs) (hl : lv_has ls nL lv) (j0 j1 : Nat) (hj0 : j0 < n) (hj1 : j1 < n) {N0 N1 : Nat} {f g : Nat → Option Nat} (he0 : E j0 = eQ B N0 f) (he1 : E j1 = eQ B N1 g) (hrw : RWS B n E f) (hlink : Cond.methodLink y.cls idx arraycopyName ∈ BG) {k : Int32} (h3 : ¬ k < 0) (hk : k.toNatClampNeg = N0) (hN : N0 ≤ N1)
    (hR : 1 ≤ R.frames ∧ (rest.map fun v => v.category).sum + (nativeFrameWords "java/lang/System" "arraycopy" 5 + 11) ≤ R.locals) (hdg : decode cc pc = .ok (.invokestatic idx, 3))
    (kk : ∀ (H1 : Heap) (locs1 : List Loc), bH B n (uE E j1 (eQ B N1 (va_cpy f g 0 0 N0))) H1 → va_S (bA B) s.heap H1 locs1 → W p l e R s m args below meth c H1 locs1 cells slots Q (F0 m (pc + 3) ls rest)) : W p l e R s m args below meth c H locs cells slots Q (F0 m pc ls (.int k :: .int 0 :: .ref (B.2.2.1 + j1) :: .int 0 :: .ref (B.2.2.1 + j0) :: rest)) := by
  have e0 : (0 : Int32).toNatClampNeg = 0 := by decide
  refine va_copyq (C := RX5) X.1.1 X.1.2.1 (X.1.2.2.1.trans hl.1.symm) X.1.2.2.2.1 (X.w hlink) (X.w bw235) (X.w bw234) (X.w bw95) X.2.2.2.1.1 hH bD hS j0 j1 2 2 (bL_at j0 hj0 he0) (bL_at j1 hj1 he1) rfl rfl (by decide) (by decide) h3 (by rw [e0, hk]; omega) (by rw [e0, hk]; omega) (fun i _ y hy => ?_) (fun comp c0 h1 h2 => vb_asgC (X.2.2.2.1.2.1 _ bw1794 rfl) comp c0 h1 h2) hR.1 hR.2 hdg (fun H1 locs1 hP _ hS1 => kk H1 locs1 (by rw [bL_set, e0, hk] at hP; exact hP) hS1)
  obtain ⟨r, h1, h2, vs, h4⟩ := hrw _ y hy
  rw [h2]
  exact b_rec X hH r h1 h4 rfl
end BR2
theorem kn_Jxa1e45_init_da8c8 : CN yJxa1e45_init_da8c8 0 := ⟨by decide +kernel, by decide +kernel, by decide +kernel⟩
theorem kn_Jxc12de_init_da8c8 : CN yJxc12de_init_da8c8 0 := ⟨by decide +kernel, by decide +kernel, by decide +kernel⟩
theorem kn_Jx4a65c_init_da8c8 : CN yJx4a65c_init_da8c8 0 := ⟨by decide +kernel, by decide +kernel, by decide +kernel⟩
set_option maxHeartbeats 4000000 in
set_option maxRecDepth 100000 in
theorem k_ACi (l : Launch) (B : BX) (n : Nat) (e : Nat → va_E) (b : Nat) : MBx l B yJxa1e45_init_da8c8 cJxa1e45_init_da8c8 1 none (rmB 1 0 0 40) [.ref b] n e (BV B n e) 0 0 := by
  refine bM_start (by decide +kernel) (Nat.le_of_ble_eq_true rfl) ?_
  intro p env s m below meth c ls X hH hl
  have hS : va_S (bA B) s.heap s.heap [] := va_S.rf
  have hx := X.1.1
  have hb := X.1.2.1
  have hl : lv_has ls 1 [(0, .ref b)] := hl
  refine lv_aload_n hx hb dJxa1e45_init_da8c8_0 rfl (lv_at hl 0 rfl) ?_
  refine b_obj X hl bw137 bw118 bw119 ⟨Nat.le_of_ble_eq_true rfl, Nat.le_of_ble_eq_true rfl⟩ dJxa1e45_init_da8c8_1 ?_
  exact bEv X hH hS (Nat.zero_le _) (Nat.zero_le _) dJxa1e45_init_da8c8_4
set_option maxHeartbeats 4000000 in
set_option maxRecDepth 100000 in
theorem k_ALi (l : Launch) (B : BX) (n : Nat) (e : Nat → va_E) (j : Nat) (hj : j < n) (v0 v1 v2 : Value) (he : e j = .inr (0, [v0, v1, v2])) : MBx l B yJxc12de_init_da8c8 cJxc12de_init_da8c8 1 none (rmB 2 0 0 60) [.ref (B.2.2.1 + j)] n e (BV B n (uE e j (.inr (0, [.int 0, v1, v2])))) 0 0 := by
  refine bM_start (by decide +kernel) (Nat.le_of_ble_eq_true rfl) ?_
  intro p env s m below meth c ls X hH hl
  have hS : va_S (bA B) s.heap s.heap [] := va_S.rf
  have hx := X.1.1
  have hb := X.1.2.1
  have hl : lv_has ls 1 [(0, .ref (B.2.2.1 + j))] := hl
  refine lv_aload_n hx hb dJxc12de_init_da8c8_0 rfl (lv_at hl 0 rfl) ?_
  refine b_size X hH (by omega) rfl (fun hz => ?_)
  refine bGv (b_irun (rest := []) X (k_ACi l B n e (B.2.2.1 + j)) rfl bw134 bw135 bw88 bw136 kn_Jxa1e45_init_da8c8 ⟨rfl, rfl, Nat.le_of_ble_eq_true rfl, Nat.le_of_ble_eq_true rfl⟩ hH hS hz hl rfl (Nat.le_of_ble_eq_true rfl) dJxc12de_init_da8c8_1 ⟨Nat.le_of_ble_eq_true rfl, Nat.le_of_ble_eq_true rfl⟩) hS (fun H locs hH hS => ?_)
  refine lv_aload_n hx hb dJxc12de_init_da8c8_4 rfl (lv_at hl 0 rfl) ?_
  refine lv_iconst (v := 0) hx hb dJxc12de_init_da8c8_5 (by decide) ?_
  refine b_put (C := RJx4a65c) (T := TJx4a65c) (N := 3) X hH hS j hj he rfl inBJx4a65c tyJx4a65c tyJx4a65c_ok nmJx4a65c 0 (by decide) bw142 rfl rfl rfl (Nat.le_of_ble_eq_true rfl) dJxc12de_init_da8c8_6 (fun H locs hH hS => ?_)
  exact bEv X hH hS (Nat.zero_le _) (Nat.zero_le _) dJxc12de_init_da8c8_9
set_option maxHeartbeats 4000000 in
set_option maxRecDepth 100000 in
theorem k_ALLi (l : Launch) (B : BX) (n : Nat) (e : Nat → va_E) (j : Nat) (hj : j < n) (v0 v1 : Value) (he : e j = .inr (0, [v0, v1, .int 0])) : MBx l B yJx4a65c_init_da8c8 cJx4a65c_init_da8c8 1 none (rmB 3 0 0 80) [.ref (B.2.2.1 + j)] n e (BV B n (uE e j (eLst0 B))) 0 0 := by
  refine bM_start (by decide +kernel) (Nat.le_of_ble_eq_true rfl) ?_
  intro p env s m below meth c ls X hH hl
  have hS : va_S (bA B) s.heap s.heap [] := va_S.rf
  have hx := X.1.1
  have hb := X.1.2.1
  have hl : lv_has ls 1 [(0, .ref (B.2.2.1 + j))] := hl
  refine lv_aload_n hx hb dJx4a65c_init_da8c8_0 rfl (lv_at hl 0 rfl) ?_
  refine b_size X hH (by omega) rfl (fun hz => ?_)
  refine bGv (b_irun (rest := []) X (k_ALi l B n e j hj v0 v1 (.int 0) he) rfl bw131 bw132 bw89 bw133 kn_Jxc12de_init_da8c8 ⟨rfl, rfl, Nat.le_of_ble_eq_true rfl, Nat.le_of_ble_eq_true rfl⟩ hH hS hz hl rfl (Nat.le_of_ble_eq_true rfl) dJx4a65c_init_da8c8_1 ⟨Nat.le_of_ble_eq_true rfl, Nat.le_of_ble_eq_true rfl⟩) hS (fun H locs hH hS => ?_)
  refine lv_aload_n hx hb dJx4a65c_init_da8c8_4 rfl (lv_at hl 0 rfl) ?_
  refine b_dflt X hS bw138 dJx4a65c_init_da8c8_5 ?_
  refine b_put (C := RJx4a65c) (T := TJx4a65c) (N := 3) X hH hS j hj (uE_s _ _ _) rfl inBJx4a65c tyJx4a65c tyJx4a65c_ok nmJx4a65c 1 (by decide) bw140 rfl rfl rfl (Nat.le_of_ble_eq_true rfl) dJx4a65c_init_da8c8_8 (fun H locs hH hS => ?_)
  rw [uE_uE] at hH
  exact bEv X hH hS (Nat.zero_le _) (Nat.zero_le _) dJx4a65c_init_da8c8_11
theorem kn_J8_newLength_cabcc : CN yJ8_newLength_cabcc 3 := ⟨by decide +kernel, by decide +kernel, by decide +kernel⟩
set_option maxHeartbeats 4000000 in
set_option maxRecDepth 100000 in
theorem k_nl (l : Launch) (B : BX) (n : Nat) (e : Nat → va_E) (a1 b1 c1 r : Int32) (hr : a1 + (if b1 < c1 then c1 else b1) = r) (h0 : 0 < r) (h1 : ¬ 2147483639 < r) : MBx l B yJ8_newLength_cabcc cJ8_newLength_cabcc 4 (some .int) (rmB 1 0 0 60) [.int a1, .int b1, .int c1] n e (BI B n e r) 0 0 := by
  refine bM_start (by decide +kernel) (Nat.le_of_ble_eq_true rfl) ?_
  intro p env s m below meth c ls X hH hl
  have hS : va_S (bA B) s.heap s.heap [] := va_S.rf
  have hx := X.1.1
  have hb := X.1.2.1
  have hl : lv_has ls 4 [(0, .int a1), (1, .int b1), (2, .int c1)] := hl
  refine lv_iload_n hx hb dJ8_newLength_cabcc_0 rfl (lv_at hl 0 rfl) ?_
  refine lv_iload_n hx hb dJ8_newLength_cabcc_1 rfl (lv_at hl 1 rfl) ?_
  refine lv_iload_n hx hb dJ8_newLength_cabcc_2 rfl (lv_at hl 2 rfl) ?_
  refine va_mmax hx hb (X.1.2.2.1.trans hl.1.symm) X.1.2.2.2.1 (X.w bw196) (X.w bw197) (X.w bw93) (X.w bw198) (Nat.le_of_ble_eq_true rfl) (Nat.le_of_ble_eq_true rfl) (Nat.le_of_ble_eq_true rfl) (Nat.le_of_ble_eq_true rfl) dJ8_newLength_cabcc_3 ?_
  refine lv_iadd hx hb dJ8_newLength_cabcc_6 ?_
  rw [hr]
  refine lv_istore_n (lv' := [(3, .int r), (0, .int a1), (1, .int b1), (2, .int c1)]) hx hb dJ8_newLength_cabcc_7 rfl hl (by decide) rfl (fun ls hl => ?_)
  refine lv_iconst (v := 0) hx hb dJ8_newLength_cabcc_8 (by decide) ?_
  refine lv_iload_n hx hb dJ8_newLength_cabcc_9 rfl (lv_at hl 0 rfl) ?_
  refine lv_icmp_ge (tgt := 21) hx hb dJ8_newLength_cabcc_10 (by decide) (fun hc => absurd hc (Int32.not_le.mpr h0)) (fun hc => ?_)
  refine lv_iload_n hx hb dJ8_newLength_cabcc_13 rfl (lv_at hl 0 rfl) ?_
  refine lv_ldc (v := 2147483639) hx hb X.1.2.2.2.1 (X.w bw199) dJ8_newLength_cabcc_14 ?_
  refine lv_icmp_gt (tgt := 21) hx hb dJ8_newLength_cabcc_16 (by decide) (fun hc => absurd hc h1) (fun hc => ?_)
  refine lv_iload_n hx hb dJ8_newLength_cabcc_19 rfl (lv_at hl 0 rfl) ?_
  exact bEi X hH hS (Nat.zero_le _) (Nat.zero_le _) dJ8_newLength_cabcc_20
theorem kn_J7_copyOf_6403c : CN yJ7_copyOf_6403c 3 := ⟨by decide +kernel, by decide +kernel, by decide +kernel⟩
set_option maxHeartbeats 4000000 in
set_option maxRecDepth 100000 in
theorem k_cp3 (l : Launch) (B : BX) (n : Nat) (e : Nat → va_E) (ja : Nat) (hja : ja < n) (N : Nat) (f : Nat → Option Nat) (he : e ja = eQ B N f) (hrw : RWS B n e f) (k2 : Int32) (N2 : Nat) (hk2 : ¬ k2 < 0) (hN2 : k2.toNatClampNeg = N2) (hb2 : N2 ≤ 100000) (hNN : N ≤ N2) (hm : (if k2 < nI N then k2 else nI N) = nI N) : MBx l B yJ7_copyOf_6403c cJ7_copyOf_6403c 4 (some (.array (.object "java/lang/Object"))) (rmB 1 1 N2 80) [.ref (B.2.2.1 + ja), .int k2, .ref B.2.2.2.2] n e (BR B (n + 1) (uE e n (eQ B N2 (fun i => if i < N then f i else none))) (B.2.2.1 + n)) 1 N2 := by
  refine bM_start (by decide +kernel) (Nat.le_of_ble_eq_true rfl) ?_
  intro p env s m below meth c ls X hH hl
  have hS : va_S (bA B) s.heap s.heap [] := va_S.rf
  have hx := X.1.1
  have hb := X.1.2.1
  have hl : lv_has ls 4 [(0, .ref (B.2.2.1 + ja)), (1, .int k2), (2, .ref B.2.2.2.2)] := hl
  refine lv_aload_n hx hb dJ7_copyOf_6403c_0 rfl (lv_at hl 2 rfl) ?_
  refine b_ldcM X bw227 dJ7_copyOf_6403c_1 ?_
  refine lv_acmp_ne (rx := some B.2.2.2.2) (ry := some B.2.2.2.2) (tgt := 13) hx hb dJ7_copyOf_6403c_3 (by decide) (fun hc => absurd rfl hc) (fun _ => ?_)
  refine lv_iload_n hx hb dJ7_copyOf_6403c_6 rfl (lv_at hl 1 rfl) ?_
  refine b_newq X hH hS rfl bw229 hk2 hN2 hb2 (Nat.le_of_ble_eq_true rfl) (by show 0 + N2 ≤ N2; omega) dJ7_copyOf_6403c_7 (fun H hH hS => ?_)
  refine lv_goto (tgt := 24) hx hb dJ7_copyOf_6403c_10 (by decide) ?_
  refine lv_astore_n (lv' := [(3, .ref (B.2.2.1 + n)), (0, .ref (B.2.2.1 + ja)), (1, .int k2), (2, .ref B.2.2.2.2)]) hx hb dJ7_copyOf_6403c_24 rfl hl (by decide) rfl (fun ls hl => ?_)
  refine lv_aload_n hx hb dJ7_copyOf_6403c_25 rfl (lv_at hl 1 rfl) ?_
  refine lv_iconst (v := 0) hx hb dJ7_copyOf_6403c_26 (by decide) ?_
  refine lv_aload_n hx hb dJ7_copyOf_6403c_27 rfl (lv_at hl 0 rfl) ?_
  refine lv_iconst (v := 0) hx hb dJ7_copyOf_6403c_28 (by decide) ?_
  refine lv_aload_n hx hb dJ7_copyOf_6403c_29 rfl (lv_at hl 1 rfl) ?_
  refine b_qlen X hH ja (by omega) ((uE_n _ _ (by omega)).trans he) dJ7_copyOf_6403c_30 ?_
  refine lv_iload_n hx hb dJ7_copyOf_6403c_31 rfl (lv_at hl 2 rfl) ?_
  refine va_mmin hx hb (X.1.2.2.1.trans hl.1.symm) X.1.2.2.2.1 (X.w bw230) (X.w bw231) (X.w bw93) (X.w bw232) (Nat.le_of_ble_eq_true rfl) (Nat.le_of_ble_eq_true rfl) (Nat.le_of_ble_eq_true rfl) (by show 0 + N2 ≤ N2; omega) dJ7_copyOf_6403c_32 ?_
  rw [hm]
  refine b_copyq X hH hS hl ja n (by omega) (by omega) ((uE_n _ _ (by omega)).trans he) (uE_s _ _ _) hrw.push bw233 (nI_pos (by omega)) (nI_clamp (by omega)) hNN ⟨Nat.le_of_ble_eq_true rfl, by show (0 : Nat) + (nativeFrameWords "java/lang/System" "arraycopy" 5 + 11) ≤ 80; decide⟩ dJ7_copyOf_6403c_35 (fun H locs hH hS => ?_)
  rw [uE_uE] at hH
  have ef : va_cpy f (fun _ => none) 0 0 N = (fun i => if i < N then f i else none) := by funext i; simp [va_cpy]
  rw [ef] at hH
  refine lv_aload_n hx hb dJ7_copyOf_6403c_38 rfl (lv_at hl 0 rfl) ?_
  exact bEr X (Or.inr ⟨_, rfl⟩) hH hS (Nat.le_of_ble_eq_true rfl) (by show 0 + N2 ≤ N2; omega) dJ7_copyOf_6403c_39
theorem kn_J7_copyOf_1904c : CN yJ7_copyOf_1904c 2 := ⟨by decide +kernel, by decide +kernel, by decide +kernel⟩
set_option maxHeartbeats 4000000 in
set_option maxRecDepth 100000 in
theorem k_cp2 (l : Launch) (B : BX) (n : Nat) (e : Nat → va_E) (ja : Nat) (hja : ja < n) (N : Nat) (f : Nat → Option Nat) (he : e ja = eQ B N f) (hrw : RWS B n e f) (k2 : Int32) (N2 : Nat) (hk2 : ¬ k2 < 0) (hN2 : k2.toNatClampNeg = N2) (hb2 : N2 ≤ 100000) (hNN : N ≤ N2) (hm : (if k2 < nI N then k2 else nI N) = nI N) : MBx l B yJ7_copyOf_1904c cJ7_copyOf_1904c 2 (some (.array (.object "java/lang/Object"))) (rmB 2 1 N2 120) [.ref (B.2.2.1 + ja), .int k2] n e (BR B (n + 1) (uE e n (eQ B N2 (fun i => if i < N then f i else none))) (B.2.2.1 + n)) 1 N2 := by
  refine bM_start (by decide +kernel) (Nat.le_of_ble_eq_true rfl) ?_
  intro p env s m below meth c ls X hH hl
  have hS : va_S (bA B) s.heap s.heap [] := va_S.rf
  have hx := X.1.1
  have hb := X.1.2.1
  have hl : lv_has ls 2 [(0, .ref (B.2.2.1 + ja)), (1, .int k2)] := hl
  refine lv_aload_n hx hb dJ7_copyOf_1904c_0 rfl (lv_at hl 0 rfl) ?_
  refine lv_iload_n hx hb dJ7_copyOf_1904c_1 rfl (lv_at hl 1 rfl) ?_
  refine lv_aload_n hx hb dJ7_copyOf_1904c_2 rfl (lv_at hl 0 rfl) ?_
  refine b_getC X hH hl ja hja he bw206 ⟨Nat.le_of_ble_eq_true rfl, Nat.le_of_ble_eq_true rfl⟩ dJ7_copyOf_1904c_3 ?_
  refine b_size X hH (by omega) rfl (fun hz => ?_)
  refine bGr (b_srun (rest := []) X (k_cp3 l B n e ja hja N f he hrw k2 N2 hk2 hN2 hb2 hNN hm) bw224 bw225 bw94 bw226 kn_J7_copyOf_6403c ⟨rfl, rfl, Nat.le_of_ble_eq_true rfl, Nat.le_of_ble_eq_true rfl⟩ hH hS hz hl rfl (Nat.le_of_ble_eq_true rfl) dJ7_copyOf_1904c_6 ⟨Nat.le_of_ble_eq_true rfl, by show 0 + N2 ≤ N2; omega⟩) hS (fun H locs hH hS => ?_)
  exact bEr X (Or.inr ⟨_, rfl⟩) hH hS (Nat.le_of_ble_eq_true rfl) (by show 0 + N2 ≤ N2; omega) dJ7_copyOf_1904c_9
theorem kn_Jx4a65c_grow_92f84 : CN yJx4a65c_grow_92f84 1 := ⟨by decide +kernel, by decide +kernel, by decide +kernel⟩
set_option maxHeartbeats 4000000 in
set_option maxRecDepth 100000 in
theorem k_gri (l : Launch) (B : BX) (n : Nat) (e : Nat → va_E) (jl ja : Nat) (hjl : jl < n) (hja : ja < n) (a b : Nat) (hel : e jl = .inr (0, [.int (nI a), .ref (B.2.2.1 + ja), .int (nI b)])) (N : Nat) (f : Nat → Option Nat) (he : e ja = eQ B N f) (hrw : RWS B n e f) (k2 : Int32) (N2 : Nat) (hk2 : ¬ k2 < 0) (hN2 : k2.toNatClampNeg = N2) (hb2 : N2 ≤ 100000) (hNN : N ≤ N2) (hm : (if k2 < nI N then k2 else nI N) = nI N) (k1 : Int32) (hlen : nI N + (if k1 - nI N < nI N >>> (1 &&& 31) then nI N >>> (1 &&& 31) else k1 - nI N) = k2) (h0 : 0 < k2) (h1 : ¬ 2147483639 < k2) (hp : 0 < nI N) : MBx l B yJx4a65c_grow_92f84 cJx4a65c_grow_92f84 4 (some (.array (.object "java/lang/Object"))) (rmB 3 1 N2 150) [.ref (B.2.2.1 + jl), .int k1] n e (BR B (n + 1) (uE (uE e n (eQ B N2 (fun i => if i < N then f i else none))) jl (.inr (0, [.int (nI a), .ref (B.2.2.1 + n), .int (nI b)]))) (B.2.2.1 + n)) 1 N2 := by
  refine bM_start (by decide +kernel) (Nat.le_of_ble_eq_true rfl) ?_
  intro p env s m below meth c ls X hH hl
  have hS : va_S (bA B) s.heap s.heap [] := va_S.rf
  have hx := X.1.1
  have hb := X.1.2.1
  have hl : lv_has ls 4 [(0, .ref (B.2.2.1 + jl)), (1, .int k1)] := hl
  refine lv_aload_n hx hb dJx4a65c_grow_92f84_0 rfl (lv_at hl 0 rfl) ?_
  refine b_get (C := RJx4a65c) (T := TJx4a65c) (N := 3) X hH jl hjl hel rfl inBJx4a65c 1 (by decide) rfl bw140 dJx4a65c_grow_92f84_1 ?_
  refine b_qlen X hH ja hja he dJx4a65c_grow_92f84_4 ?_
  refine lv_istore_n (lv' := [(2, .int (nI N)), (0, .ref (B.2.2.1 + jl)), (1, .int k1)]) hx hb dJx4a65c_grow_92f84_5 rfl hl (by decide) rfl (fun ls hl => ?_)
  refine lv_iload_n hx hb dJx4a65c_grow_92f84_6 rfl (lv_at hl 0 rfl) ?_
  refine lv_if_gt (tgt := 20) hx hb dJx4a65c_grow_92f84_7 (by decide) (fun hc => ?_) (fun hc => absurd hp hc)
  refine lv_iload_n hx hb dJx4a65c_grow_92f84_20 rfl (lv_at hl 0 rfl) ?_
  refine lv_iload_n hx hb dJx4a65c_grow_92f84_21 rfl (lv_at hl 2 rfl) ?_
  refine lv_iload_n hx hb dJx4a65c_grow_92f84_22 rfl (lv_at hl 0 rfl) ?_
  refine lv_isub hx hb dJx4a65c_grow_92f84_23 ?_
  refine lv_iload_n hx hb dJx4a65c_grow_92f84_24 rfl (lv_at hl 0 rfl) ?_
  refine lv_iconst (v := 1) hx hb dJx4a65c_grow_92f84_25 (by decide) ?_
  refine lv_ishr hx hb dJx4a65c_grow_92f84_26 ?_
  refine b_size X hH (by omega) rfl (fun hz => ?_)
  refine bGi (b_srun (rest := []) X (k_nl l B n e (nI N) (k1 - nI N) (nI N >>> (1 &&& 31)) k2 hlen h0 h1) bw193 bw194 bw92 bw195 kn_J8_newLength_cabcc ⟨rfl, rfl, Nat.le_of_ble_eq_true rfl, Nat.le_of_ble_eq_true rfl⟩ hH hS hz hl rfl (Nat.le_of_ble_eq_true rfl) dJx4a65c_grow_92f84_27 ⟨Nat.le_of_ble_eq_true rfl, by show 0 + 0 ≤ N2; omega⟩) hS (fun H locs hH hS => ?_)
  refine lv_istore_n (lv' := [(3, .int k2), (2, .int (nI N)), (0, .ref (B.2.2.1 + jl)), (1, .int k1)]) hx hb dJx4a65c_grow_92f84_30 rfl hl (by decide) rfl (fun ls hl => ?_)
  refine lv_aload_n hx hb dJx4a65c_grow_92f84_31 rfl (lv_at hl 2 rfl) ?_
  refine lv_aload_n hx hb dJx4a65c_grow_92f84_32 rfl (lv_at hl 2 rfl) ?_
  refine b_get (C := RJx4a65c) (T := TJx4a65c) (N := 3) X hH jl hjl hel rfl inBJx4a65c 1 (by decide) rfl bw140 dJx4a65c_grow_92f84_33 ?_
  refine lv_iload_n hx hb dJx4a65c_grow_92f84_36 rfl (lv_at hl 0 rfl) ?_
  refine b_size X hH (by omega) rfl (fun hz => ?_)
  refine bGr (b_srun (rest := [.ref (B.2.2.1 + jl)]) X (k_cp2 l B n e ja hja N f he hrw k2 N2 hk2 hN2 hb2 hNN hm) bw203 bw204 bw94 bw205 kn_J7_copyOf_1904c ⟨rfl, rfl, Nat.le_of_ble_eq_true rfl, Nat.le_of_ble_eq_true rfl⟩ hH hS hz hl rfl (Nat.le_of_ble_eq_true rfl) dJx4a65c_grow_92f84_37 ⟨Nat.le_of_ble_eq_true rfl, by show 0 + 0 + N2 ≤ N2; omega⟩) hS (fun H locs hH hS => ?_)
  refine lv_dup_x1 hx hb dJx4a65c_grow_92f84_40 rfl rfl ?_
  refine b_put (C := RJx4a65c) (T := TJx4a65c) (N := 3) X hH hS jl (by omega) ((uE_n _ _ (by omega)).trans hel) rfl inBJx4a65c tyJx4a65c tyJx4a65c_ok nmJx4a65c 1 (by decide) bw140 rfl rfl rfl (Nat.le_of_ble_eq_true rfl) dJx4a65c_grow_92f84_41 (fun H locs hH hS => ?_)
  exact bEr X (Or.inr ⟨_, rfl⟩) hH hS (Nat.le_of_ble_eq_true rfl) (by show 0 + 0 + N2 ≤ N2; omega) dJx4a65c_grow_92f84_44
set_option maxHeartbeats 4000000 in
set_option maxRecDepth 100000 in
theorem k_gri0 (l : Launch) (B : BX) (n : Nat) (e : Nat → va_E) (jl : Nat) (hjl : jl < n) (v0 v2 : Value) (hel : e jl = .inr (0, [v0, .ref B.2.2.2.1, v2])) : MBx l B yJx4a65c_grow_92f84 cJx4a65c_grow_92f84 4 (some (.array (.object "java/lang/Object"))) (rmB 3 1 10 150) [.ref (B.2.2.1 + jl), .int 1] n e (BR B (n + 1) (uE (uE e n (eQ B 10 (fun _ => none))) jl (.inr (0, [v0, .ref (B.2.2.1 + n), v2]))) (B.2.2.1 + n)) 1 10 := by
  refine bM_start (by decide +kernel) (Nat.le_of_ble_eq_true rfl) ?_
  intro p env s m below meth c ls X hH hl
  have hS : va_S (bA B) s.heap s.heap [] := va_S.rf
  have hx := X.1.1
  have hb := X.1.2.1
  have hl : lv_has ls 4 [(0, .ref (B.2.2.1 + jl)), (1, .int 1)] := hl
  refine lv_aload_n hx hb dJx4a65c_grow_92f84_0 rfl (lv_at hl 0 rfl) ?_
  refine b_get (C := RJx4a65c) (T := TJx4a65c) (N := 3) X hH jl hjl hel rfl inBJx4a65c 1 (by decide) rfl bw140 dJx4a65c_grow_92f84_1 ?_
  refine b_dlen X hS dJx4a65c_grow_92f84_4 ?_
  refine lv_istore_n (lv' := [(2, .int 0), (0, .ref (B.2.2.1 + jl)), (1, .int 1)]) hx hb dJx4a65c_grow_92f84_5 rfl hl (by decide) rfl (fun ls hl => ?_)
  refine lv_iload_n hx hb dJx4a65c_grow_92f84_6 rfl (lv_at hl 0 rfl) ?_
  refine lv_if_gt (tgt := 20) hx hb dJx4a65c_grow_92f84_7 (by decide) (fun hc => absurd hc (by decide)) (fun hc => ?_)
  refine lv_aload_n hx hb dJx4a65c_grow_92f84_10 rfl (lv_at hl 1 rfl) ?_
  refine b_get (C := RJx4a65c) (T := TJx4a65c) (N := 3) X hH jl hjl hel rfl inBJx4a65c 1 (by decide) rfl bw140 dJx4a65c_grow_92f84_11 ?_
  refine b_dflt X hS bw138 dJx4a65c_grow_92f84_14 ?_
  refine lv_acmp_eq (rx := some B.2.2.2.1) (ry := some B.2.2.2.1) (tgt := 45) hx hb dJx4a65c_grow_92f84_17 (by decide) (fun _ => ?_) (fun hc => absurd rfl hc)
  refine lv_aload_n hx hb dJx4a65c_grow_92f84_45 rfl (lv_at hl 1 rfl) ?_
  refine lv_bipush (v := 10) hx hb dJx4a65c_grow_92f84_46 (by decide) ?_
  refine lv_iload_n hx hb dJx4a65c_grow_92f84_48 rfl (lv_at hl 2 rfl) ?_
  refine va_mmax hx hb (X.1.2.2.1.trans hl.1.symm) X.1.2.2.2.1 (X.w bw236) (X.w bw197) (X.w bw93) (X.w bw198) (Nat.le_of_ble_eq_true rfl) (Nat.le_of_ble_eq_true rfl) (Nat.le_of_ble_eq_true rfl) (Nat.le_of_ble_eq_true rfl) dJx4a65c_grow_92f84_49 ?_
  refine b_newq (N' := 10) X hH hS rfl bw237 (by decide) (by decide) (by decide) (Nat.le_of_ble_eq_true rfl) (Nat.le_of_ble_eq_true rfl) dJx4a65c_grow_92f84_52 (fun H hH hS => ?_)
  refine lv_dup_x1 hx hb dJx4a65c_grow_92f84_55 rfl rfl ?_
  refine b_put (C := RJx4a65c) (T := TJx4a65c) (N := 3) X hH hS jl (by omega) ((uE_n _ _ (by omega)).trans hel) rfl inBJx4a65c tyJx4a65c tyJx4a65c_ok nmJx4a65c 1 (by decide) bw140 rfl rfl rfl (Nat.le_of_ble_eq_true rfl) dJx4a65c_grow_92f84_56 (fun H locs hH hS => ?_)
  exact bEr X (Or.inr ⟨_, rfl⟩) hH hS (Nat.le_of_ble_eq_true rfl) (Nat.le_of_ble_eq_true rfl) dJx4a65c_grow_92f84_59
theorem kn_Jx4a65c_grow_d5877 : CN yJx4a65c_grow_d5877 0 := ⟨by decide +kernel, by decide +kernel, by decide +kernel⟩
set_option maxHeartbeats 4000000 in
set_option maxRecDepth 100000 in
theorem k_gr (l : Launch) (B : BX) (n : Nat) (e e2 : Nat → va_E) (jl : Nat) (hjl : jl < n) (v0 v1 : Value) (z k1 : Int32) (hel : e jl = .inr (0, [v0, v1, .int z])) (hz1 : z + 1 = k1) (sl : Nat) (hM : MBx l B yJx4a65c_grow_92f84 cJx4a65c_grow_92f84 4 (some (.array (.object "java/lang/Object"))) (rmB 3 1 sl 150) [.ref (B.2.2.1 + jl), .int k1] n e (BR B (n + 1) e2 (B.2.2.1 + n)) 1 sl) : MBx l B yJx4a65c_grow_d5877 cJx4a65c_grow_d5877 1 (some (.array (.object "java/lang/Object"))) (rmB 4 1 sl 190) [.ref (B.2.2.1 + jl)] n e (BR B (n + 1) e2 (B.2.2.1 + n)) 1 sl := by
  refine bM_start (by decide +kernel) (Nat.le_of_ble_eq_true rfl) ?_
  intro p env s m below meth c ls X hH hl
  have hS : va_S (bA B) s.heap s.heap [] := va_S.rf
  have hx := X.1.1
  have hb := X.1.2.1
  have hl : lv_has ls 1 [(0, .ref (B.2.2.1 + jl))] := hl
  refine lv_aload_n hx hb dJx4a65c_grow_d5877_0 rfl (lv_at hl 0 rfl) ?_
  refine lv_aload_n hx hb dJx4a65c_grow_d5877_1 rfl (lv_at hl 0 rfl) ?_
  refine b_get (C := RJx4a65c) (T := TJx4a65c) (N := 3) X hH jl hjl hel rfl inBJx4a65c 2 (by decide) rfl bw141 dJx4a65c_grow_d5877_2 ?_
  refine lv_iconst (v := 1) hx hb dJx4a65c_grow_d5877_5 (by decide) ?_
  refine lv_iadd hx hb dJx4a65c_grow_d5877_6 ?_
  rw [hz1]
  refine b_size X hH (by omega) rfl (fun hz => ?_)
  refine bGr (b_vrun (rest := []) X (hM) bw189 bw191 bw2 bw90 bw192 kn_Jx4a65c_grow_92f84 ⟨rfl, rfl, Nat.le_of_ble_eq_true rfl, Nat.le_of_ble_eq_true rfl⟩ (b_rec X hH jl hjl hel rfl) hH hS hz hl rfl (Nat.le_of_ble_eq_true rfl) dJx4a65c_grow_d5877_7 ⟨Nat.le_of_ble_eq_true rfl, by show 0 + sl ≤ sl; omega⟩) hS (fun H locs hH hS => ?_)
  exact bEr X (Or.inr ⟨_, rfl⟩) hH hS (Nat.le_of_ble_eq_true rfl) (by show 0 + sl ≤ sl; omega) dJx4a65c_grow_d5877_10
theorem kn_Jx4a65c_add_72be8 : CN yJx4a65c_add_72be8 3 := ⟨by decide +kernel, by decide +kernel, by decide +kernel⟩
theorem kn_Jx4a65c_add_9ea2d : CN yJx4a65c_add_9ea2d 1 := ⟨by decide +kernel, by decide +kernel, by decide +kernel⟩
set_option maxHeartbeats 4000000 in
set_option maxRecDepth 100000 in
theorem k_aqN (l : Launch) (B : BX) (n : Nat) (e : Nat → va_E) (jl ja r : Nat) (hjl : jl < n) (hja : ja < n) (hne : ja ≠ jl) (hr : r < n) (hrj : r ≠ ja) (vs : List Value) (her : e r = .inr (6, vs)) (v0 : Value) (q : Nat) (hel : e jl = .inr (0, [v0, .ref (B.2.2.1 + ja), .int (nI q)])) (N : Nat) (hN : N < 2 ^ 31) (f : Nat → Option Nat) (he : e ja = eQ B N f) (hq : q < N) : MBx l B yJx4a65c_add_72be8 cJx4a65c_add_72be8 4 none (rmB 5 0 0 220) [.ref (B.2.2.1 + jl), .ref (B.2.2.1 + r), .ref (B.2.2.1 + ja), .int (nI q)] n e (BV B n (uE (uE e ja (eQ B N (va_up f q (some (B.2.2.1 + r))))) jl (.inr (0, [v0, .ref (B.2.2.1 + ja), .int (nI (q + 1))])))) 0 0 := by
  refine bM_start (by decide +kernel) (Nat.le_of_ble_eq_true rfl) ?_
  intro p env s m below meth c ls X hH hl
  have hS : va_S (bA B) s.heap s.heap [] := va_S.rf
  have hx := X.1.1
  have hb := X.1.2.1
  have hl : lv_has ls 4 [(0, .ref (B.2.2.1 + jl)), (1, .ref (B.2.2.1 + r)), (2, .ref (B.2.2.1 + ja)), (3, .int (nI q))] := hl
  refine lv_iload_n hx hb dJx4a65c_add_72be8_0 rfl (lv_at hl 3 rfl) ?_
  refine lv_aload_n hx hb dJx4a65c_add_72be8_1 rfl (lv_at hl 2 rfl) ?_
  refine b_qlen X hH ja hja he dJx4a65c_add_72be8_2 ?_
  refine lv_icmp_ne (tgt := 11) hx hb dJx4a65c_add_72be8_3 (by decide) (fun hc => ?_) (fun hc => absurd (nI_inj (by omega) (by omega) hc) (by omega))
  refine lv_aload_n hx hb dJx4a65c_add_72be8_11 rfl (lv_at hl 2 rfl) ?_
  refine lv_iload_n hx hb dJx4a65c_add_72be8_12 rfl (lv_at hl 3 rfl) ?_
  refine lv_aload_n hx hb dJx4a65c_add_72be8_13 rfl (lv_at hl 1 rfl) ?_
  refine b_ast X hH hS ja hja he r hr her bw1794 hq hN dJx4a65c_add_72be8_14 (fun H locs hH hS => ?_)
  refine lv_aload_n hx hb dJx4a65c_add_72be8_15 rfl (lv_at hl 0 rfl) ?_
  refine lv_iload_n hx hb dJx4a65c_add_72be8_16 rfl (lv_at hl 3 rfl) ?_
  refine lv_iconst (v := 1) hx hb dJx4a65c_add_72be8_17 (by decide) ?_
  refine lv_iadd hx hb dJx4a65c_add_72be8_18 ?_
  rw [nI_1 q]
  refine b_put (C := RJx4a65c) (T := TJx4a65c) (N := 3) X hH hS jl hjl ((uE_n _ _ hne.symm).trans hel) rfl inBJx4a65c tyJx4a65c tyJx4a65c_ok nmJx4a65c 2 (by decide) bw141 rfl rfl rfl (Nat.le_of_ble_eq_true rfl) dJx4a65c_add_72be8_19 (fun H locs hH hS => ?_)
  exact bEv X hH hS (Nat.zero_le _) (Nat.zero_le _) dJx4a65c_add_72be8_22
set_option maxHeartbeats 4000000 in
set_option maxRecDepth 100000 in
theorem k_adN (l : Launch) (B : BX) (n : Nat) (e : Nat → va_E) (jl ja r : Nat) (hjl : jl < n) (hja : ja < n) (hne : ja ≠ jl) (hr : r < n) (hrj : r ≠ ja) (vs : List Value) (her : e r = .inr (6, vs)) (q : Nat) (hel : e jl = .inr (0, [.int (nI q), .ref (B.2.2.1 + ja), .int (nI q)])) (N : Nat) (hN : N < 2 ^ 31) (f : Nat → Option Nat) (he : e ja = eQ B N f) (hq : q < N) (hrl : r ≠ jl) : MBx l B yJx4a65c_add_9ea2d cJx4a65c_add_9ea2d 2 (some .boolean) (rmB 6 0 0 250) [.ref (B.2.2.1 + jl), .ref (B.2.2.1 + r)] n e (BI B n (uE (uE e ja (eQ B N (va_up f q (some (B.2.2.1 + r))))) jl (eLst B ja (q + 1))) 1) 0 0 := by
  refine bM_start (by decide +kernel) (Nat.le_of_ble_eq_true rfl) ?_
  intro p env s m below meth c ls X hH hl
  have hS : va_S (bA B) s.heap s.heap [] := va_S.rf
  have hx := X.1.1
  have hb := X.1.2.1
  have hl : lv_has ls 2 [(0, .ref (B.2.2.1 + jl)), (1, .ref (B.2.2.1 + r))] := hl
  refine lv_aload_n hx hb dJx4a65c_add_9ea2d_0 rfl (lv_at hl 0 rfl) ?_
  refine lv_dup hx hb dJx4a65c_add_9ea2d_1 rfl ?_
  refine b_getM X hH jl hjl hel bw143 dJx4a65c_add_9ea2d_2 ?_
  refine lv_iconst (v := 1) hx hb dJx4a65c_add_9ea2d_5 (by decide) ?_
  refine lv_iadd hx hb dJx4a65c_add_9ea2d_6 ?_
  rw [nI_1 q]
  refine b_putM X hH hS jl hjl hel bw143 dJx4a65c_add_9ea2d_7 (fun H locs hH hS => ?_)
  refine lv_aload_n hx hb dJx4a65c_add_9ea2d_10 rfl (lv_at hl 0 rfl) ?_
  refine lv_aload_n hx hb dJx4a65c_add_9ea2d_11 rfl (lv_at hl 1 rfl) ?_
  refine lv_aload_n hx hb dJx4a65c_add_9ea2d_12 rfl (lv_at hl 0 rfl) ?_
  refine b_get (C := RJx4a65c) (T := TJx4a65c) (N := 3) X hH jl hjl (uE_s _ _ _) rfl inBJx4a65c 1 (by decide) rfl bw140 dJx4a65c_add_9ea2d_13 ?_
  refine lv_aload_n hx hb dJx4a65c_add_9ea2d_16 rfl (lv_at hl 0 rfl) ?_
  refine b_get (C := RJx4a65c) (T := TJx4a65c) (N := 3) X hH jl hjl (uE_s _ _ _) rfl inBJx4a65c 2 (by decide) rfl bw141 dJx4a65c_add_9ea2d_17 ?_
  refine b_size X hH (by omega) rfl (fun hz => ?_)
  refine bGv (b_vrun (rest := []) X (k_aqN l B n (uE e jl (.inr (0, [.int (nI (q + 1)), .ref (B.2.2.1 + ja), .int (nI q)]))) jl ja r hjl hja hne hr hrj vs ((uE_n _ _ hrl).trans her) (.int (nI (q + 1))) q (uE_s _ _ _) N hN f ((uE_n _ _ hne).trans he) hq) bw181 bw183 bw0 bw90 bw184 kn_Jx4a65c_add_72be8 ⟨rfl, rfl, Nat.le_of_ble_eq_true rfl, Nat.le_of_ble_eq_true rfl⟩ (b_rec X hH jl hjl (uE_s _ _ _) rfl) hH hS hz hl rfl (Nat.le_of_ble_eq_true rfl) dJx4a65c_add_9ea2d_20 ⟨Nat.le_of_ble_eq_true rfl, Nat.le_of_ble_eq_true rfl⟩) hS (fun H locs hH hS => ?_)
  rw [uE_3] at hH
  refine lv_iconst (v := 1) hx hb dJx4a65c_add_9ea2d_23 (by decide) ?_
  exact bEz X (Or.inr rfl) hH hS (Nat.zero_le _) (Nat.zero_le _) dJx4a65c_add_9ea2d_24
set_option maxHeartbeats 4000000 in
set_option maxRecDepth 100000 in
theorem k_aqF (l : Launch) (B : BX) (n : Nat) (e e2 : Nat → va_E) (jl r : Nat) (hjl : jl < n) (hr : r < n) (hrl : r ≠ jl) (vs : List Value) (her : e r = .inr (6, vs)) (v0 v1 : Value) (q : Nat) (hel : e jl = .inr (0, [v0, v1, .int (nI q)])) (N2 : Nat) (hN2 : N2 < 2 ^ 31) (hqN : q < N2) (f2 : Nat → Option Nat) (sl : Nat) (he2 : e2 = uE (uE e n (eQ B N2 f2)) jl (.inr (0, [v0, .ref (B.2.2.1 + n), .int (nI q)]))) (hM : MBx l B yJx4a65c_grow_92f84 cJx4a65c_grow_92f84 4 (some (.array (.object "java/lang/Object"))) (rmB 3 1 sl 150) [.ref (B.2.2.1 + jl), .int (nI (q + 1))] n e (BR B (n + 1) e2 (B.2.2.1 + n)) 1 sl) (hq0 : q = 0) : MBx l B yJx4a65c_add_72be8 cJx4a65c_add_72be8 4 none (rmB 5 1 sl 220) [.ref (B.2.2.1 + jl), .ref (B.2.2.1 + r), .ref B.2.2.2.1, .int (nI q)] n e (BV B (n + 1) (uE (uE e n (eQ B N2 (va_up f2 q (some (B.2.2.1 + r))))) jl (.inr (0, [v0, .ref (B.2.2.1 + n), .int (nI (q + 1))])))) 1 sl := by
  refine bM_start (by decide +kernel) (Nat.le_of_ble_eq_true rfl) ?_
  intro p env s m below meth c ls X hH hl
  have hS : va_S (bA B) s.heap s.heap [] := va_S.rf
  have hx := X.1.1
  have hb := X.1.2.1
  have hl : lv_has ls 4 [(0, .ref (B.2.2.1 + jl)), (1, .ref (B.2.2.1 + r)), (2, .ref B.2.2.2.1), (3, .int (nI q))] := hl
  refine lv_iload_n hx hb dJx4a65c_add_72be8_0 rfl (lv_at hl 3 rfl) ?_
  refine lv_aload_n hx hb dJx4a65c_add_72be8_1 rfl (lv_at hl 2 rfl) ?_
  refine b_dlen X hS dJx4a65c_add_72be8_2 ?_
  refine lv_icmp_ne (tgt := 11) hx hb dJx4a65c_add_72be8_3 (by decide) (fun hc => absurd (by rw [hq0]; rfl) hc) (fun hc => ?_)
  refine lv_aload_n hx hb dJx4a65c_add_72be8_6 rfl (lv_at hl 0 rfl) ?_
  refine b_size X hH (by omega) rfl (fun hz => ?_)
  refine bGr (b_vrun (rest := []) X (k_gr l B n e e2 jl hjl v0 v1 (nI q) (nI (q + 1)) hel (nI_1 q) sl hM) bw185 bw187 bw1 bw90 bw188 kn_Jx4a65c_grow_d5877 ⟨rfl, rfl, Nat.le_of_ble_eq_true rfl, Nat.le_of_ble_eq_true rfl⟩ (b_rec X hH jl hjl hel rfl) hH hS hz hl rfl (Nat.le_of_ble_eq_true rfl) dJx4a65c_add_72be8_7 ⟨Nat.le_of_ble_eq_true rfl, by show 0 + sl ≤ sl; omega⟩) hS (fun H locs hH hS => ?_)
  rw [he2] at hH
  refine lv_astore_n (lv' := [(2, .ref (B.2.2.1 + n)), (0, .ref (B.2.2.1 + jl)), (1, .ref (B.2.2.1 + r)), (3, .int (nI q))]) hx hb dJx4a65c_add_72be8_10 rfl hl (by decide) rfl (fun ls hl => ?_)
  refine lv_aload_n hx hb dJx4a65c_add_72be8_11 rfl (lv_at hl 0 rfl) ?_
  refine lv_iload_n hx hb dJx4a65c_add_72be8_12 rfl (lv_at hl 3 rfl) ?_
  refine lv_aload_n hx hb dJx4a65c_add_72be8_13 rfl (lv_at hl 2 rfl) ?_
  refine b_ast X hH hS n (by omega) ((uE_n _ _ (by omega)).trans (uE_s _ _ _)) r (by omega) ((uE_n _ _ hrl).trans ((uE_n _ _ (by omega)).trans her)) bw1794 hqN hN2 dJx4a65c_add_72be8_14 (fun H locs hH hS => ?_)
  refine lv_aload_n hx hb dJx4a65c_add_72be8_15 rfl (lv_at hl 1 rfl) ?_
  refine lv_iload_n hx hb dJx4a65c_add_72be8_16 rfl (lv_at hl 3 rfl) ?_
  refine lv_iconst (v := 1) hx hb dJx4a65c_add_72be8_17 (by decide) ?_
  refine lv_iadd hx hb dJx4a65c_add_72be8_18 ?_
  rw [nI_1 q]
  refine b_put (C := RJx4a65c) (T := TJx4a65c) (N := 3) X hH hS jl (by omega) ((uE_n _ _ (by omega)).trans (uE_s _ _ _)) rfl inBJx4a65c tyJx4a65c tyJx4a65c_ok nmJx4a65c 2 (by decide) bw141 rfl rfl rfl (Nat.le_of_ble_eq_true rfl) dJx4a65c_add_72be8_19 (fun H locs hH hS => ?_)
  rw [uE_3, uE_uE] at hH
  exact bEv X hH hS (Nat.le_of_ble_eq_true rfl) (by show 0 + sl ≤ sl; omega) dJx4a65c_add_72be8_22
set_option maxHeartbeats 4000000 in
set_option maxRecDepth 100000 in
theorem k_aqG (l : Launch) (B : BX) (n : Nat) (e e2 : Nat → va_E) (jl r : Nat) (hjl : jl < n) (hr : r < n) (hrl : r ≠ jl) (vs : List Value) (her : e r = .inr (6, vs)) (v0 v1 : Value) (q : Nat) (hel : e jl = .inr (0, [v0, v1, .int (nI q)])) (N2 : Nat) (hN2 : N2 < 2 ^ 31) (hqN : q < N2) (f2 : Nat → Option Nat) (sl : Nat) (he2 : e2 = uE (uE e n (eQ B N2 f2)) jl (.inr (0, [v0, .ref (B.2.2.1 + n), .int (nI q)]))) (hM : MBx l B yJx4a65c_grow_92f84 cJx4a65c_grow_92f84 4 (some (.array (.object "java/lang/Object"))) (rmB 3 1 sl 150) [.ref (B.2.2.1 + jl), .int (nI (q + 1))] n e (BR B (n + 1) e2 (B.2.2.1 + n)) 1 sl) (ja : Nat) (hja : ja < n) (hne : ja ≠ jl) (f : Nat → Option Nat) (he : e ja = eQ B q f) : MBx l B yJx4a65c_add_72be8 cJx4a65c_add_72be8 4 none (rmB 5 1 sl 220) [.ref (B.2.2.1 + jl), .ref (B.2.2.1 + r), .ref (B.2.2.1 + ja), .int (nI q)] n e (BV B (n + 1) (uE (uE e n (eQ B N2 (va_up f2 q (some (B.2.2.1 + r))))) jl (.inr (0, [v0, .ref (B.2.2.1 + n), .int (nI (q + 1))])))) 1 sl := by
  refine bM_start (by decide +kernel) (Nat.le_of_ble_eq_true rfl) ?_
  intro p env s m below meth c ls X hH hl
  have hS : va_S (bA B) s.heap s.heap [] := va_S.rf
  have hx := X.1.1
  have hb := X.1.2.1
  have hl : lv_has ls 4 [(0, .ref (B.2.2.1 + jl)), (1, .ref (B.2.2.1 + r)), (2, .ref (B.2.2.1 + ja)), (3, .int (nI q))] := hl
  refine lv_iload_n hx hb dJx4a65c_add_72be8_0 rfl (lv_at hl 3 rfl) ?_
  refine lv_aload_n hx hb dJx4a65c_add_72be8_1 rfl (lv_at hl 2 rfl) ?_
  refine b_qlen X hH ja hja he dJx4a65c_add_72be8_2 ?_
  refine lv_icmp_ne (tgt := 11) hx hb dJx4a65c_add_72be8_3 (by decide) (fun hc => absurd rfl hc) (fun hc => ?_)
  refine lv_aload_n hx hb dJx4a65c_add_72be8_6 rfl (lv_at hl 0 rfl) ?_
  refine b_size X hH (by omega) rfl (fun hz => ?_)
  refine bGr (b_vrun (rest := []) X (k_gr l B n e e2 jl hjl v0 v1 (nI q) (nI (q + 1)) hel (nI_1 q) sl hM) bw185 bw187 bw1 bw90 bw188 kn_Jx4a65c_grow_d5877 ⟨rfl, rfl, Nat.le_of_ble_eq_true rfl, Nat.le_of_ble_eq_true rfl⟩ (b_rec X hH jl hjl hel rfl) hH hS hz hl rfl (Nat.le_of_ble_eq_true rfl) dJx4a65c_add_72be8_7 ⟨Nat.le_of_ble_eq_true rfl, by show 0 + sl ≤ sl; omega⟩) hS (fun H locs hH hS => ?_)
  rw [he2] at hH
  refine lv_astore_n (lv' := [(2, .ref (B.2.2.1 + n)), (0, .ref (B.2.2.1 + jl)), (1, .ref (B.2.2.1 + r)), (3, .int (nI q))]) hx hb dJx4a65c_add_72be8_10 rfl hl (by decide) rfl (fun ls hl => ?_)
  refine lv_aload_n hx hb dJx4a65c_add_72be8_11 rfl (lv_at hl 0 rfl) ?_
  refine lv_iload_n hx hb dJx4a65c_add_72be8_12 rfl (lv_at hl 3 rfl) ?_
  refine lv_aload_n hx hb dJx4a65c_add_72be8_13 rfl (lv_at hl 2 rfl) ?_
  refine b_ast X hH hS n (by omega) ((uE_n _ _ (by omega)).trans (uE_s _ _ _)) r (by omega) ((uE_n _ _ hrl).trans ((uE_n _ _ (by omega)).trans her)) bw1794 hqN hN2 dJx4a65c_add_72be8_14 (fun H locs hH hS => ?_)
  refine lv_aload_n hx hb dJx4a65c_add_72be8_15 rfl (lv_at hl 1 rfl) ?_
  refine lv_iload_n hx hb dJx4a65c_add_72be8_16 rfl (lv_at hl 3 rfl) ?_
  refine lv_iconst (v := 1) hx hb dJx4a65c_add_72be8_17 (by decide) ?_
  refine lv_iadd hx hb dJx4a65c_add_72be8_18 ?_
  rw [nI_1 q]
  refine b_put (C := RJx4a65c) (T := TJx4a65c) (N := 3) X hH hS jl (by omega) ((uE_n _ _ (by omega)).trans (uE_s _ _ _)) rfl inBJx4a65c tyJx4a65c tyJx4a65c_ok nmJx4a65c 2 (by decide) bw141 rfl rfl rfl (Nat.le_of_ble_eq_true rfl) dJx4a65c_add_72be8_19 (fun H locs hH hS => ?_)
  rw [uE_3, uE_uE] at hH
  exact bEv X hH hS (Nat.le_of_ble_eq_true rfl) (by show 0 + sl ≤ sl; omega) dJx4a65c_add_72be8_22
set_option maxHeartbeats 4000000 in
set_option maxRecDepth 100000 in
theorem k_adF (l : Launch) (B : BX) (n : Nat) (e : Nat → va_E) (jl r : Nat) (hjl : jl < n) (hr : r < n) (hrl : r ≠ jl) (vs : List Value) (her : e r = .inr (6, vs)) (q : Nat) (hq0 : q = 0) (hel : e jl = .inr (0, [.int (nI q), .ref B.2.2.2.1, .int (nI q)])) (N2 : Nat) (hN2 : N2 < 2 ^ 31) (hqN : q < N2) (f2 : Nat → Option Nat) (sl : Nat) (hM : MBx l B yJx4a65c_grow_92f84 cJx4a65c_grow_92f84 4 (some (.array (.object "java/lang/Object"))) (rmB 3 1 sl 150) [.ref (B.2.2.1 + jl), .int (nI (q + 1))] n (uE e jl (.inr (0, [.int (nI (q + 1)), .ref B.2.2.2.1, .int (nI q)]))) (BR B (n + 1) (uE (uE (uE e jl (.inr (0, [.int (nI (q + 1)), .ref B.2.2.2.1, .int (nI q)]))) n (eQ B N2 f2)) jl (.inr (0, [.int (nI (q + 1)), .ref (B.2.2.1 + n), .int (nI q)]))) (B.2.2.1 + n)) 1 sl) : MBx l B yJx4a65c_add_9ea2d cJx4a65c_add_9ea2d 2 (some .boolean) (rmB 6 1 sl 250) [.ref (B.2.2.1 + jl), .ref (B.2.2.1 + r)] n e (BI B (n + 1) (uE (uE e n (eQ B N2 (va_up f2 q (some (B.2.2.1 + r))))) jl (eLst B n (q + 1))) 1) 1 sl := by
  refine bM_start (by decide +kernel) (Nat.le_of_ble_eq_true rfl) ?_
  intro p env s m below meth c ls X hH hl
  have hS : va_S (bA B) s.heap s.heap [] := va_S.rf
  have hx := X.1.1
  have hb := X.1.2.1
  have hl : lv_has ls 2 [(0, .ref (B.2.2.1 + jl)), (1, .ref (B.2.2.1 + r))] := hl
  refine lv_aload_n hx hb dJx4a65c_add_9ea2d_0 rfl (lv_at hl 0 rfl) ?_
  refine lv_dup hx hb dJx4a65c_add_9ea2d_1 rfl ?_
  refine b_getM X hH jl hjl hel bw143 dJx4a65c_add_9ea2d_2 ?_
  refine lv_iconst (v := 1) hx hb dJx4a65c_add_9ea2d_5 (by decide) ?_
  refine lv_iadd hx hb dJx4a65c_add_9ea2d_6 ?_
  rw [nI_1 q]
  refine b_putM X hH hS jl hjl hel bw143 dJx4a65c_add_9ea2d_7 (fun H locs hH hS => ?_)
  refine lv_aload_n hx hb dJx4a65c_add_9ea2d_10 rfl (lv_at hl 0 rfl) ?_
  refine lv_aload_n hx hb dJx4a65c_add_9ea2d_11 rfl (lv_at hl 1 rfl) ?_
  refine lv_aload_n hx hb dJx4a65c_add_9ea2d_12 rfl (lv_at hl 0 rfl) ?_
  refine b_get (C := RJx4a65c) (T := TJx4a65c) (N := 3) X hH jl hjl (uE_s _ _ _) rfl inBJx4a65c 1 (by decide) rfl bw140 dJx4a65c_add_9ea2d_13 ?_
  refine lv_aload_n hx hb dJx4a65c_add_9ea2d_16 rfl (lv_at hl 0 rfl) ?_
  refine b_get (C := RJx4a65c) (T := TJx4a65c) (N := 3) X hH jl hjl (uE_s _ _ _) rfl inBJx4a65c 2 (by decide) rfl bw141 dJx4a65c_add_9ea2d_17 ?_
  refine b_size X hH (by omega) rfl (fun hz => ?_)
  refine bGv (b_vrun (rest := []) X (k_aqF l B n (uE e jl (.inr (0, [.int (nI (q + 1)), .ref B.2.2.2.1, .int (nI q)]))) _ jl r hjl hr hrl vs ((uE_n _ _ hrl).trans her) (.int (nI (q + 1))) (.ref B.2.2.2.1) q (uE_s _ _ _) N2 hN2 hqN f2 sl rfl hM hq0) bw181 bw183 bw0 bw90 bw184 kn_Jx4a65c_add_72be8 ⟨rfl, rfl, Nat.le_of_ble_eq_true rfl, Nat.le_of_ble_eq_true rfl⟩ (b_rec X hH jl hjl (uE_s _ _ _) rfl) hH hS hz hl rfl (Nat.le_of_ble_eq_true rfl) dJx4a65c_add_9ea2d_20 ⟨Nat.le_of_ble_eq_true rfl, by show 0 + sl ≤ sl; omega⟩) hS (fun H locs hH hS => ?_)
  rw [show uE (uE (uE e jl (.inr (0, [.int (nI (q + 1)), .ref B.2.2.2.1, .int (nI q)]))) n (eQ B N2 (va_up f2 q (some (B.2.2.1 + r))))) jl (.inr (0, [.int (nI (q + 1)), .ref (B.2.2.1 + n), .int (nI (q + 1))])) = uE (uE e n (eQ B N2 (va_up f2 q (some (B.2.2.1 + r))))) jl (eLst B n (q + 1)) from uE_3 _ _ _ _ _ _] at hH
  refine lv_iconst (v := 1) hx hb dJx4a65c_add_9ea2d_23 (by decide) ?_
  exact bEz X (Or.inr rfl) hH hS (Nat.le_of_ble_eq_true rfl) (by show 0 + sl ≤ sl; omega) dJx4a65c_add_9ea2d_24
set_option maxHeartbeats 4000000 in
set_option maxRecDepth 100000 in
theorem k_adG (l : Launch) (B : BX) (n : Nat) (e : Nat → va_E) (jl r : Nat) (hjl : jl < n) (hr : r < n) (hrl : r ≠ jl) (vs : List Value) (her : e r = .inr (6, vs)) (q : Nat) (ja : Nat) (hja : ja < n) (hne : ja ≠ jl) (f : Nat → Option Nat) (he : e ja = eQ B q f) (hel : e jl = .inr (0, [.int (nI q), .ref (B.2.2.1 + ja), .int (nI q)])) (N2 : Nat) (hN2 : N2 < 2 ^ 31) (hqN : q < N2) (f2 : Nat → Option Nat) (sl : Nat) (hM : MBx l B yJx4a65c_grow_92f84 cJx4a65c_grow_92f84 4 (some (.array (.object "java/lang/Object"))) (rmB 3 1 sl 150) [.ref (B.2.2.1 + jl), .int (nI (q + 1))] n (uE e jl (.inr (0, [.int (nI (q + 1)), .ref (B.2.2.1 + ja), .int (nI q)]))) (BR B (n + 1) (uE (uE (uE e jl (.inr (0, [.int (nI (q + 1)), .ref (B.2.2.1 + ja), .int (nI q)]))) n (eQ B N2 f2)) jl (.inr (0, [.int (nI (q + 1)), .ref (B.2.2.1 + n), .int (nI q)]))) (B.2.2.1 + n)) 1 sl) : MBx l B yJx4a65c_add_9ea2d cJx4a65c_add_9ea2d 2 (some .boolean) (rmB 6 1 sl 250) [.ref (B.2.2.1 + jl), .ref (B.2.2.1 + r)] n e (BI B (n + 1) (uE (uE e n (eQ B N2 (va_up f2 q (some (B.2.2.1 + r))))) jl (eLst B n (q + 1))) 1) 1 sl := by
  refine bM_start (by decide +kernel) (Nat.le_of_ble_eq_true rfl) ?_
  intro p env s m below meth c ls X hH hl
  have hS : va_S (bA B) s.heap s.heap [] := va_S.rf
  have hx := X.1.1
  have hb := X.1.2.1
  have hl : lv_has ls 2 [(0, .ref (B.2.2.1 + jl)), (1, .ref (B.2.2.1 + r))] := hl
  refine lv_aload_n hx hb dJx4a65c_add_9ea2d_0 rfl (lv_at hl 0 rfl) ?_
  refine lv_dup hx hb dJx4a65c_add_9ea2d_1 rfl ?_
  refine b_getM X hH jl hjl hel bw143 dJx4a65c_add_9ea2d_2 ?_
  refine lv_iconst (v := 1) hx hb dJx4a65c_add_9ea2d_5 (by decide) ?_
  refine lv_iadd hx hb dJx4a65c_add_9ea2d_6 ?_
  rw [nI_1 q]
  refine b_putM X hH hS jl hjl hel bw143 dJx4a65c_add_9ea2d_7 (fun H locs hH hS => ?_)
  refine lv_aload_n hx hb dJx4a65c_add_9ea2d_10 rfl (lv_at hl 0 rfl) ?_
  refine lv_aload_n hx hb dJx4a65c_add_9ea2d_11 rfl (lv_at hl 1 rfl) ?_
  refine lv_aload_n hx hb dJx4a65c_add_9ea2d_12 rfl (lv_at hl 0 rfl) ?_
  refine b_get (C := RJx4a65c) (T := TJx4a65c) (N := 3) X hH jl hjl (uE_s _ _ _) rfl inBJx4a65c 1 (by decide) rfl bw140 dJx4a65c_add_9ea2d_13 ?_
  refine lv_aload_n hx hb dJx4a65c_add_9ea2d_16 rfl (lv_at hl 0 rfl) ?_
  refine b_get (C := RJx4a65c) (T := TJx4a65c) (N := 3) X hH jl hjl (uE_s _ _ _) rfl inBJx4a65c 2 (by decide) rfl bw141 dJx4a65c_add_9ea2d_17 ?_
  refine b_size X hH (by omega) rfl (fun hz => ?_)
  refine bGv (b_vrun (rest := []) X (k_aqG l B n (uE e jl (.inr (0, [.int (nI (q + 1)), .ref (B.2.2.1 + ja), .int (nI q)]))) _ jl r hjl hr hrl vs ((uE_n _ _ hrl).trans her) (.int (nI (q + 1))) (.ref (B.2.2.1 + ja)) q (uE_s _ _ _) N2 hN2 hqN f2 sl rfl hM ja hja hne f ((uE_n _ _ hne).trans he)) bw181 bw183 bw0 bw90 bw184 kn_Jx4a65c_add_72be8 ⟨rfl, rfl, Nat.le_of_ble_eq_true rfl, Nat.le_of_ble_eq_true rfl⟩ (b_rec X hH jl hjl (uE_s _ _ _) rfl) hH hS hz hl rfl (Nat.le_of_ble_eq_true rfl) dJx4a65c_add_9ea2d_20 ⟨Nat.le_of_ble_eq_true rfl, by show 0 + sl ≤ sl; omega⟩) hS (fun H locs hH hS => ?_)
  rw [show uE (uE (uE e jl (.inr (0, [.int (nI (q + 1)), .ref (B.2.2.1 + ja), .int (nI q)]))) n (eQ B N2 (va_up f2 q (some (B.2.2.1 + r))))) jl (.inr (0, [.int (nI (q + 1)), .ref (B.2.2.1 + n), .int (nI (q + 1))])) = uE (uE e n (eQ B N2 (va_up f2 q (some (B.2.2.1 + r))))) jl (eLst B n (q + 1)) from uE_3 _ _ _ _ _ _] at hH
  refine lv_iconst (v := 1) hx hb dJx4a65c_add_9ea2d_23 (by decide) ?_
  exact bEz X (Or.inr rfl) hH hS (Nat.le_of_ble_eq_true rfl) (by show 0 + sl ≤ sl; omega) dJx4a65c_add_9ea2d_24
theorem kn_X5_init : CN yX5_init 1 := ⟨by decide +kernel, by decide +kernel, by decide +kernel⟩
set_option maxHeartbeats 4000000 in
set_option maxRecDepth 100000 in
theorem k_row (l : Launch) (B : BX) (n : Nat) (e : Nat → va_E) (j : Nat) (hj : j < n) (v0 : Value) (he : e j = .inr (6, [v0, .int 0])) (k : Int32) (K : Nat) (hk : ¬ k ≤ 0) (hk0 : ¬ k < 0) (hN : k.toNatClampNeg = K) (hb2 : K ≤ 100000) : MBx l B yX5_init cX5_init 2 none (rmB 1 1 K 40) [.ref (B.2.2.1 + j), .int k] n e (BV B (n + 1) (uE (uE e n (eI B K (fun _ => 0))) j (eRow B n))) 1 K := by
  refine bM_start (by decide +kernel) (Nat.le_of_ble_eq_true rfl) ?_
  intro p env s m below meth c ls X hH hl
  have hS : va_S (bA B) s.heap s.heap [] := va_S.rf
  have hx := X.1.1
  have hb := X.1.2.1
  have hl : lv_has ls 2 [(0, .ref (B.2.2.1 + j)), (1, .int k)] := hl
  refine lv_aload_n hx hb dX5_init_0 rfl (lv_at hl 0 rfl) ?_
  refine b_obj X hl bw168 bw118 bw119 ⟨Nat.le_of_ble_eq_true rfl, Nat.le_of_ble_eq_true rfl⟩ dX5_init_1 ?_
  refine lv_aload_n hx hb dX5_init_4 rfl (lv_at hl 0 rfl) ?_
  refine lv_iload_n hx hb dX5_init_5 rfl (lv_at hl 1 rfl) ?_
  refine lv_if_le (tgt := 13) hx hb dX5_init_6 (by decide) (fun hc => absurd hc hk) (fun hc => ?_)
  refine lv_iload_n hx hb dX5_init_9 rfl (lv_at hl 1 rfl) ?_
  refine lv_goto (tgt := 14) hx hb dX5_init_10 (by decide) ?_
  refine b_newi X hH hS rfl bwAI hk0 hN hb2 (Nat.le_of_ble_eq_true rfl) (by show 0 + K ≤ K; omega) dX5_init_14 (fun H hH hS => ?_)
  refine b_putF (C := RX5) (T := TX5) (N := 2) X rfl hH hS j (by omega) ((uE_n _ _ (by omega)).trans he) rfl inBX5 tyX5 tyX5_ok nmX5 0 (by decide) bw169 rfl rfl rfl rfl (Nat.le_of_ble_eq_true rfl) dX5_init_16 (fun H locs hH hS => ?_)
  refine lv_aload_n hx hb dX5_init_19 rfl (lv_at hl 0 rfl) ?_
  refine lv_iconst (v := 0) hx hb dX5_init_20 (by decide) ?_
  refine b_put (C := RX5) (T := TX5) (N := 2) X hH hS j (by omega) (uE_s _ _ _) rfl inBX5 tyX5 tyX5_ok nmX5 1 (by decide) bw170 rfl rfl rfl (Nat.le_of_ble_eq_true rfl) dX5_init_21 (fun H locs hH hS => ?_)
  rw [uE_uE] at hH
  exact bEv X hH hS (Nat.le_of_ble_eq_true rfl) (by show 0 + K ≤ K; omega) dX5_init_24
theorem kn_X7_init : CN yX7_init 0 := ⟨by decide +kernel, by decide +kernel, by decide +kernel⟩
set_option maxHeartbeats 4000000 in
set_option maxRecDepth 100000 in
theorem k_shf (l : Launch) (B : BX) (n : Nat) (e : Nat → va_E) (j : Nat) (hj : j < n) (v0 v1 : Value) (he : e j = .inr (8, [v0, v1])) : MBx l B yX7_init cX7_init 1 none (rmB 4 2 6 110) [.ref (B.2.2.1 + j)] n e (BV B (n + 2) (uE (uE (uE e n (eLst0 B)) (n + 1) (eLst0 B)) j (eShf B n (n + 1)))) 2 6 := by
  refine bM_start (by decide +kernel) (Nat.le_of_ble_eq_true rfl) ?_
  intro p env s m below meth c ls X hH hl
  have hS : va_S (bA B) s.heap s.heap [] := va_S.rf
  have hx := X.1.1
  have hb := X.1.2.1
  have hl : lv_has ls 1 [(0, .ref (B.2.2.1 + j))] := hl
  refine lv_aload_n hx hb dX7_init_0 rfl (lv_at hl 0 rfl) ?_
  refine b_obj X hl bw125 bw118 bw119 ⟨Nat.le_of_ble_eq_true rfl, Nat.le_of_ble_eq_true rfl⟩ dX7_init_1 ?_
  refine lv_aload_n hx hb dX7_init_4 rfl (lv_at hl 0 rfl) ?_
  refine b_new (ci := 0) (fs := [.int 0, .null, .int 0]) X hH hS rfl rfl inBJx4a65c tyJx4a65c tyJx4a65c_ok bw126 bw127 bw90 (by decide) (Nat.le_of_ble_eq_true rfl) (Nat.le_of_ble_eq_true rfl) dX7_init_5 (fun H hH hS => ?_)
  refine lv_dup hx hb dX7_init_8 rfl ?_
  refine b_size X hH (by omega) rfl (fun hz => ?_)
  refine bGv (b_irun (rest := [.ref (B.2.2.1 + n), .ref (B.2.2.1 + j)]) X (k_ALLi l B (n + 1) (uE e n (.inr (0, [.int 0, .null, .int 0]))) n (by omega) (.int 0) .null (uE_s _ _ _)) rfl bw128 bw129 bw90 bw130 kn_Jx4a65c_init_da8c8 ⟨rfl, rfl, Nat.le_of_ble_eq_true rfl, Nat.le_of_ble_eq_true rfl⟩ hH hS hz hl rfl (Nat.le_of_ble_eq_true rfl) dX7_init_9 ⟨Nat.le_of_ble_eq_true rfl, Nat.le_of_ble_eq_true rfl⟩) hS (fun H locs hH hS => ?_)
  rw [uE_uE] at hH
  refine b_putF (C := RX7) (T := TX7) (N := 2) X rfl hH hS j (by omega) ((uE_n _ _ (by omega)).trans he) rfl inBX7 tyX7 tyX7_ok nmX7 0 (by decide) bw152 rfl rfl rfl rfl (Nat.le_of_ble_eq_true rfl) dX7_init_12 (fun H locs hH hS => ?_)
  refine lv_aload_n hx hb dX7_init_15 rfl (lv_at hl 0 rfl) ?_
  refine b_new (ci := 0) (fs := [.int 0, .null, .int 0]) X hH hS rfl rfl inBJx4a65c tyJx4a65c tyJx4a65c_ok bw126 bw127 bw90 (by decide) (Nat.le_of_ble_eq_true rfl) (Nat.le_of_ble_eq_true rfl) dX7_init_16 (fun H hH hS => ?_)
  refine lv_dup hx hb dX7_init_19 rfl ?_
  refine b_size X hH (by omega) rfl (fun hz => ?_)
  refine bGv (b_irun (rest := [.ref (B.2.2.1 + (n + 1)), .ref (B.2.2.1 + j)]) X (k_ALLi l B (n + 2) _ (n + 1) (by omega) (.int 0) .null (uE_s _ _ _)) rfl bw128 bw129 bw90 bw130 kn_Jx4a65c_init_da8c8 ⟨rfl, rfl, Nat.le_of_ble_eq_true rfl, Nat.le_of_ble_eq_true rfl⟩ hH hS hz hl rfl (Nat.le_of_ble_eq_true rfl) dX7_init_20 ⟨Nat.le_of_ble_eq_true rfl, Nat.le_of_ble_eq_true rfl⟩) hS (fun H locs hH hS => ?_)
  rw [uE_uE] at hH
  refine b_putF (C := RX7) (T := TX7) (N := 2) X rfl hH hS j (by omega) ((uE_n _ _ (by omega)).trans (uE_s _ _ _)) rfl inBX7 tyX7 tyX7_ok nmX7 1 (by decide) bw153 rfl rfl rfl rfl (Nat.le_of_ble_eq_true rfl) dX7_init_23 (fun H locs hH hS => ?_)
  rw [uE_3] at hH
  exact bEv X hH hS (Nat.le_of_ble_eq_true rfl) (Nat.le_of_ble_eq_true rfl) dX7_init_26
theorem uE_row (e : Nat → va_E) (n : Nat) (x y z : va_E) : uE (uE (uE e n x) (n + 1) y) n z = uE (uE e n z) (n + 1) y := by
  funext j
  unfold uE
  by_cases h : j = n
  · subst h; rw [if_pos rfl, if_neg (by omega), if_pos rfl]
  · rw [if_neg h]
    by_cases h2 : j = n + 1
    · rw [if_pos h2, if_pos h2]
    · rw [if_neg h2, if_neg h2, if_neg h, if_neg h]
abbrev uRow (B : BX) (e : Nat → va_E) (n K : Nat) : Nat → va_E := uE (uE e n (eRow B (n + 1))) (n + 1) (eI B K (fun _ => 0))
theorem kn_X7_place : CN yX7_place 1 := ⟨by decide +kernel, by decide +kernel, by decide +kernel⟩
set_option maxHeartbeats 4000000 in
set_option maxRecDepth 100000 in
theorem k_plN (l : Launch) (B : BX) (n : Nat) (e : Nat → va_E) (js jr jc ja jb : Nat) (hjs : js < n) (hjr : jr < n) (hjc : jc < n) (hja : ja < n) (hjb : jb < n) (hd : js ≠ ja ∧ js ≠ jb ∧ js ≠ jr ∧ js ≠ jc ∧ jr ≠ jc ∧ jr ≠ ja ∧ jr ≠ jb ∧ jc ≠ ja ∧ jc ≠ jb ∧ ja ≠ jb) (hes : e js = eShf B jr jc) (q : Nat) (her : e jr = eLst B ja q) (hec : e jc = eLst B jb q) (N : Nat) (hN : N < 2 ^ 31) (hq : q < N) (f g : Nat → Option Nat) (hea : e ja = eQ B N f) (heb : e jb = eQ B N g) (k : Int32) (K : Nat) (hk : ¬ k ≤ 0) (hk0 : ¬ k < 0) (hK : k.toNatClampNeg = K) (hb2 : K ≤ 100000) : MBx l B yX7_place cX7_place 3 (some (.object "LeadLetters$Row")) (rmB 7 4 (2 * K + 4) 280) [.ref (B.2.2.1 + js), .int k] n e (BR B (n + 4) (uE (uE (uRow B (uE (uE (uRow B e n K) ja (eQ B N (va_up f q (some (B.2.2.1 + n))))) jr (eLst B ja (q + 1))) (n + 2) K) jb (eQ B N (va_up g q (some (B.2.2.1 + (n + 2)))))) jc (eLst B jb (q + 1))) (B.2.2.1 + n)) 4 (2 * K + 4) := by
  refine bM_start (by decide +kernel) (Nat.le_of_ble_eq_true rfl) ?_
  intro p env s m below meth c ls X hH hl
  have hS : va_S (bA B) s.heap s.heap [] := va_S.rf
  have hx := X.1.1
  have hb := X.1.2.1
  have hl : lv_has ls 3 [(0, .ref (B.2.2.1 + js)), (1, .int k)] := hl
  refine b_new (ci := 6) (fs := [.null, .int 0]) X hH hS rfl rfl inBX5 tyX5 tyX5_ok bw163 bw164 bw91 (by decide) (Nat.le_of_ble_eq_true rfl) (by show _ ≤ (2 * K + 4); omega) dX7_place_0 (fun H hH hS => ?_)
  refine lv_dup hx hb dX7_place_3 rfl ?_
  refine lv_iload_n hx hb dX7_place_4 rfl (lv_at hl 1 rfl) ?_
  refine b_size X hH (by omega) rfl (fun hz => ?_)
  refine bGv (b_irun (rest := [.ref (B.2.2.1 + n)]) X (k_row l B (n + 1) (uE e n eRow0) n (by omega) .null (uE_s _ _ _) k K hk hk0 hK hb2) rfl bw165 bw166 bw91 bw167 kn_X5_init ⟨rfl, rfl, Nat.le_of_ble_eq_true rfl, Nat.le_of_ble_eq_true rfl⟩ hH hS hz hl rfl (Nat.le_of_ble_eq_true rfl) dX7_place_5 ⟨by show _ ≤ 4; omega, by show _ ≤ (2 * K + 4); omega⟩) hS (fun H locs hH hS => ?_)
  rw [uE_row] at hH
  refine lv_astore_n (lv' := [(2, .ref (B.2.2.1 + n)), (0, .ref (B.2.2.1 + js)), (1, .int k)]) hx hb dX7_place_8 rfl hl (by decide) rfl (fun ls hl => ?_)
  refine lv_aload_n hx hb dX7_place_9 rfl (lv_at hl 1 rfl) ?_
  refine b_get (C := RX7) (T := TX7) (N := 2) X hH js (by omega) ((uE_n _ _ (by omega)).trans ((uE_n _ _ (by omega)).trans (hes))) rfl inBX7 0 (by decide) rfl bw152 dX7_place_10 ?_
  refine lv_aload_n hx hb dX7_place_13 rfl (lv_at hl 0 rfl) ?_
  refine b_size X hH (by omega) rfl (fun hz => ?_)
  refine bGi (b_vrun (rest := []) X (k_adN l B (n + 2) (uRow B e n K) jr ja n (by omega) (by omega) (by omega) (by omega) (by omega) _ ((uE_n _ _ (by omega)).trans (uE_s _ _ _)) q ((uE_n _ _ (by omega)).trans ((uE_n _ _ (by omega)).trans (her))) N hN f ((uE_n _ _ (by omega)).trans ((uE_n _ _ (by omega)).trans (hea))) hq (by omega)) bw177 bw178 bw179 bw90 bw180 kn_Jx4a65c_add_9ea2d ⟨rfl, rfl, Nat.le_of_ble_eq_true rfl, Nat.le_of_ble_eq_true rfl⟩ (b_rec X hH jr (by omega) ((uE_n _ _ (by omega)).trans ((uE_n _ _ (by omega)).trans (her))) rfl) hH hS hz hl rfl (Nat.le_of_ble_eq_true rfl) dX7_place_14 ⟨by show _ ≤ 4; omega, by show _ ≤ (2 * K + 4); omega⟩) hS (fun H locs hH hS => ?_)
  refine lv_pop hx hb dX7_place_17 rfl ?_
  refine lv_aload_n hx hb dX7_place_18 rfl (lv_at hl 1 rfl) ?_
  refine b_get (C := RX7) (T := TX7) (N := 2) X hH js (by omega) ((uE_n _ _ (by omega)).trans ((uE_n _ _ (by omega)).trans ((uE_n _ _ (by omega)).trans ((uE_n _ _ (by omega)).trans (hes))))) rfl inBX7 1 (by decide) rfl bw153 dX7_place_19 ?_
  refine b_new (ci := 6) (fs := [.null, .int 0]) X hH hS (by omega) rfl inBX5 tyX5 tyX5_ok bw163 bw164 bw91 (by decide) (by show _ ≤ 4; omega) (by show _ ≤ (2 * K + 4); omega) dX7_place_22 (fun H hH hS => ?_)
  refine lv_dup hx hb dX7_place_25 rfl ?_
  refine lv_iload_n hx hb dX7_place_26 rfl (lv_at hl 2 rfl) ?_
  refine b_size X hH (by omega) (by omega) (fun hz => ?_)
  refine bGv (b_irun (rest := [.ref (B.2.2.1 + (n + 2)), .ref (B.2.2.1 + jc)]) X (k_row l B ((n + 2) + 1) (uE (uE (uE (uRow B e n K) ja (eQ B N (va_up f q (some (B.2.2.1 + n))))) jr (eLst B ja (q + 1))) (n + 2) eRow0) (n + 2) (by omega) .null (uE_s _ _ _) k K hk hk0 hK hb2) rfl bw165 bw166 bw91 bw167 kn_X5_init ⟨rfl, rfl, Nat.le_of_ble_eq_true rfl, Nat.le_of_ble_eq_true rfl⟩ hH hS hz hl rfl (Nat.le_of_ble_eq_true rfl) dX7_place_27 ⟨by show _ ≤ 4; omega, by show _ ≤ (2 * K + 4); omega⟩) hS (fun H locs hH hS => ?_)
  rw [uE_row] at hH
  refine b_size X hH (by omega) (by omega) (fun hz => ?_)
  refine bGi (b_vrun (rest := []) X (k_adN l B (n + 4) (uRow B (uE (uE (uRow B e n K) ja (eQ B N (va_up f q (some (B.2.2.1 + n))))) jr (eLst B ja (q + 1))) (n + 2) K) jc jb (n + 2) (by omega) (by omega) (by omega) (by omega) (by omega) _ ((uE_n _ _ (by omega)).trans (uE_s _ _ _)) q ((uE_n _ _ (by omega)).trans ((uE_n _ _ (by omega)).trans ((uE_n _ _ (by omega)).trans ((uE_n _ _ (by omega)).trans ((uE_n _ _ (by omega)).trans ((uE_n _ _ (by omega)).trans (hec))))))) N hN g ((uE_n _ _ (by omega)).trans ((uE_n _ _ (by omega)).trans ((uE_n _ _ (by omega)).trans ((uE_n _ _ (by omega)).trans ((uE_n _ _ (by omega)).trans ((uE_n _ _ (by omega)).trans (heb))))))) hq (by omega)) bw177 bw178 bw179 bw90 bw180 kn_Jx4a65c_add_9ea2d ⟨rfl, rfl, Nat.le_of_ble_eq_true rfl, Nat.le_of_ble_eq_true rfl⟩ (b_rec X hH jc (by omega) ((uE_n _ _ (by omega)).trans ((uE_n _ _ (by omega)).trans ((uE_n _ _ (by omega)).trans ((uE_n _ _ (by omega)).trans ((uE_n _ _ (by omega)).trans ((uE_n _ _ (by omega)).trans (hec))))))) rfl) hH hS hz hl rfl (Nat.le_of_ble_eq_true rfl) dX7_place_30 ⟨by show _ ≤ 4; omega, by show _ ≤ (2 * K + 4); omega⟩) hS (fun H locs hH hS => ?_)
  refine lv_pop hx hb dX7_place_33 rfl ?_
  refine lv_aload_n hx hb dX7_place_34 rfl (lv_at hl 0 rfl) ?_
  exact bEr X (Or.inl ⟨_, rfl⟩) hH hS (by show _ ≤ 4; omega) (by show _ ≤ (2 * K + 4); omega) dX7_place_35
set_option maxHeartbeats 4000000 in
set_option maxRecDepth 100000 in
theorem k_plF (l : Launch) (B : BX) (n : Nat) (e : Nat → va_E) (js jr jc : Nat) (hjs : js < n) (hjr : jr < n) (hjc : jc < n) (hd : js ≠ jr ∧ js ≠ jc ∧ jr ≠ jc) (hes : e js = eShf B jr jc) (her : e jr = eLst0 B) (hec : e jc = eLst0 B) (k : Int32) (K : Nat) (hk : ¬ k ≤ 0) (hk0 : ¬ k < 0) (hK : k.toNatClampNeg = K) (hb2 : K ≤ 100000) : MBx l B yX7_place cX7_place 3 (some (.object "LeadLetters$Row")) (rmB 7 6 (2 * K + 24) 280) [.ref (B.2.2.1 + js), .int k] n e (BR B (n + 6) (uE (uE (uRow B (uE (uE (uRow B e n K) (n + 2) (eQ B 10 (va_up (fun _ => none) 0 (some (B.2.2.1 + n))))) jr (eLst B (n + 2) 1)) (n + 3) K) (n + 5) (eQ B 10 (va_up (fun _ => none) 0 (some (B.2.2.1 + (n + 3)))))) jc (eLst B (n + 5) 1)) (B.2.2.1 + n)) 6 (2 * K + 24) := by
  refine bM_start (by decide +kernel) (Nat.le_of_ble_eq_true rfl) ?_
  intro p env s m below meth c ls X hH hl
  have hS : va_S (bA B) s.heap s.heap [] := va_S.rf
  have hx := X.1.1
  have hb := X.1.2.1
  have hl : lv_has ls 3 [(0, .ref (B.2.2.1 + js)), (1, .int k)] := hl
  refine b_new (ci := 6) (fs := [.null, .int 0]) X hH hS rfl rfl inBX5 tyX5 tyX5_ok bw163 bw164 bw91 (by decide) (Nat.le_of_ble_eq_true rfl) (by show _ ≤ (2 * K + 24); omega) dX7_place_0 (fun H hH hS => ?_)
  refine lv_dup hx hb dX7_place_3 rfl ?_
  refine lv_iload_n hx hb dX7_place_4 rfl (lv_at hl 1 rfl) ?_
  refine b_size X hH (by omega) rfl (fun hz => ?_)
  refine bGv (b_irun (rest := [.ref (B.2.2.1 + n)]) X (k_row l B (n + 1) (uE e n eRow0) n (by omega) .null (uE_s _ _ _) k K hk hk0 hK hb2) rfl bw165 bw166 bw91 bw167 kn_X5_init ⟨rfl, rfl, Nat.le_of_ble_eq_true rfl, Nat.le_of_ble_eq_true rfl⟩ hH hS hz hl rfl (Nat.le_of_ble_eq_true rfl) dX7_place_5 ⟨by show _ ≤ 6; omega, by show _ ≤ (2 * K + 24); omega⟩) hS (fun H locs hH hS => ?_)
  rw [uE_row] at hH
  refine lv_astore_n (lv' := [(2, .ref (B.2.2.1 + n)), (0, .ref (B.2.2.1 + js)), (1, .int k)]) hx hb dX7_place_8 rfl hl (by decide) rfl (fun ls hl => ?_)
  refine lv_aload_n hx hb dX7_place_9 rfl (lv_at hl 1 rfl) ?_
  refine b_get (C := RX7) (T := TX7) (N := 2) X hH js (by omega) ((uE_n _ _ (by omega)).trans ((uE_n _ _ (by omega)).trans (hes))) rfl inBX7 0 (by decide) rfl bw152 dX7_place_10 ?_
  refine lv_aload_n hx hb dX7_place_13 rfl (lv_at hl 0 rfl) ?_
  refine b_size X hH (by omega) rfl (fun hz => ?_)
  refine bGi (b_vrun (rest := []) X (k_adF l B (n + 2) (uRow B e n K) jr n (by omega) (by omega) (by omega) _ ((uE_n _ _ (by omega)).trans (uE_s _ _ _)) 0 rfl ((uE_n _ _ (by omega)).trans ((uE_n _ _ (by omega)).trans (her))) 10 (by decide) (by decide) (fun _ => none) 10 (k_gri0 l B (n + 2) _ jr (by omega) _ _ (uE_s _ _ _))) bw177 bw178 bw179 bw90 bw180 kn_Jx4a65c_add_9ea2d ⟨rfl, rfl, Nat.le_of_ble_eq_true rfl, Nat.le_of_ble_eq_true rfl⟩ (b_rec X hH jr (by omega) ((uE_n _ _ (by omega)).trans ((uE_n _ _ (by omega)).trans (her))) rfl) hH hS hz hl rfl (Nat.le_of_ble_eq_true rfl) dX7_place_14 ⟨by show _ ≤ 6; omega, by show _ ≤ (2 * K + 24); omega⟩) hS (fun H locs hH hS => ?_)
  refine lv_pop hx hb dX7_place_17 rfl ?_
  refine lv_aload_n hx hb dX7_place_18 rfl (lv_at hl 1 rfl) ?_
  refine b_get (C := RX7) (T := TX7) (N := 2) X hH js (by omega) ((uE_n _ _ (by omega)).trans ((uE_n _ _ (by omega)).trans ((uE_n _ _ (by omega)).trans ((uE_n _ _ (by omega)).trans (hes))))) rfl inBX7 1 (by decide) rfl bw153 dX7_place_19 ?_
  refine b_new (ci := 6) (fs := [.null, .int 0]) X hH hS (by omega) rfl inBX5 tyX5 tyX5_ok bw163 bw164 bw91 (by decide) (by show _ ≤ 6; omega) (by show _ ≤ (2 * K + 24); omega) dX7_place_22 (fun H hH hS => ?_)
  refine lv_dup hx hb dX7_place_25 rfl ?_
  refine lv_iload_n hx hb dX7_place_26 rfl (lv_at hl 2 rfl) ?_
  refine b_size X hH (by omega) (by omega) (fun hz => ?_)
  refine bGv (b_irun (rest := [.ref (B.2.2.1 + (n + 3)), .ref (B.2.2.1 + jc)]) X (k_row l B ((n + 3) + 1) (uE (uE (uE (uRow B e n K) (n + 2) (eQ B 10 (va_up (fun _ => none) 0 (some (B.2.2.1 + n))))) jr (eLst B (n + 2) 1)) (n + 3) eRow0) (n + 3) (by omega) .null (uE_s _ _ _) k K hk hk0 hK hb2) rfl bw165 bw166 bw91 bw167 kn_X5_init ⟨rfl, rfl, Nat.le_of_ble_eq_true rfl, Nat.le_of_ble_eq_true rfl⟩ hH hS hz hl rfl (Nat.le_of_ble_eq_true rfl) dX7_place_27 ⟨by show _ ≤ 6; omega, by show _ ≤ (2 * K + 24); omega⟩) hS (fun H locs hH hS => ?_)
  rw [uE_row] at hH
  refine b_size X hH (by omega) (by omega) (fun hz => ?_)
  refine bGi (b_vrun (rest := []) X (k_adF l B (n + 5) (uRow B (uE (uE (uRow B e n K) (n + 2) (eQ B 10 (va_up (fun _ => none) 0 (some (B.2.2.1 + n))))) jr (eLst B (n + 2) 1)) (n + 3) K) jc (n + 3) (by omega) (by omega) (by omega) _ ((uE_n _ _ (by omega)).trans (uE_s _ _ _)) 0 rfl ((uE_n _ _ (by omega)).trans ((uE_n _ _ (by omega)).trans ((uE_n _ _ (by omega)).trans ((uE_n _ _ (by omega)).trans ((uE_n _ _ (by omega)).trans ((uE_n _ _ (by omega)).trans (hec))))))) 10 (by decide) (by decide) (fun _ => none) 10 (k_gri0 l B (n + 5) _ jc (by omega) _ _ (uE_s _ _ _))) bw177 bw178 bw179 bw90 bw180 kn_Jx4a65c_add_9ea2d ⟨rfl, rfl, Nat.le_of_ble_eq_true rfl, Nat.le_of_ble_eq_true rfl⟩ (b_rec X hH jc (by omega) ((uE_n _ _ (by omega)).trans ((uE_n _ _ (by omega)).trans ((uE_n _ _ (by omega)).trans ((uE_n _ _ (by omega)).trans ((uE_n _ _ (by omega)).trans ((uE_n _ _ (by omega)).trans (hec))))))) rfl) hH hS hz hl rfl (Nat.le_of_ble_eq_true rfl) dX7_place_30 ⟨by show _ ≤ 6; omega, by show _ ≤ (2 * K + 24); omega⟩) hS (fun H locs hH hS => ?_)
  refine lv_pop hx hb dX7_place_33 rfl ?_
  refine lv_aload_n hx hb dX7_place_34 rfl (lv_at hl 0 rfl) ?_
  exact bEr X (Or.inl ⟨_, rfl⟩) hH hS (by show _ ≤ 6; omega) (by show _ ≤ (2 * K + 24); omega) dX7_place_35
set_option maxHeartbeats 4000000 in
set_option maxRecDepth 100000 in
theorem k_plG (l : Launch) (B : BX) (n : Nat) (e : Nat → va_E) (js jr jc ja jb : Nat) (hjs : js < n) (hjr : jr < n) (hjc : jc < n) (hja : ja < n) (hjb : jb < n) (hd : js ≠ ja ∧ js ≠ jb ∧ js ≠ jr ∧ js ≠ jc ∧ jr ≠ jc ∧ jr ≠ ja ∧ jr ≠ jb ∧ jc ≠ ja ∧ jc ≠ jb ∧ ja ≠ jb) (hes : e js = eShf B jr jc) (q : Nat) (her : e jr = eLst B ja q) (hec : e jc = eLst B jb q) (f g : Nat → Option Nat) (hea : e ja = eQ B q f) (heb : e jb = eQ B q g) (hrf : RWS B n e f) (hrg : RWS B n e g) (k2 : Int32) (N2 : Nat) (hk2 : ¬ k2 < 0) (hN2 : k2.toNatClampNeg = N2) (hc2 : N2 ≤ 100000) (hNN : q < N2) (hm : (if k2 < nI q then k2 else nI q) = nI q) (hlen : nI q + (if nI (q + 1) - nI q < nI q >>> (1 &&& 31) then nI q >>> (1 &&& 31) else nI (q + 1) - nI q) = k2) (h0 : 0 < k2) (h1 : ¬ 2147483639 < k2) (hp : 0 < nI q) (k : Int32) (K : Nat) (hk : ¬ k ≤ 0) (hk0 : ¬ k < 0) (hK : k.toNatClampNeg = K) (hb2 : K ≤ 100000) : MBx l B yX7_place cX7_place 3 (some (.object "LeadLetters$Row")) (rmB 7 6 (2 * K + 4 + 2 * N2) 280) [.ref (B.2.2.1 + js), .int k] n e (BR B (n + 6) (uE (uE (uRow B (uE (uE (uRow B e n K) (n + 2) (eQ B N2 (va_up (fun i => if i < q then f i else none) q (some (B.2.2.1 + n))))) jr (eLst B (n + 2) (q + 1))) (n + 3) K) (n + 5) (eQ B N2 (va_up (fun i => if i < q then g i else none) q (some (B.2.2.1 + (n + 3)))))) jc (eLst B (n + 5) (q + 1))) (B.2.2.1 + n)) 6 (2 * K + 4 + 2 * N2) := by
  refine bM_start (by decide +kernel) (Nat.le_of_ble_eq_true rfl) ?_
  intro p env s m below meth c ls X hH hl
  have hS : va_S (bA B) s.heap s.heap [] := va_S.rf
  have hx := X.1.1
  have hb := X.1.2.1
  have hl : lv_has ls 3 [(0, .ref (B.2.2.1 + js)), (1, .int k)] := hl
  refine b_new (ci := 6) (fs := [.null, .int 0]) X hH hS rfl rfl inBX5 tyX5 tyX5_ok bw163 bw164 bw91 (by decide) (Nat.le_of_ble_eq_true rfl) (by show _ ≤ (2 * K + 4 + 2 * N2); omega) dX7_place_0 (fun H hH hS => ?_)
  refine lv_dup hx hb dX7_place_3 rfl ?_
  refine lv_iload_n hx hb dX7_place_4 rfl (lv_at hl 1 rfl) ?_
  refine b_size X hH (by omega) rfl (fun hz => ?_)
  refine bGv (b_irun (rest := [.ref (B.2.2.1 + n)]) X (k_row l B (n + 1) (uE e n eRow0) n (by omega) .null (uE_s _ _ _) k K hk hk0 hK hb2) rfl bw165 bw166 bw91 bw167 kn_X5_init ⟨rfl, rfl, Nat.le_of_ble_eq_true rfl, Nat.le_of_ble_eq_true rfl⟩ hH hS hz hl rfl (Nat.le_of_ble_eq_true rfl) dX7_place_5 ⟨by show _ ≤ 6; omega, by show _ ≤ (2 * K + 4 + 2 * N2); omega⟩) hS (fun H locs hH hS => ?_)
  rw [uE_row] at hH
  refine lv_astore_n (lv' := [(2, .ref (B.2.2.1 + n)), (0, .ref (B.2.2.1 + js)), (1, .int k)]) hx hb dX7_place_8 rfl hl (by decide) rfl (fun ls hl => ?_)
  refine lv_aload_n hx hb dX7_place_9 rfl (lv_at hl 1 rfl) ?_
  refine b_get (C := RX7) (T := TX7) (N := 2) X hH js (by omega) ((uE_n _ _ (by omega)).trans ((uE_n _ _ (by omega)).trans (hes))) rfl inBX7 0 (by decide) rfl bw152 dX7_place_10 ?_
  refine lv_aload_n hx hb dX7_place_13 rfl (lv_at hl 0 rfl) ?_
  refine b_size X hH (by omega) rfl (fun hz => ?_)
  refine bGi (b_vrun (rest := []) X (k_adG l B (n + 2) (uRow B e n K) jr n (by omega) (by omega) (by omega) _ ((uE_n _ _ (by omega)).trans (uE_s _ _ _)) q ja (by omega) (by omega) f ((uE_n _ _ (by omega)).trans ((uE_n _ _ (by omega)).trans (hea))) ((uE_n _ _ (by omega)).trans ((uE_n _ _ (by omega)).trans (her))) N2 (by omega) hNN (fun i => if i < q then f i else none) N2 (k_gri l B (n + 2) _ jr ja (by omega) (by omega) (q + 1) q (uE_s _ _ _) q f ((uE_n _ _ (by omega)).trans ((uE_n _ _ (by omega)).trans ((uE_n _ _ (by omega)).trans (hea)))) (RWS.updN (fun vs h => by rw [(uE_n _ _ (by omega)).trans ((uE_n _ _ (by omega)).trans (her))] at h; cases h) (hrf.push.push)) k2 N2 hk2 hN2 hc2 (by omega) hm (nI (q + 1)) hlen h0 h1 hp)) bw177 bw178 bw179 bw90 bw180 kn_Jx4a65c_add_9ea2d ⟨rfl, rfl, Nat.le_of_ble_eq_true rfl, Nat.le_of_ble_eq_true rfl⟩ (b_rec X hH jr (by omega) ((uE_n _ _ (by omega)).trans ((uE_n _ _ (by omega)).trans (her))) rfl) hH hS hz hl rfl (Nat.le_of_ble_eq_true rfl) dX7_place_14 ⟨by show _ ≤ 6; omega, by show _ ≤ (2 * K + 4 + 2 * N2); omega⟩) hS (fun H locs hH hS => ?_)
  refine lv_pop hx hb dX7_place_17 rfl ?_
  refine lv_aload_n hx hb dX7_place_18 rfl (lv_at hl 1 rfl) ?_
  refine b_get (C := RX7) (T := TX7) (N := 2) X hH js (by omega) ((uE_n _ _ (by omega)).trans ((uE_n _ _ (by omega)).trans ((uE_n _ _ (by omega)).trans ((uE_n _ _ (by omega)).trans (hes))))) rfl inBX7 1 (by decide) rfl bw153 dX7_place_19 ?_
  refine b_new (ci := 6) (fs := [.null, .int 0]) X hH hS (by omega) rfl inBX5 tyX5 tyX5_ok bw163 bw164 bw91 (by decide) (by show _ ≤ 6; omega) (by show _ ≤ (2 * K + 4 + 2 * N2); omega) dX7_place_22 (fun H hH hS => ?_)
  refine lv_dup hx hb dX7_place_25 rfl ?_
  refine lv_iload_n hx hb dX7_place_26 rfl (lv_at hl 2 rfl) ?_
  refine b_size X hH (by omega) (by omega) (fun hz => ?_)
  refine bGv (b_irun (rest := [.ref (B.2.2.1 + (n + 3)), .ref (B.2.2.1 + jc)]) X (k_row l B ((n + 3) + 1) (uE (uE (uE (uRow B e n K) (n + 2) (eQ B N2 (va_up (fun i => if i < q then f i else none) q (some (B.2.2.1 + n))))) jr (eLst B (n + 2) (q + 1))) (n + 3) eRow0) (n + 3) (by omega) .null (uE_s _ _ _) k K hk hk0 hK hb2) rfl bw165 bw166 bw91 bw167 kn_X5_init ⟨rfl, rfl, Nat.le_of_ble_eq_true rfl, Nat.le_of_ble_eq_true rfl⟩ hH hS hz hl rfl (Nat.le_of_ble_eq_true rfl) dX7_place_27 ⟨by show _ ≤ 6; omega, by show _ ≤ (2 * K + 4 + 2 * N2); omega⟩) hS (fun H locs hH hS => ?_)
  rw [uE_row] at hH
  refine b_size X hH (by omega) (by omega) (fun hz => ?_)
  refine bGi (b_vrun (rest := []) X (k_adG l B (n + 5) (uRow B (uE (uE (uRow B e n K) (n + 2) (eQ B N2 (va_up (fun i => if i < q then f i else none) q (some (B.2.2.1 + n))))) jr (eLst B (n + 2) (q + 1))) (n + 3) K) jc (n + 3) (by omega) (by omega) (by omega) _ ((uE_n _ _ (by omega)).trans (uE_s _ _ _)) q jb (by omega) (by omega) g ((uE_n _ _ (by omega)).trans ((uE_n _ _ (by omega)).trans ((uE_n _ _ (by omega)).trans ((uE_n _ _ (by omega)).trans ((uE_n _ _ (by omega)).trans ((uE_n _ _ (by omega)).trans (heb))))))) ((uE_n _ _ (by omega)).trans ((uE_n _ _ (by omega)).trans ((uE_n _ _ (by omega)).trans ((uE_n _ _ (by omega)).trans ((uE_n _ _ (by omega)).trans ((uE_n _ _ (by omega)).trans (hec))))))) N2 (by omega) hNN (fun i => if i < q then g i else none) N2 (k_gri l B (n + 5) _ jc jb (by omega) (by omega) (q + 1) q (uE_s _ _ _) q g ((uE_n _ _ (by omega)).trans ((uE_n _ _ (by omega)).trans ((uE_n _ _ (by omega)).trans ((uE_n _ _ (by omega)).trans ((uE_n _ _ (by omega)).trans ((uE_n _ _ (by omega)).trans ((uE_n _ _ (by omega)).trans (heb)))))))) (RWS.updN (fun vs h => by rw [(uE_n _ _ (by omega)).trans ((uE_n _ _ (by omega)).trans ((uE_n _ _ (by omega)).trans ((uE_n _ _ (by omega)).trans ((uE_n _ _ (by omega)).trans ((uE_n _ _ (by omega)).trans (hec))))))] at h; cases h) ((RWS.updN (fun vs h => by rw [(uE_n _ _ (by omega)).trans ((uE_n _ _ (by omega)).trans ((uE_n _ _ (by omega)).trans (her)))] at h; cases h) (hrg.push.push.push)).push.push)) k2 N2 hk2 hN2 hc2 (by omega) hm (nI (q + 1)) hlen h0 h1 hp)) bw177 bw178 bw179 bw90 bw180 kn_Jx4a65c_add_9ea2d ⟨rfl, rfl, Nat.le_of_ble_eq_true rfl, Nat.le_of_ble_eq_true rfl⟩ (b_rec X hH jc (by omega) ((uE_n _ _ (by omega)).trans ((uE_n _ _ (by omega)).trans ((uE_n _ _ (by omega)).trans ((uE_n _ _ (by omega)).trans ((uE_n _ _ (by omega)).trans ((uE_n _ _ (by omega)).trans (hec))))))) rfl) hH hS hz hl rfl (Nat.le_of_ble_eq_true rfl) dX7_place_30 ⟨by show _ ≤ 6; omega, by show _ ≤ (2 * K + 4 + 2 * N2); omega⟩) hS (fun H locs hH hS => ?_)
  refine lv_pop hx hb dX7_place_33 rfl ?_
  refine lv_aload_n hx hb dX7_place_34 rfl (lv_at hl 0 rfl) ?_
  exact bEr X (Or.inl ⟨_, rfl⟩) hH hS (by show _ ≤ 6; omega) (by show _ ≤ (2 * K + 4 + 2 * N2); omega) dX7_place_35
