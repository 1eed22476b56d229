/-! the law from its entry on -/
set_option maxHeartbeats 4000000 in
set_option maxRecDepth 100000 in
theorem st_cl {args : Array Value} {s : State} (hts : ∀ w ∈ lw_tbl, w.before args s = true) : ∀ c : Nat, ∃ q : ClassId × (Nat → Nat), ∀ r, vwCl[c]? = some r → u_Kn s r.1 r.2.1 r.2.2 q.1 q.2 := fun c => match c with
  | 0 => by
    obtain ⟨cC, iS, h⟩ := u_known (C := RJx4a65c) (T := TJx4a65c) (N := 3) hts (fun w h => (List.mem_filter.mp (inBJx4a65c w h)).1) (hts _ (List.mem_filter.mp bw127).1)
    exact ⟨(cC, iS), fun r hr => by cases hr; exact h⟩
  | 1 => by
    obtain ⟨cC, iS, h⟩ := u_known (C := RX0) (T := TX0) (N := 8) hts (fun w h => (List.mem_filter.mp (inBX0 w h)).1) (hts _ (List.mem_filter.mp bw285).1)
    exact ⟨(cC, iS), fun r hr => by cases hr; exact h⟩
  | 2 => by
    obtain ⟨cC, iS, h⟩ := u_known (C := RX1) (T := TX1) (N := 10) hts (fun w h => (List.mem_filter.mp (inBX1 w h)).1) (hts _ (List.mem_filter.mp bw496).1)
    exact ⟨(cC, iS), fun r hr => by cases hr; exact h⟩
  | 3 => by
    obtain ⟨cC, iS, h⟩ := u_known (C := RX2) (T := TX2) (N := 5) hts (fun w h => (List.mem_filter.mp (inBX2 w h)).1) (hts _ (List.mem_filter.mp bw469).1)
    exact ⟨(cC, iS), fun r hr => by cases hr; exact h⟩
  | 4 => by
    obtain ⟨cC, iS, h⟩ := u_known (C := RX3) (T := TX3) (N := 7) hts (fun w h => (List.mem_filter.mp (inBX3 w h)).1) (hts _ (List.mem_filter.mp bw540).1)
    exact ⟨(cC, iS), fun r hr => by cases hr; exact h⟩
  | 5 => by
    obtain ⟨cC, iS, h⟩ := u_known (C := RX4) (T := TX4) (N := 5) hts (fun w h => (List.mem_filter.mp (inBX4 w h)).1) (hts _ (List.mem_filter.mp bw442).1)
    exact ⟨(cC, iS), fun r hr => by cases hr; exact h⟩
  | 6 => by
    obtain ⟨cC, iS, h⟩ := u_known (C := RX5) (T := TX5) (N := 2) hts (fun w h => (List.mem_filter.mp (inBX5 w h)).1) (hts _ (List.mem_filter.mp bw164).1)
    exact ⟨(cC, iS), fun r hr => by cases hr; exact h⟩
  | 7 => by
    obtain ⟨cC, iS, h⟩ := u_known (C := RX6) (T := TX6) (N := 16) hts (fun w h => (List.mem_filter.mp (inBX6 w h)).1) (hts _ (List.mem_filter.mp bw379).1)
    exact ⟨(cC, iS), fun r hr => by cases hr; exact h⟩
  | 8 => by
    obtain ⟨cC, iS, h⟩ := u_known (C := RX7) (T := TX7) (N := 2) hts (fun w h => (List.mem_filter.mp (inBX7 w h)).1) (hts _ (List.mem_filter.mp bw121).1)
    exact ⟨(cC, iS), fun r hr => by cases hr; exact h⟩
  | 9 => by
    obtain ⟨cC, iS, h⟩ := u_known (C := RX8) (T := TX8) (N := 6) hts (fun w h => (List.mem_filter.mp (inBX8 w h)).1) (hts _ (List.mem_filter.mp bw341).1)
    exact ⟨(cC, iS), fun r hr => by cases hr; exact h⟩
  | 10 => by
    obtain ⟨cC, iS, h⟩ := u_known (C := RX9) (T := TX9) (N := 2) hts (fun w h => (List.mem_filter.mp (inBX9 w h)).1) (hts _ (List.mem_filter.mp bw326).1)
    exact ⟨(cC, iS), fun r hr => by cases hr; exact h⟩
  | 11 => by
    obtain ⟨cC, iS, h⟩ := u_known (C := RX10) (T := TX10) (N := 10) hts (fun w h => (List.mem_filter.mp (inBX10 w h)).1) (hts _ (List.mem_filter.mp bw239).1)
    exact ⟨(cC, iS), fun r hr => by cases hr; exact h⟩
  | 12 => by
    obtain ⟨cC, iS, h⟩ := u_known (C := RX11) (T := TX11) (N := 13) hts (fun w h => (List.mem_filter.mp (inBX11 w h)).1) (hts _ (List.mem_filter.mp bw113).1)
    exact ⟨(cC, iS), fun r hr => by cases hr; exact h⟩
  | 13 => by
    obtain ⟨cC, iS, h⟩ := u_known (C := RX12) (T := TX12) (N := 30) hts (fun w h => (List.mem_filter.mp (inBX12 w h)).1) (hts _ (List.mem_filter.mp bw1374).1)
    exact ⟨(cC, iS), fun r hr => by cases hr; exact h⟩
  | n + 14 => ⟨(0, fun _ => 0), fun r hr => by cases hr⟩
theorem st_nest {args : Array Value} {s : State} (hts : ∀ w ∈ lw_tbl, w.before args s = true) : ∀ w ∈ lw_tbl, gNest w = true → va_Nw w s := by
  intro w hw hn
  have h := hts w hw
  cases w <;> first | exact va_Nw.of rfl h | (simp [gNest] at hn)
theorem st_arr {args : Array Value} {s : State} {ty : FieldType} (h : (Cond.arrayClass ty).before args s = true) : ∃ cA : ClassId, ArrOfT s cA ty ∧ s.vm.findClass ("[" ++ ty.toString) = some cA := by
  obtain ⟨cA, kA, comp, h1, h2, h3⟩ := Cond.arrayClass_spec h
  exact ⟨cA, fun n z => ⟨(fun k h => (by cases h)), kA, h2, comp, h3⟩, h1⟩
theorem st_obj {args : Array Value} {s : State} {C : String} (h : (Cond.arrayOver (.object C)).before args s = true) : ∃ cA : ClassId, ArrOfT s cA (.object C) ∧ va_RA s cA (.object C) := by
  obtain ⟨comp, cA, kA, h1, -, h2, h3, h4⟩ := Cond.arrayOver_spec h
  exact ⟨cA, fun n z => ⟨(fun k h => (by cases h)), kA, h2, comp, h3⟩, kA, comp, h2, h3, h1, h4⟩
abbrev tDf : Term := .static "java/util/ArrayList" "DEFAULTCAPACITY_EMPTY_ELEMENTDATA" "[Ljava/lang/Object;"
set_option maxHeartbeats 4000000 in
set_option maxRecDepth 100000 in
theorem st_bK {args : Array Value} {s : State} (hts : ∀ w ∈ lw_tbl, w.before args s = true) (hgv : (Jvm.Cond.and given_1 narrow_1).before args s = true) : ∃ B : BX, B.2.2.1 = s.heap.size ∧ bK B s := by
  have hs := flat_of_before _ hgv
  obtain ⟨d, hd⟩ := Classical.axiomOfChoice (st_cl hts)
  obtain ⟨cI, hI1, hI2⟩ := st_arr (ty := .int) (hts _ (List.mem_filter.mp bwAI).1)
  obtain ⟨cZ, hZ1, hZ2⟩ := st_arr (ty := .boolean) (hts _ (List.mem_filter.mp bwAZ).1)
  obtain ⟨cO, hO1, hO2⟩ := st_obj (C := "java/lang/Object") (hts _ (bt_t1 _ (List.mem_of_getElem? (i := 143) rfl)))
  have hA : ∀ a : Nat, a < s.heap.size → ¬ (fun q : Nat => s.heap.size ≤ q) a := fun a h h2 => absurd h (Nat.not_lt.mpr h2)
  obtain ⟨t, ht, hT⟩ := va_Tof (tm := tDf) (ty := .object "java/lang/Object") (N := 0) (f := fun _ => .null) (A := fun q => s.heap.size ≤ q) (by decide) (hs _ (List.mem_of_getElem? (i := 5) rfl)) (va_eqt (hs _ (List.mem_of_getElem? (i := 7) rfl))) (fun j h => absurd h (Nat.not_lt_zero j)) hA
  have hZd := va_Zof (A := fun q => s.heap.size ≤ q) (hts _ (bt_t1 _ (List.mem_of_getElem? (i := 54) rfl))) (hts _ (List.mem_filter.mp bw90).1) ht hA
  obtain ⟨mi, hmi⟩ := va_Mi.of (C := "[Ljava/lang/Object;") (hs _ (List.mem_of_getElem? (i := 13) rfl))
  refine ⟨((fun c => (d c).1, fun c => (d c).2), (cI, cZ, cO), s.heap.size, t, mi), rfl, ⟨fun c q h => hd c q h, fun k q h => ?_⟩, st_nest hts, hZd, hT, hmi, va_Dc.of (hts _ (bt_t8 _ (List.mem_of_getElem? (i := 43) rfl))), va_AO.of (hts _ (bt_t1 _ (List.mem_of_getElem? (i := 143) rfl)))⟩
  match k, h with
  | 0, h => cases h; exact ⟨hI1, hI2⟩
  | 1, h => cases h; exact ⟨hZ1, hZ2⟩
  | 2, h => cases h; exact ⟨hO1, hO2⟩
  | n + 3, h => cases h
abbrev tSt (i : Nat) : Term := .string (gSo.getD i "") (gSi.getD i 0)
abbrev tSv (i : Nat) : Term := .field (tSt i) "java/lang/String" "value" "[B"
set_option maxHeartbeats 4000000 in
set_option maxRecDepth 100000 in
theorem sm1 : ∀ i, i < 16 → Cond.exactly (tSt i) "java/lang/String" ∈ flatC (Jvm.Cond.and given_1 narrow_1) := fun i hi => match i, hi with
  | 0, _ => List.mem_of_getElem? (i := 14) rfl
  | 1, _ => List.mem_of_getElem? (i := 24) rfl
  | 2, _ => List.mem_of_getElem? (i := 34) rfl
  | 3, _ => List.mem_of_getElem? (i := 44) rfl
  | 4, _ => List.mem_of_getElem? (i := 56) rfl
  | 5, _ => List.mem_of_getElem? (i := 68) rfl
  | 6, _ => List.mem_of_getElem? (i := 82) rfl
  | 7, _ => List.mem_of_getElem? (i := 96) rfl
  | 8, _ => List.mem_of_getElem? (i := 110) rfl
  | 9, _ => List.mem_of_getElem? (i := 126) rfl
  | 10, _ => List.mem_of_getElem? (i := 144) rfl
  | 11, _ => List.mem_of_getElem? (i := 161) rfl
  | 12, _ => List.mem_of_getElem? (i := 181) rfl
  | 13, _ => List.mem_of_getElem? (i := 204) rfl
  | 14, _ => List.mem_of_getElem? (i := 227) rfl
  | 15, _ => List.mem_of_getElem? (i := 250) rfl
  | n + 16, h => absurd h (by omega)
set_option maxHeartbeats 4000000 in
set_option maxRecDepth 100000 in
theorem sm2 : ∀ i, i < 16 → Cond.eq (.field (tSt i) "java/lang/String" "coder" "B") (.int 0) ∈ flatC (Jvm.Cond.and given_1 narrow_1) := fun i hi => match i, hi with
  | 0, _ => List.mem_of_getElem? (i := 15) rfl
  | 1, _ => List.mem_of_getElem? (i := 25) rfl
  | 2, _ => List.mem_of_getElem? (i := 35) rfl
  | 3, _ => List.mem_of_getElem? (i := 45) rfl
  | 4, _ => List.mem_of_getElem? (i := 57) rfl
  | 5, _ => List.mem_of_getElem? (i := 69) rfl
  | 6, _ => List.mem_of_getElem? (i := 83) rfl
  | 7, _ => List.mem_of_getElem? (i := 97) rfl
  | 8, _ => List.mem_of_getElem? (i := 111) rfl
  | 9, _ => List.mem_of_getElem? (i := 127) rfl
  | 10, _ => List.mem_of_getElem? (i := 145) rfl
  | 11, _ => List.mem_of_getElem? (i := 162) rfl
  | 12, _ => List.mem_of_getElem? (i := 182) rfl
  | 13, _ => List.mem_of_getElem? (i := 205) rfl
  | 14, _ => List.mem_of_getElem? (i := 228) rfl
  | 15, _ => List.mem_of_getElem? (i := 251) rfl
  | n + 16, h => absurd h (by omega)
set_option maxHeartbeats 4000000 in
set_option maxRecDepth 100000 in
theorem sm3 : ∀ i, i < 16 → Cond.arrayOf (tSv i) .byte ∈ flatC (Jvm.Cond.and given_1 narrow_1) := fun i hi => match i, hi with
  | 0, _ => List.mem_of_getElem? (i := 16) rfl
  | 1, _ => List.mem_of_getElem? (i := 26) rfl
  | 2, _ => List.mem_of_getElem? (i := 36) rfl
  | 3, _ => List.mem_of_getElem? (i := 46) rfl
  | 4, _ => List.mem_of_getElem? (i := 58) rfl
  | 5, _ => List.mem_of_getElem? (i := 70) rfl
  | 6, _ => List.mem_of_getElem? (i := 84) rfl
  | 7, _ => List.mem_of_getElem? (i := 98) rfl
  | 8, _ => List.mem_of_getElem? (i := 112) rfl
  | 9, _ => List.mem_of_getElem? (i := 128) rfl
  | 10, _ => List.mem_of_getElem? (i := 146) rfl
  | 11, _ => List.mem_of_getElem? (i := 163) rfl
  | 12, _ => List.mem_of_getElem? (i := 183) rfl
  | 13, _ => List.mem_of_getElem? (i := 206) rfl
  | 14, _ => List.mem_of_getElem? (i := 229) rfl
  | 15, _ => List.mem_of_getElem? (i := 252) rfl
  | n + 16, h => absurd h (by omega)
set_option maxHeartbeats 4000000 in
set_option maxRecDepth 100000 in
theorem sm4 : ∀ i, i < 16 → Cond.eq (.length (tSv i)) (.int (Int32.ofNat (gLen.getD i 0))) ∈ flatC (Jvm.Cond.and given_1 narrow_1) := fun i hi => match i, hi with
  | 0, _ => List.mem_of_getElem? (i := 17) rfl
  | 1, _ => List.mem_of_getElem? (i := 27) rfl
  | 2, _ => List.mem_of_getElem? (i := 37) rfl
  | 3, _ => List.mem_of_getElem? (i := 47) rfl
  | 4, _ => List.mem_of_getElem? (i := 59) rfl
  | 5, _ => List.mem_of_getElem? (i := 71) rfl
  | 6, _ => List.mem_of_getElem? (i := 85) rfl
  | 7, _ => List.mem_of_getElem? (i := 99) rfl
  | 8, _ => List.mem_of_getElem? (i := 113) rfl
  | 9, _ => List.mem_of_getElem? (i := 129) rfl
  | 10, _ => List.mem_of_getElem? (i := 147) rfl
  | 11, _ => List.mem_of_getElem? (i := 164) rfl
  | 12, _ => List.mem_of_getElem? (i := 184) rfl
  | 13, _ => List.mem_of_getElem? (i := 207) rfl
  | 14, _ => List.mem_of_getElem? (i := 230) rfl
  | 15, _ => List.mem_of_getElem? (i := 253) rfl
  | n + 16, h => absurd h (by omega)
set_option maxHeartbeats 4000000 in
set_option maxRecDepth 100000 in
theorem sm5_0 : ∀ j, j < 6 → Cond.eq (.elem (tSv 0) (.int (Int32.ofNat j))) (.int ((gByt.getD 0 []).getD j 0)) ∈ flatC (Jvm.Cond.and given_1 narrow_1) := fun j hj => match j, hj with
  | 0, _ => List.mem_of_getElem? (i := 18) rfl
  | 1, _ => List.mem_of_getElem? (i := 19) rfl
  | 2, _ => List.mem_of_getElem? (i := 20) rfl
  | 3, _ => List.mem_of_getElem? (i := 21) rfl
  | 4, _ => List.mem_of_getElem? (i := 22) rfl
  | 5, _ => List.mem_of_getElem? (i := 23) rfl
  | n + 6, h => absurd h (by omega)
set_option maxHeartbeats 4000000 in
set_option maxRecDepth 100000 in
theorem sm5_1 : ∀ j, j < 5 → Cond.eq (.elem (tSv 1) (.int (Int32.ofNat j))) (.int ((gByt.getD 1 []).getD j 0)) ∈ flatC (Jvm.Cond.and given_1 narrow_1) := fun j hj => match j, hj with
  | 0, _ => List.mem_of_getElem? (i := 28) rfl
  | 1, _ => List.mem_of_getElem? (i := 29) rfl
  | 2, _ => List.mem_of_getElem? (i := 30) rfl
  | 3, _ => List.mem_of_getElem? (i := 31) rfl
  | 4, _ => List.mem_of_getElem? (i := 32) rfl
  | n + 5, h => absurd h (by omega)
set_option maxHeartbeats 4000000 in
set_option maxRecDepth 100000 in
theorem sm5_2 : ∀ j, j < 4 → Cond.eq (.elem (tSv 2) (.int (Int32.ofNat j))) (.int ((gByt.getD 2 []).getD j 0)) ∈ flatC (Jvm.Cond.and given_1 narrow_1) := fun j hj => match j, hj with
  | 0, _ => List.mem_of_getElem? (i := 38) rfl
  | 1, _ => List.mem_of_getElem? (i := 39) rfl
  | 2, _ => List.mem_of_getElem? (i := 40) rfl
  | 3, _ => List.mem_of_getElem? (i := 41) rfl
  | n + 4, h => absurd h (by omega)
set_option maxHeartbeats 4000000 in
set_option maxRecDepth 100000 in
theorem sm5_3 : ∀ j, j < 5 → Cond.eq (.elem (tSv 3) (.int (Int32.ofNat j))) (.int ((gByt.getD 3 []).getD j 0)) ∈ flatC (Jvm.Cond.and given_1 narrow_1) := fun j hj => match j, hj with
  | 0, _ => List.mem_of_getElem? (i := 48) rfl
  | 1, _ => List.mem_of_getElem? (i := 49) rfl
  | 2, _ => List.mem_of_getElem? (i := 50) rfl
  | 3, _ => List.mem_of_getElem? (i := 51) rfl
  | 4, _ => List.mem_of_getElem? (i := 52) rfl
  | n + 5, h => absurd h (by omega)
set_option maxHeartbeats 4000000 in
set_option maxRecDepth 100000 in
theorem sm5_4 : ∀ j, j < 4 → Cond.eq (.elem (tSv 4) (.int (Int32.ofNat j))) (.int ((gByt.getD 4 []).getD j 0)) ∈ flatC (Jvm.Cond.and given_1 narrow_1) := fun j hj => match j, hj with
  | 0, _ => List.mem_of_getElem? (i := 60) rfl
  | 1, _ => List.mem_of_getElem? (i := 61) rfl
  | 2, _ => List.mem_of_getElem? (i := 62) rfl
  | 3, _ => List.mem_of_getElem? (i := 63) rfl
  | n + 4, h => absurd h (by omega)
set_option maxHeartbeats 4000000 in
set_option maxRecDepth 100000 in
theorem sm5_5 : ∀ j, j < 5 → Cond.eq (.elem (tSv 5) (.int (Int32.ofNat j))) (.int ((gByt.getD 5 []).getD j 0)) ∈ flatC (Jvm.Cond.and given_1 narrow_1) := fun j hj => match j, hj with
  | 0, _ => List.mem_of_getElem? (i := 72) rfl
  | 1, _ => List.mem_of_getElem? (i := 73) rfl
  | 2, _ => List.mem_of_getElem? (i := 74) rfl
  | 3, _ => List.mem_of_getElem? (i := 75) rfl
  | 4, _ => List.mem_of_getElem? (i := 76) rfl
  | n + 5, h => absurd h (by omega)
set_option maxHeartbeats 4000000 in
set_option maxRecDepth 100000 in
theorem sm5_6 : ∀ j, j < 4 → Cond.eq (.elem (tSv 6) (.int (Int32.ofNat j))) (.int ((gByt.getD 6 []).getD j 0)) ∈ flatC (Jvm.Cond.and given_1 narrow_1) := fun j hj => match j, hj with
  | 0, _ => List.mem_of_getElem? (i := 86) rfl
  | 1, _ => List.mem_of_getElem? (i := 87) rfl
  | 2, _ => List.mem_of_getElem? (i := 88) rfl
  | 3, _ => List.mem_of_getElem? (i := 89) rfl
  | n + 4, h => absurd h (by omega)
set_option maxHeartbeats 4000000 in
set_option maxRecDepth 100000 in
theorem sm5_7 : ∀ j, j < 3 → Cond.eq (.elem (tSv 7) (.int (Int32.ofNat j))) (.int ((gByt.getD 7 []).getD j 0)) ∈ flatC (Jvm.Cond.and given_1 narrow_1) := fun j hj => match j, hj with
  | 0, _ => List.mem_of_getElem? (i := 100) rfl
  | 1, _ => List.mem_of_getElem? (i := 101) rfl
  | 2, _ => List.mem_of_getElem? (i := 102) rfl
  | n + 3, h => absurd h (by omega)
set_option maxHeartbeats 4000000 in
set_option maxRecDepth 100000 in
theorem sm5_8 : ∀ j, j < 4 → Cond.eq (.elem (tSv 8) (.int (Int32.ofNat j))) (.int ((gByt.getD 8 []).getD j 0)) ∈ flatC (Jvm.Cond.and given_1 narrow_1) := fun j hj => match j, hj with
  | 0, _ => List.mem_of_getElem? (i := 114) rfl
  | 1, _ => List.mem_of_getElem? (i := 115) rfl
  | 2, _ => List.mem_of_getElem? (i := 116) rfl
  | 3, _ => List.mem_of_getElem? (i := 117) rfl
  | n + 4, h => absurd h (by omega)
set_option maxHeartbeats 4000000 in
set_option maxRecDepth 100000 in
theorem sm5_9 : ∀ j, j < 5 → Cond.eq (.elem (tSv 9) (.int (Int32.ofNat j))) (.int ((gByt.getD 9 []).getD j 0)) ∈ flatC (Jvm.Cond.and given_1 narrow_1) := fun j hj => match j, hj with
  | 0, _ => List.mem_of_getElem? (i := 130) rfl
  | 1, _ => List.mem_of_getElem? (i := 131) rfl
  | 2, _ => List.mem_of_getElem? (i := 132) rfl
  | 3, _ => List.mem_of_getElem? (i := 133) rfl
  | 4, _ => List.mem_of_getElem? (i := 134) rfl
  | n + 5, h => absurd h (by omega)
set_option maxHeartbeats 4000000 in
set_option maxRecDepth 100000 in
theorem sm5_10 : ∀ j, j < 3 → Cond.eq (.elem (tSv 10) (.int (Int32.ofNat j))) (.int ((gByt.getD 10 []).getD j 0)) ∈ flatC (Jvm.Cond.and given_1 narrow_1) := fun j hj => match j, hj with
  | 0, _ => List.mem_of_getElem? (i := 148) rfl
  | 1, _ => List.mem_of_getElem? (i := 149) rfl
  | 2, _ => List.mem_of_getElem? (i := 150) rfl
  | n + 3, h => absurd h (by omega)
set_option maxHeartbeats 4000000 in
set_option maxRecDepth 100000 in
theorem sm5_11 : ∀ j, j < 5 → Cond.eq (.elem (tSv 11) (.int (Int32.ofNat j))) (.int ((gByt.getD 11 []).getD j 0)) ∈ flatC (Jvm.Cond.and given_1 narrow_1) := fun j hj => match j, hj with
  | 0, _ => List.mem_of_getElem? (i := 165) rfl
  | 1, _ => List.mem_of_getElem? (i := 166) rfl
  | 2, _ => List.mem_of_getElem? (i := 167) rfl
  | 3, _ => List.mem_of_getElem? (i := 168) rfl
  | 4, _ => List.mem_of_getElem? (i := 169) rfl
  | n + 5, h => absurd h (by omega)
set_option maxHeartbeats 4000000 in
set_option maxRecDepth 100000 in
theorem sm5_12 : ∀ j, j < 7 → Cond.eq (.elem (tSv 12) (.int (Int32.ofNat j))) (.int ((gByt.getD 12 []).getD j 0)) ∈ flatC (Jvm.Cond.and given_1 narrow_1) := fun j hj => match j, hj with
  | 0, _ => List.mem_of_getElem? (i := 185) rfl
  | 1, _ => List.mem_of_getElem? (i := 186) rfl
  | 2, _ => List.mem_of_getElem? (i := 187) rfl
  | 3, _ => List.mem_of_getElem? (i := 188) rfl
  | 4, _ => List.mem_of_getElem? (i := 189) rfl
  | 5, _ => List.mem_of_getElem? (i := 190) rfl
  | 6, _ => List.mem_of_getElem? (i := 191) rfl
  | n + 7, h => absurd h (by omega)
set_option maxHeartbeats 4000000 in
set_option maxRecDepth 100000 in
theorem sm5_13 : ∀ j, j < 6 → Cond.eq (.elem (tSv 13) (.int (Int32.ofNat j))) (.int ((gByt.getD 13 []).getD j 0)) ∈ flatC (Jvm.Cond.and given_1 narrow_1) := fun j hj => match j, hj with
  | 0, _ => List.mem_of_getElem? (i := 208) rfl
  | 1, _ => List.mem_of_getElem? (i := 209) rfl
  | 2, _ => List.mem_of_getElem? (i := 210) rfl
  | 3, _ => List.mem_of_getElem? (i := 211) rfl
  | 4, _ => List.mem_of_getElem? (i := 212) rfl
  | 5, _ => List.mem_of_getElem? (i := 213) rfl
  | n + 6, h => absurd h (by omega)
set_option maxHeartbeats 4000000 in
set_option maxRecDepth 100000 in
theorem sm5_14 : ∀ j, j < 5 → Cond.eq (.elem (tSv 14) (.int (Int32.ofNat j))) (.int ((gByt.getD 14 []).getD j 0)) ∈ flatC (Jvm.Cond.and given_1 narrow_1) := fun j hj => match j, hj with
  | 0, _ => List.mem_of_getElem? (i := 231) rfl
  | 1, _ => List.mem_of_getElem? (i := 232) rfl
  | 2, _ => List.mem_of_getElem? (i := 233) rfl
  | 3, _ => List.mem_of_getElem? (i := 234) rfl
  | 4, _ => List.mem_of_getElem? (i := 235) rfl
  | n + 5, h => absurd h (by omega)
set_option maxHeartbeats 4000000 in
set_option maxRecDepth 100000 in
theorem sm5_15 : ∀ j, j < 5 → Cond.eq (.elem (tSv 15) (.int (Int32.ofNat j))) (.int ((gByt.getD 15 []).getD j 0)) ∈ flatC (Jvm.Cond.and given_1 narrow_1) := fun j hj => match j, hj with
  | 0, _ => List.mem_of_getElem? (i := 254) rfl
  | 1, _ => List.mem_of_getElem? (i := 255) rfl
  | 2, _ => List.mem_of_getElem? (i := 256) rfl
  | 3, _ => List.mem_of_getElem? (i := 257) rfl
  | 4, _ => List.mem_of_getElem? (i := 258) rfl
  | n + 5, h => absurd h (by omega)
set_option maxHeartbeats 4000000 in
set_option maxRecDepth 100000 in
theorem sm5 : ∀ i, i < 16 → ∀ j, j < gLen.getD i 0 → Cond.eq (.elem (tSv i) (.int (Int32.ofNat j))) (.int ((gByt.getD i []).getD j 0)) ∈ flatC (Jvm.Cond.and given_1 narrow_1) := fun i hi => match i, hi with
  | 0, _ => sm5_0
  | 1, _ => sm5_1
  | 2, _ => sm5_2
  | 3, _ => sm5_3
  | 4, _ => sm5_4
  | 5, _ => sm5_5
  | 6, _ => sm5_6
  | 7, _ => sm5_7
  | 8, _ => sm5_8
  | 9, _ => sm5_9
  | 10, _ => sm5_10
  | 11, _ => sm5_11
  | 12, _ => sm5_12
  | 13, _ => sm5_13
  | 14, _ => sm5_14
  | 15, _ => sm5_15
  | n + 16, h => absurd h (by omega)
set_option maxHeartbeats 4000000 in
set_option maxRecDepth 100000 in
theorem sm6_0 : ∀ j, j < 16 → 0 ≠ j → Cond.not (Cond.eq (tSt 0) (tSt j)) ∈ flatC (Jvm.Cond.and given_1 narrow_1) ∨ Cond.not (Cond.eq (tSt j) (tSt 0)) ∈ flatC (Jvm.Cond.and given_1 narrow_1) := fun j hj => match j, hj with
  | 0, _ => fun h => absurd rfl h
  | 1, _ => fun h => .inl (List.mem_of_getElem? (i := 33) rfl)
  | 2, _ => fun h => .inl (List.mem_of_getElem? (i := 42) rfl)
  | 3, _ => fun h => .inl (List.mem_of_getElem? (i := 53) rfl)
  | 4, _ => fun h => .inl (List.mem_of_getElem? (i := 64) rfl)
  | 5, _ => fun h => .inl (List.mem_of_getElem? (i := 77) rfl)
  | 6, _ => fun h => .inl (List.mem_of_getElem? (i := 90) rfl)
  | 7, _ => fun h => .inl (List.mem_of_getElem? (i := 103) rfl)
  | 8, _ => fun h => .inl (List.mem_of_getElem? (i := 118) rfl)
  | 9, _ => fun h => .inl (List.mem_of_getElem? (i := 135) rfl)
  | 10, _ => fun h => .inl (List.mem_of_getElem? (i := 151) rfl)
  | 11, _ => fun h => .inl (List.mem_of_getElem? (i := 170) rfl)
  | 12, _ => fun h => .inl (List.mem_of_getElem? (i := 192) rfl)
  | 13, _ => fun h => .inl (List.mem_of_getElem? (i := 214) rfl)
  | 14, _ => fun h => .inl (List.mem_of_getElem? (i := 236) rfl)
  | 15, _ => fun h => .inl (List.mem_of_getElem? (i := 259) rfl)
  | n + 16, h => absurd h (by omega)
set_option maxHeartbeats 4000000 in
set_option maxRecDepth 100000 in
theorem sm6_1 : ∀ j, j < 16 → 1 ≠ j → Cond.not (Cond.eq (tSt 1) (tSt j)) ∈ flatC (Jvm.Cond.and given_1 narrow_1) ∨ Cond.not (Cond.eq (tSt j) (tSt 1)) ∈ flatC (Jvm.Cond.and given_1 narrow_1) := fun j hj => match j, hj with
  | 0, _ => fun h => .inr (List.mem_of_getElem? (i := 33) rfl)
  | 1, _ => fun h => absurd rfl h
  | 2, _ => fun h => .inl (List.mem_of_getElem? (i := 43) rfl)
  | 3, _ => fun h => .inl (List.mem_of_getElem? (i := 54) rfl)
  | 4, _ => fun h => .inl (List.mem_of_getElem? (i := 65) rfl)
  | 5, _ => fun h => .inl (List.mem_of_getElem? (i := 78) rfl)
  | 6, _ => fun h => .inl (List.mem_of_getElem? (i := 91) rfl)
  | 7, _ => fun h => .inl (List.mem_of_getElem? (i := 104) rfl)
  | 8, _ => fun h => .inl (List.mem_of_getElem? (i := 119) rfl)
  | 9, _ => fun h => .inl (List.mem_of_getElem? (i := 136) rfl)
  | 10, _ => fun h => .inl (List.mem_of_getElem? (i := 152) rfl)
  | 11, _ => fun h => .inl (List.mem_of_getElem? (i := 171) rfl)
  | 12, _ => fun h => .inl (List.mem_of_getElem? (i := 193) rfl)
  | 13, _ => fun h => .inl (List.mem_of_getElem? (i := 215) rfl)
  | 14, _ => fun h => .inl (List.mem_of_getElem? (i := 237) rfl)
  | 15, _ => fun h => .inl (List.mem_of_getElem? (i := 260) rfl)
  | n + 16, h => absurd h (by omega)
set_option maxHeartbeats 4000000 in
set_option maxRecDepth 100000 in
theorem sm6_2 : ∀ j, j < 16 → 2 ≠ j → Cond.not (Cond.eq (tSt 2) (tSt j)) ∈ flatC (Jvm.Cond.and given_1 narrow_1) ∨ Cond.not (Cond.eq (tSt j) (tSt 2)) ∈ flatC (Jvm.Cond.and given_1 narrow_1) := fun j hj => match j, hj with
  | 0, _ => fun h => .inr (List.mem_of_getElem? (i := 42) rfl)
  | 1, _ => fun h => .inr (List.mem_of_getElem? (i := 43) rfl)
  | 2, _ => fun h => absurd rfl h
  | 3, _ => fun h => .inl (List.mem_of_getElem? (i := 55) rfl)
  | 4, _ => fun h => .inl (List.mem_of_getElem? (i := 66) rfl)
  | 5, _ => fun h => .inl (List.mem_of_getElem? (i := 79) rfl)
  | 6, _ => fun h => .inl (List.mem_of_getElem? (i := 92) rfl)
  | 7, _ => fun h => .inl (List.mem_of_getElem? (i := 105) rfl)
  | 8, _ => fun h => .inl (List.mem_of_getElem? (i := 120) rfl)
  | 9, _ => fun h => .inl (List.mem_of_getElem? (i := 137) rfl)
  | 10, _ => fun h => .inl (List.mem_of_getElem? (i := 153) rfl)
  | 11, _ => fun h => .inl (List.mem_of_getElem? (i := 172) rfl)
  | 12, _ => fun h => .inl (List.mem_of_getElem? (i := 194) rfl)
  | 13, _ => fun h => .inl (List.mem_of_getElem? (i := 216) rfl)
  | 14, _ => fun h => .inl (List.mem_of_getElem? (i := 238) rfl)
  | 15, _ => fun h => .inl (List.mem_of_getElem? (i := 261) rfl)
  | n + 16, h => absurd h (by omega)
set_option maxHeartbeats 4000000 in
set_option maxRecDepth 100000 in
theorem sm6_3 : ∀ j, j < 16 → 3 ≠ j → Cond.not (Cond.eq (tSt 3) (tSt j)) ∈ flatC (Jvm.Cond.and given_1 narrow_1) ∨ Cond.not (Cond.eq (tSt j) (tSt 3)) ∈ flatC (Jvm.Cond.and given_1 narrow_1) := fun j hj => match j, hj with
  | 0, _ => fun h => .inr (List.mem_of_getElem? (i := 53) rfl)
  | 1, _ => fun h => .inr (List.mem_of_getElem? (i := 54) rfl)
  | 2, _ => fun h => .inr (List.mem_of_getElem? (i := 55) rfl)
  | 3, _ => fun h => absurd rfl h
  | 4, _ => fun h => .inl (List.mem_of_getElem? (i := 67) rfl)
  | 5, _ => fun h => .inl (List.mem_of_getElem? (i := 80) rfl)
  | 6, _ => fun h => .inl (List.mem_of_getElem? (i := 93) rfl)
  | 7, _ => fun h => .inl (List.mem_of_getElem? (i := 106) rfl)
  | 8, _ => fun h => .inl (List.mem_of_getElem? (i := 121) rfl)
  | 9, _ => fun h => .inl (List.mem_of_getElem? (i := 138) rfl)
  | 10, _ => fun h => .inl (List.mem_of_getElem? (i := 154) rfl)
  | 11, _ => fun h => .inl (List.mem_of_getElem? (i := 173) rfl)
  | 12, _ => fun h => .inl (List.mem_of_getElem? (i := 195) rfl)
  | 13, _ => fun h => .inl (List.mem_of_getElem? (i := 217) rfl)
  | 14, _ => fun h => .inl (List.mem_of_getElem? (i := 239) rfl)
  | 15, _ => fun h => .inl (List.mem_of_getElem? (i := 262) rfl)
  | n + 16, h => absurd h (by omega)
set_option maxHeartbeats 4000000 in
set_option maxRecDepth 100000 in
theorem sm6_4 : ∀ j, j < 16 → 4 ≠ j → Cond.not (Cond.eq (tSt 4) (tSt j)) ∈ flatC (Jvm.Cond.and given_1 narrow_1) ∨ Cond.not (Cond.eq (tSt j) (tSt 4)) ∈ flatC (Jvm.Cond.and given_1 narrow_1) := fun j hj => match j, hj with
  | 0, _ => fun h => .inr (List.mem_of_getElem? (i := 64) rfl)
  | 1, _ => fun h => .inr (List.mem_of_getElem? (i := 65) rfl)
  | 2, _ => fun h => .inr (List.mem_of_getElem? (i := 66) rfl)
  | 3, _ => fun h => .inr (List.mem_of_getElem? (i := 67) rfl)
  | 4, _ => fun h => absurd rfl h
  | 5, _ => fun h => .inl (List.mem_of_getElem? (i := 81) rfl)
  | 6, _ => fun h => .inl (List.mem_of_getElem? (i := 94) rfl)
  | 7, _ => fun h => .inl (List.mem_of_getElem? (i := 107) rfl)
  | 8, _ => fun h => .inl (List.mem_of_getElem? (i := 122) rfl)
  | 9, _ => fun h => .inl (List.mem_of_getElem? (i := 139) rfl)
  | 10, _ => fun h => .inl (List.mem_of_getElem? (i := 155) rfl)
  | 11, _ => fun h => .inl (List.mem_of_getElem? (i := 174) rfl)
  | 12, _ => fun h => .inl (List.mem_of_getElem? (i := 196) rfl)
  | 13, _ => fun h => .inl (List.mem_of_getElem? (i := 218) rfl)
  | 14, _ => fun h => .inl (List.mem_of_getElem? (i := 240) rfl)
  | 15, _ => fun h => .inl (List.mem_of_getElem? (i := 263) rfl)
  | n + 16, h => absurd h (by omega)
set_option maxHeartbeats 4000000 in
set_option maxRecDepth 100000 in
theorem sm6_5 : ∀ j, j < 16 → 5 ≠ j → Cond.not (Cond.eq (tSt 5) (tSt j)) ∈ flatC (Jvm.Cond.and given_1 narrow_1) ∨ Cond.not (Cond.eq (tSt j) (tSt 5)) ∈ flatC (Jvm.Cond.and given_1 narrow_1) := fun j hj => match j, hj with
  | 0, _ => fun h => .inr (List.mem_of_getElem? (i := 77) rfl)
  | 1, _ => fun h => .inr (List.mem_of_getElem? (i := 78) rfl)
  | 2, _ => fun h => .inr (List.mem_of_getElem? (i := 79) rfl)
  | 3, _ => fun h => .inr (List.mem_of_getElem? (i := 80) rfl)
  | 4, _ => fun h => .inr (List.mem_of_getElem? (i := 81) rfl)
  | 5, _ => fun h => absurd rfl h
  | 6, _ => fun h => .inl (List.mem_of_getElem? (i := 95) rfl)
  | 7, _ => fun h => .inl (List.mem_of_getElem? (i := 108) rfl)
  | 8, _ => fun h => .inl (List.mem_of_getElem? (i := 123) rfl)
  | 9, _ => fun h => .inl (List.mem_of_getElem? (i := 140) rfl)
  | 10, _ => fun h => .inl (List.mem_of_getElem? (i := 156) rfl)
  | 11, _ => fun h => .inl (List.mem_of_getElem? (i := 175) rfl)
  | 12, _ => fun h => .inl (List.mem_of_getElem? (i := 197) rfl)
  | 13, _ => fun h => .inl (List.mem_of_getElem? (i := 219) rfl)
  | 14, _ => fun h => .inl (List.mem_of_getElem? (i := 241) rfl)
  | 15, _ => fun h => .inl (List.mem_of_getElem? (i := 264) rfl)
  | n + 16, h => absurd h (by omega)
set_option maxHeartbeats 4000000 in
set_option maxRecDepth 100000 in
theorem sm6_6 : ∀ j, j < 16 → 6 ≠ j → Cond.not (Cond.eq (tSt 6) (tSt j)) ∈ flatC (Jvm.Cond.and given_1 narrow_1) ∨ Cond.not (Cond.eq (tSt j) (tSt 6)) ∈ flatC (Jvm.Cond.and given_1 narrow_1) := fun j hj => match j, hj with
  | 0, _ => fun h => .inr (List.mem_of_getElem? (i := 90) rfl)
  | 1, _ => fun h => .inr (List.mem_of_getElem? (i := 91) rfl)
  | 2, _ => fun h => .inr (List.mem_of_getElem? (i := 92) rfl)
  | 3, _ => fun h => .inr (List.mem_of_getElem? (i := 93) rfl)
  | 4, _ => fun h => .inr (List.mem_of_getElem? (i := 94) rfl)
  | 5, _ => fun h => .inr (List.mem_of_getElem? (i := 95) rfl)
  | 6, _ => fun h => absurd rfl h
  | 7, _ => fun h => .inl (List.mem_of_getElem? (i := 109) rfl)
  | 8, _ => fun h => .inl (List.mem_of_getElem? (i := 124) rfl)
  | 9, _ => fun h => .inl (List.mem_of_getElem? (i := 141) rfl)
  | 10, _ => fun h => .inl (List.mem_of_getElem? (i := 157) rfl)
  | 11, _ => fun h => .inl (List.mem_of_getElem? (i := 176) rfl)
  | 12, _ => fun h => .inl (List.mem_of_getElem? (i := 198) rfl)
  | 13, _ => fun h => .inl (List.mem_of_getElem? (i := 220) rfl)
  | 14, _ => fun h => .inl (List.mem_of_getElem? (i := 242) rfl)
  | 15, _ => fun h => .inl (List.mem_of_getElem? (i := 265) rfl)
  | n + 16, h => absurd h (by omega)
set_option maxHeartbeats 4000000 in
set_option maxRecDepth 100000 in
theorem sm6_7 : ∀ j, j < 16 → 7 ≠ j → Cond.not (Cond.eq (tSt 7) (tSt j)) ∈ flatC (Jvm.Cond.and given_1 narrow_1) ∨ Cond.not (Cond.eq (tSt j) (tSt 7)) ∈ flatC (Jvm.Cond.and given_1 narrow_1) := fun j hj => match j, hj with
  | 0, _ => fun h => .inr (List.mem_of_getElem? (i := 103) rfl)
  | 1, _ => fun h => .inr (List.mem_of_getElem? (i := 104) rfl)
  | 2, _ => fun h => .inr (List.mem_of_getElem? (i := 105) rfl)
  | 3, _ => fun h => .inr (List.mem_of_getElem? (i := 106) rfl)
  | 4, _ => fun h => .inr (List.mem_of_getElem? (i := 107) rfl)
  | 5, _ => fun h => .inr (List.mem_of_getElem? (i := 108) rfl)
  | 6, _ => fun h => .inr (List.mem_of_getElem? (i := 109) rfl)
  | 7, _ => fun h => absurd rfl h
  | 8, _ => fun h => .inl (List.mem_of_getElem? (i := 125) rfl)
  | 9, _ => fun h => .inl (List.mem_of_getElem? (i := 142) rfl)
  | 10, _ => fun h => .inl (List.mem_of_getElem? (i := 158) rfl)
  | 11, _ => fun h => .inl (List.mem_of_getElem? (i := 177) rfl)
  | 12, _ => fun h => .inl (List.mem_of_getElem? (i := 199) rfl)
  | 13, _ => fun h => .inl (List.mem_of_getElem? (i := 221) rfl)
  | 14, _ => fun h => .inl (List.mem_of_getElem? (i := 243) rfl)
  | 15, _ => fun h => .inl (List.mem_of_getElem? (i := 266) rfl)
  | n + 16, h => absurd h (by omega)
set_option maxHeartbeats 4000000 in
set_option maxRecDepth 100000 in
theorem sm6_8 : ∀ j, j < 16 → 8 ≠ j → Cond.not (Cond.eq (tSt 8) (tSt j)) ∈ flatC (Jvm.Cond.and given_1 narrow_1) ∨ Cond.not (Cond.eq (tSt j) (tSt 8)) ∈ flatC (Jvm.Cond.and given_1 narrow_1) := fun j hj => match j, hj with
  | 0, _ => fun h => .inr (List.mem_of_getElem? (i := 118) rfl)
  | 1, _ => fun h => .inr (List.mem_of_getElem? (i := 119) rfl)
  | 2, _ => fun h => .inr (List.mem_of_getElem? (i := 120) rfl)
  | 3, _ => fun h => .inr (List.mem_of_getElem? (i := 121) rfl)
  | 4, _ => fun h => .inr (List.mem_of_getElem? (i := 122) rfl)
  | 5, _ => fun h => .inr (List.mem_of_getElem? (i := 123) rfl)
  | 6, _ => fun h => .inr (List.mem_of_getElem? (i := 124) rfl)
  | 7, _ => fun h => .inr (List.mem_of_getElem? (i := 125) rfl)
  | 8, _ => fun h => absurd rfl h
  | 9, _ => fun h => .inl (List.mem_of_getElem? (i := 143) rfl)
  | 10, _ => fun h => .inl (List.mem_of_getElem? (i := 159) rfl)
  | 11, _ => fun h => .inl (List.mem_of_getElem? (i := 178) rfl)
  | 12, _ => fun h => .inl (List.mem_of_getElem? (i := 200) rfl)
  | 13, _ => fun h => .inl (List.mem_of_getElem? (i := 222) rfl)
  | 14, _ => fun h => .inl (List.mem_of_getElem? (i := 244) rfl)
  | 15, _ => fun h => .inl (List.mem_of_getElem? (i := 267) rfl)
  | n + 16, h => absurd h (by omega)
set_option maxHeartbeats 4000000 in
set_option maxRecDepth 100000 in
theorem sm6_9 : ∀ j, j < 16 → 9 ≠ j → Cond.not (Cond.eq (tSt 9) (tSt j)) ∈ flatC (Jvm.Cond.and given_1 narrow_1) ∨ Cond.not (Cond.eq (tSt j) (tSt 9)) ∈ flatC (Jvm.Cond.and given_1 narrow_1) := fun j hj => match j, hj with
  | 0, _ => fun h => .inr (List.mem_of_getElem? (i := 135) rfl)
  | 1, _ => fun h => .inr (List.mem_of_getElem? (i := 136) rfl)
  | 2, _ => fun h => .inr (List.mem_of_getElem? (i := 137) rfl)
  | 3, _ => fun h => .inr (List.mem_of_getElem? (i := 138) rfl)
  | 4, _ => fun h => .inr (List.mem_of_getElem? (i := 139) rfl)
  | 5, _ => fun h => .inr (List.mem_of_getElem? (i := 140) rfl)
  | 6, _ => fun h => .inr (List.mem_of_getElem? (i := 141) rfl)
  | 7, _ => fun h => .inr (List.mem_of_getElem? (i := 142) rfl)
  | 8, _ => fun h => .inr (List.mem_of_getElem? (i := 143) rfl)
  | 9, _ => fun h => absurd rfl h
  | 10, _ => fun h => .inl (List.mem_of_getElem? (i := 160) rfl)
  | 11, _ => fun h => .inl (List.mem_of_getElem? (i := 179) rfl)
  | 12, _ => fun h => .inl (List.mem_of_getElem? (i := 201) rfl)
  | 13, _ => fun h => .inl (List.mem_of_getElem? (i := 223) rfl)
  | 14, _ => fun h => .inl (List.mem_of_getElem? (i := 245) rfl)
  | 15, _ => fun h => .inl (List.mem_of_getElem? (i := 268) rfl)
  | n + 16, h => absurd h (by omega)
set_option maxHeartbeats 4000000 in
set_option maxRecDepth 100000 in
theorem sm6_10 : ∀ j, j < 16 → 10 ≠ j → Cond.not (Cond.eq (tSt 10) (tSt j)) ∈ flatC (Jvm.Cond.and given_1 narrow_1) ∨ Cond.not (Cond.eq (tSt j) (tSt 10)) ∈ flatC (Jvm.Cond.and given_1 narrow_1) := fun j hj => match j, hj with
  | 0, _ => fun h => .inr (List.mem_of_getElem? (i := 151) rfl)
  | 1, _ => fun h => .inr (List.mem_of_getElem? (i := 152) rfl)
  | 2, _ => fun h => .inr (List.mem_of_getElem? (i := 153) rfl)
  | 3, _ => fun h => .inr (List.mem_of_getElem? (i := 154) rfl)
  | 4, _ => fun h => .inr (List.mem_of_getElem? (i := 155) rfl)
  | 5, _ => fun h => .inr (List.mem_of_getElem? (i := 156) rfl)
  | 6, _ => fun h => .inr (List.mem_of_getElem? (i := 157) rfl)
  | 7, _ => fun h => .inr (List.mem_of_getElem? (i := 158) rfl)
  | 8, _ => fun h => .inr (List.mem_of_getElem? (i := 159) rfl)
  | 9, _ => fun h => .inr (List.mem_of_getElem? (i := 160) rfl)
  | 10, _ => fun h => absurd rfl h
  | 11, _ => fun h => .inl (List.mem_of_getElem? (i := 180) rfl)
  | 12, _ => fun h => .inl (List.mem_of_getElem? (i := 202) rfl)
  | 13, _ => fun h => .inl (List.mem_of_getElem? (i := 224) rfl)
  | 14, _ => fun h => .inl (List.mem_of_getElem? (i := 246) rfl)
  | 15, _ => fun h => .inl (List.mem_of_getElem? (i := 269) rfl)
  | n + 16, h => absurd h (by omega)
set_option maxHeartbeats 4000000 in
set_option maxRecDepth 100000 in
theorem sm6_11 : ∀ j, j < 16 → 11 ≠ j → Cond.not (Cond.eq (tSt 11) (tSt j)) ∈ flatC (Jvm.Cond.and given_1 narrow_1) ∨ Cond.not (Cond.eq (tSt j) (tSt 11)) ∈ flatC (Jvm.Cond.and given_1 narrow_1) := fun j hj => match j, hj with
  | 0, _ => fun h => .inr (List.mem_of_getElem? (i := 170) rfl)
  | 1, _ => fun h => .inr (List.mem_of_getElem? (i := 171) rfl)
  | 2, _ => fun h => .inr (List.mem_of_getElem? (i := 172) rfl)
  | 3, _ => fun h => .inr (List.mem_of_getElem? (i := 173) rfl)
  | 4, _ => fun h => .inr (List.mem_of_getElem? (i := 174) rfl)
  | 5, _ => fun h => .inr (List.mem_of_getElem? (i := 175) rfl)
  | 6, _ => fun h => .inr (List.mem_of_getElem? (i := 176) rfl)
  | 7, _ => fun h => .inr (List.mem_of_getElem? (i := 177) rfl)
  | 8, _ => fun h => .inr (List.mem_of_getElem? (i := 178) rfl)
  | 9, _ => fun h => .inr (List.mem_of_getElem? (i := 179) rfl)
  | 10, _ => fun h => .inr (List.mem_of_getElem? (i := 180) rfl)
  | 11, _ => fun h => absurd rfl h
  | 12, _ => fun h => .inl (List.mem_of_getElem? (i := 203) rfl)
  | 13, _ => fun h => .inl (List.mem_of_getElem? (i := 225) rfl)
  | 14, _ => fun h => .inl (List.mem_of_getElem? (i := 247) rfl)
  | 15, _ => fun h => .inl (List.mem_of_getElem? (i := 270) rfl)
  | n + 16, h => absurd h (by omega)
set_option maxHeartbeats 4000000 in
set_option maxRecDepth 100000 in
theorem sm6_12 : ∀ j, j < 16 → 12 ≠ j → Cond.not (Cond.eq (tSt 12) (tSt j)) ∈ flatC (Jvm.Cond.and given_1 narrow_1) ∨ Cond.not (Cond.eq (tSt j) (tSt 12)) ∈ flatC (Jvm.Cond.and given_1 narrow_1) := fun j hj => match j, hj with
  | 0, _ => fun h => .inr (List.mem_of_getElem? (i := 192) rfl)
  | 1, _ => fun h => .inr (List.mem_of_getElem? (i := 193) rfl)
  | 2, _ => fun h => .inr (List.mem_of_getElem? (i := 194) rfl)
  | 3, _ => fun h => .inr (List.mem_of_getElem? (i := 195) rfl)
  | 4, _ => fun h => .inr (List.mem_of_getElem? (i := 196) rfl)
  | 5, _ => fun h => .inr (List.mem_of_getElem? (i := 197) rfl)
  | 6, _ => fun h => .inr (List.mem_of_getElem? (i := 198) rfl)
  | 7, _ => fun h => .inr (List.mem_of_getElem? (i := 199) rfl)
  | 8, _ => fun h => .inr (List.mem_of_getElem? (i := 200) rfl)
  | 9, _ => fun h => .inr (List.mem_of_getElem? (i := 201) rfl)
  | 10, _ => fun h => .inr (List.mem_of_getElem? (i := 202) rfl)
  | 11, _ => fun h => .inr (List.mem_of_getElem? (i := 203) rfl)
  | 12, _ => fun h => absurd rfl h
  | 13, _ => fun h => .inl (List.mem_of_getElem? (i := 226) rfl)
  | 14, _ => fun h => .inl (List.mem_of_getElem? (i := 248) rfl)
  | 15, _ => fun h => .inl (List.mem_of_getElem? (i := 271) rfl)
  | n + 16, h => absurd h (by omega)
set_option maxHeartbeats 4000000 in
set_option maxRecDepth 100000 in
theorem sm6_13 : ∀ j, j < 16 → 13 ≠ j → Cond.not (Cond.eq (tSt 13) (tSt j)) ∈ flatC (Jvm.Cond.and given_1 narrow_1) ∨ Cond.not (Cond.eq (tSt j) (tSt 13)) ∈ flatC (Jvm.Cond.and given_1 narrow_1) := fun j hj => match j, hj with
  | 0, _ => fun h => .inr (List.mem_of_getElem? (i := 214) rfl)
  | 1, _ => fun h => .inr (List.mem_of_getElem? (i := 215) rfl)
  | 2, _ => fun h => .inr (List.mem_of_getElem? (i := 216) rfl)
  | 3, _ => fun h => .inr (List.mem_of_getElem? (i := 217) rfl)
  | 4, _ => fun h => .inr (List.mem_of_getElem? (i := 218) rfl)
  | 5, _ => fun h => .inr (List.mem_of_getElem? (i := 219) rfl)
  | 6, _ => fun h => .inr (List.mem_of_getElem? (i := 220) rfl)
  | 7, _ => fun h => .inr (List.mem_of_getElem? (i := 221) rfl)
  | 8, _ => fun h => .inr (List.mem_of_getElem? (i := 222) rfl)
  | 9, _ => fun h => .inr (List.mem_of_getElem? (i := 223) rfl)
  | 10, _ => fun h => .inr (List.mem_of_getElem? (i := 224) rfl)
  | 11, _ => fun h => .inr (List.mem_of_getElem? (i := 225) rfl)
  | 12, _ => fun h => .inr (List.mem_of_getElem? (i := 226) rfl)
  | 13, _ => fun h => absurd rfl h
  | 14, _ => fun h => .inl (List.mem_of_getElem? (i := 249) rfl)
  | 15, _ => fun h => .inl (List.mem_of_getElem? (i := 272) rfl)
  | n + 16, h => absurd h (by omega)
set_option maxHeartbeats 4000000 in
set_option maxRecDepth 100000 in
theorem sm6_14 : ∀ j, j < 16 → 14 ≠ j → Cond.not (Cond.eq (tSt 14) (tSt j)) ∈ flatC (Jvm.Cond.and given_1 narrow_1) ∨ Cond.not (Cond.eq (tSt j) (tSt 14)) ∈ flatC (Jvm.Cond.and given_1 narrow_1) := fun j hj => match j, hj with
  | 0, _ => fun h => .inr (List.mem_of_getElem? (i := 236) rfl)
  | 1, _ => fun h => .inr (List.mem_of_getElem? (i := 237) rfl)
  | 2, _ => fun h => .inr (List.mem_of_getElem? (i := 238) rfl)
  | 3, _ => fun h => .inr (List.mem_of_getElem? (i := 239) rfl)
  | 4, _ => fun h => .inr (List.mem_of_getElem? (i := 240) rfl)
  | 5, _ => fun h => .inr (List.mem_of_getElem? (i := 241) rfl)
  | 6, _ => fun h => .inr (List.mem_of_getElem? (i := 242) rfl)
  | 7, _ => fun h => .inr (List.mem_of_getElem? (i := 243) rfl)
  | 8, _ => fun h => .inr (List.mem_of_getElem? (i := 244) rfl)
  | 9, _ => fun h => .inr (List.mem_of_getElem? (i := 245) rfl)
  | 10, _ => fun h => .inr (List.mem_of_getElem? (i := 246) rfl)
  | 11, _ => fun h => .inr (List.mem_of_getElem? (i := 247) rfl)
  | 12, _ => fun h => .inr (List.mem_of_getElem? (i := 248) rfl)
  | 13, _ => fun h => .inr (List.mem_of_getElem? (i := 249) rfl)
  | 14, _ => fun h => absurd rfl h
  | 15, _ => fun h => .inl (List.mem_of_getElem? (i := 273) rfl)
  | n + 16, h => absurd h (by omega)
set_option maxHeartbeats 4000000 in
set_option maxRecDepth 100000 in
theorem sm6_15 : ∀ j, j < 16 → 15 ≠ j → Cond.not (Cond.eq (tSt 15) (tSt j)) ∈ flatC (Jvm.Cond.and given_1 narrow_1) ∨ Cond.not (Cond.eq (tSt j) (tSt 15)) ∈ flatC (Jvm.Cond.and given_1 narrow_1) := fun j hj => match j, hj with
  | 0, _ => fun h => .inr (List.mem_of_getElem? (i := 259) rfl)
  | 1, _ => fun h => .inr (List.mem_of_getElem? (i := 260) rfl)
  | 2, _ => fun h => .inr (List.mem_of_getElem? (i := 261) rfl)
  | 3, _ => fun h => .inr (List.mem_of_getElem? (i := 262) rfl)
  | 4, _ => fun h => .inr (List.mem_of_getElem? (i := 263) rfl)
  | 5, _ => fun h => .inr (List.mem_of_getElem? (i := 264) rfl)
  | 6, _ => fun h => .inr (List.mem_of_getElem? (i := 265) rfl)
  | 7, _ => fun h => .inr (List.mem_of_getElem? (i := 266) rfl)
  | 8, _ => fun h => .inr (List.mem_of_getElem? (i := 267) rfl)
  | 9, _ => fun h => .inr (List.mem_of_getElem? (i := 268) rfl)
  | 10, _ => fun h => .inr (List.mem_of_getElem? (i := 269) rfl)
  | 11, _ => fun h => .inr (List.mem_of_getElem? (i := 270) rfl)
  | 12, _ => fun h => .inr (List.mem_of_getElem? (i := 271) rfl)
  | 13, _ => fun h => .inr (List.mem_of_getElem? (i := 272) rfl)
  | 14, _ => fun h => .inr (List.mem_of_getElem? (i := 273) rfl)
  | 15, _ => fun h => absurd rfl h
  | n + 16, h => absurd h (by omega)
set_option maxHeartbeats 4000000 in
set_option maxRecDepth 100000 in
theorem sm6 : ∀ i, i < 16 → ∀ j, j < 16 → i ≠ j → Cond.not (Cond.eq (tSt i) (tSt j)) ∈ flatC (Jvm.Cond.and given_1 narrow_1) ∨ Cond.not (Cond.eq (tSt j) (tSt i)) ∈ flatC (Jvm.Cond.and given_1 narrow_1) := fun i hi => match i, hi with
  | 0, _ => sm6_0
  | 1, _ => sm6_1
  | 2, _ => sm6_2
  | 3, _ => sm6_3
  | 4, _ => sm6_4
  | 5, _ => sm6_5
  | 6, _ => sm6_6
  | 7, _ => sm6_7
  | 8, _ => sm6_8
  | 9, _ => sm6_9
  | 10, _ => sm6_10
  | 11, _ => sm6_11
  | 12, _ => sm6_12
  | 13, _ => sm6_13
  | 14, _ => sm6_14
  | 15, _ => sm6_15
  | n + 16, h => absurd h (by omega)
set_option maxHeartbeats 4000000 in
set_option maxRecDepth 100000 in
theorem st_sr {args : Array Value} {s : State} (hts : ∀ w ∈ lw_tbl, w.before args s = true) : ∀ i, i < 16 → (Cond.stringRef (gSo.getD i "") (gSi.getD i 0) (gSt.getD i "")).before args s = true := fun i hi => match i, hi with
  | 0, _ => hts _ (bt_t3 _ (List.mem_of_getElem? (i := 153) rfl))
  | 1, _ => hts _ (bt_t3 _ (List.mem_of_getElem? (i := 154) rfl))
  | 2, _ => hts _ (bt_t3 _ (List.mem_of_getElem? (i := 155) rfl))
  | 3, _ => hts _ (bt_t3 _ (List.mem_of_getElem? (i := 156) rfl))
  | 4, _ => hts _ (bt_t3 _ (List.mem_of_getElem? (i := 157) rfl))
  | 5, _ => hts _ (bt_t3 _ (List.mem_of_getElem? (i := 158) rfl))
  | 6, _ => hts _ (bt_t3 _ (List.mem_of_getElem? (i := 159) rfl))
  | 7, _ => hts _ (bt_t3 _ (List.mem_of_getElem? (i := 160) rfl))
  | 8, _ => hts _ (bt_t6 _ (List.mem_of_getElem? (i := 239) rfl))
  | 9, _ => hts _ (bt_t7 _ (List.mem_of_getElem? (i := 10) rfl))
  | 10, _ => hts _ (bt_t7 _ (List.mem_of_getElem? (i := 11) rfl))
  | 11, _ => hts _ (bt_t7 _ (List.mem_of_getElem? (i := 12) rfl))
  | 12, _ => hts _ (bt_t7 _ (List.mem_of_getElem? (i := 13) rfl))
  | 13, _ => hts _ (bt_t7 _ (List.mem_of_getElem? (i := 14) rfl))
  | 14, _ => hts _ (bt_t7 _ (List.mem_of_getElem? (i := 15) rfl))
  | 15, _ => hts _ (bt_t7 _ (List.mem_of_getElem? (i := 16) rfl))
  | n + 16, h => absurd h (by omega)
set_option maxHeartbeats 4000000 in
set_option maxRecDepth 100000 in
theorem st_gK {args : Array Value} {s : State} (hts : ∀ w ∈ lw_tbl, w.before args s = true) (hgv : (Jvm.Cond.and given_1 narrow_1).before args s = true) {B : BX} (hB : B.2.2.1 = s.heap.size) (hK : bK B s) : ∃ a1 a2 : Nat → Nat, gK (gB B a1 a2) s := by
  have hs := flat_of_before _ hgv
  have hA : ∀ a : Nat, a < s.heap.size → ¬ (fun q : Nat => s.heap.size ≤ q) a := fun a h h2 => absurd h (Nat.not_lt.mpr h2)
  obtain ⟨a1, a2, h1, h2⟩ := vk_Sof (N := 16) (tm := tSt) (len := gLen) (byt := gByt) (A := fun q => s.heap.size ≤ q) (fun i _ => gLen_lt i) (fun i hi => hs _ (sm1 i hi)) (fun i hi => hs _ (sm2 i hi)) (fun i hi => hs _ (sm3 i hi)) (fun i hi => hs _ (sm4 i hi)) (fun i hi j hj => hs _ (sm5 i hi j hj)) (fun i j hi hj hne => (sm6 i hi j hj hne).imp (hs _) (hs _)) hA
  have hg : ∀ q, gA (gB B a1 a2) q → s.heap.size ≤ q := fun q ⟨k, _, e⟩ => by rw [e]; show s.heap.size ≤ B.2.2.1 + OFF k; omega
  have hAg : ∀ a : Nat, a < s.heap.size → ¬ gA (gB B a1 a2) a := fun a h h2 => absurd h (Nat.not_lt.mpr (hg a h2))
  exact ⟨a1, a2, hK.1, h1.narrow hg, fun i hi => vk_R.of (st_sr hts i hi) (h2 i hi), va_Zof (hts _ (bt_t3 _ (List.mem_of_getElem? (i := 174) rfl))) (hts _ (List.mem_filter.mp bw106).1) (va_eqt (hs _ (List.mem_of_getElem? (i := 8) rfl))) hAg, va_Zqof (hts _ (bt_t3 _ (List.mem_of_getElem? (i := 191) rfl))) (hts _ (List.mem_filter.mp bw108).1) (hs _ (List.mem_of_getElem? (i := 9) rfl)) hAg, st_nest hts⟩
