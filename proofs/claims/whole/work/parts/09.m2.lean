theorem hinX6_isPost : ∀ w ∈ wsX60, w ∈ wsX6_isPost := fun _ h => List.mem_cons_of_mem _ (List.mem_append_right _ h)
set_option maxHeartbeats 4000000 in
set_option maxRecDepth 100000 in
theorem c6_isPost (l_ : Launch) (D : va_G) (k : Nat → ClassId) (b I J : Nat → Nat) (G : Nat → Nat → Nat) (x : Int32) (hf : Wf (G 0)) : Met l_ yX6_isPost wsX6_isPost ({ frames := 1, cells := 0, slots := 0, locals := 25 }) (va_Pc [.ref (b 0), .int x] (wH YT D k (mw b k I J G))) (QcRead (bI (wIn x 0 (G 0 0 - 1)))) 0 0 (fun _ => False) := by
  refine my_entry (cc := cX6_isPost) (maxL := 2) (ret := some .boolean) (by decide) rfl (Nat.le_of_ble_eq_true rfl) ?_
  intro p_ e_ s_ m_ bl_ me_ c_ hz hr hlk hB ls hl
  obtain ⟨hP, hK, hD0, -⟩ := hB
  have hD := wA.self hD0
  have hS : va_S (wA (mw b k I J G)) s_.heap s_.heap [] := va_S.rf
  have hl : lv_has ls 2 [(0, .ref (b 0)), (1, .int x)] := hl
  have f0 := hf.n2
  have f1 := hf.n9
  have f2 := hf.fr
  have f3 := hf.gd
  refine lv_iload_n hz.1 hz.2.1 dX6_isPost_0 rfl (lv_at hl 1 rfl) ?_
  refine lv_i2l (v := x.toInt64) hz.1 hz.2.1 dX6_isPost_1 (rfl) ?_
  refine lv_lconst (v := lN 0) hz.1 hz.2.1 dX6_isPost_2 (by decide) ?_
  refine lv_aload_n hz.1 hz.2.1 dX6_isPost_3 rfl (lv_at hl 0 rfl) ?_
  refine rdV (A := wA (mw b k I J G)) (As := []) (rest := [.long (lN 0), .long x.toInt64]) hz okYT (c6_line l_ D k b I J G  ) (cwV 0 hz.2.2.2.2 gX6_isPost_X6_line rfl rfl rfl (by decide +kernel) ⟨Nat.le_of_ble_eq_true rfl, Nat.le_of_ble_eq_true rfl⟩) hK trivial hP hD hS 0 6 rfl rfl rfl rfl hl.1 rfl (Nat.le_of_ble_eq_true rfl) dX6_isPost_4 ⟨Nat.zero_le _, Nat.zero_le _⟩ ?_
  refine lv_iconst (v := nI 1) hz.1 hz.2.1 dX6_isPost_7 (by decide) ?_
  refine lv_isub hz.1 hz.2.1 dX6_isPost_8 ?_
  refine toe (z := nI (((G 0) 0) - 1)) (pk_sub (by omega)) ?_
  refine lv_i2l (v := lN (((G 0) 0) - 1)) hz.1 hz.2.1 dX6_isPost_9 (nI_l (by omega)) ?_
  refine rdS (As := [.long x.toInt64, .long (lN 0), .long (lN (((G 0) 0) - 1))]) (rest := []) hz (c6_in l_ x 0 (((G 0) 0) - 1) (by omega) (by omega)) rfl (va_cwS 3 hz.2.2.2.2 gX6_isPost_X6_in rfl rfl rfl (by decide +kernel) ⟨Nat.le_of_ble_eq_true rfl, Nat.le_of_ble_eq_true rfl⟩) rfl hl.1 rfl (Nat.le_of_ble_eq_true rfl) dX6_isPost_10 ⟨Nat.zero_le _, Nat.zero_le _⟩ ?_
  exact rd_zret hz hr hlk dX6_isPost_13 (rfl)

theorem hinX6_isWire : ∀ w ∈ wsX60, w ∈ wsX6_isWire := fun _ h => List.mem_cons_of_mem _ (List.mem_append_right _ h)
set_option maxHeartbeats 4000000 in
set_option maxRecDepth 100000 in
theorem c6_isWire (l_ : Launch) (D : va_G) (k : Nat → ClassId) (b I J : Nat → Nat) (G : Nat → Nat → Nat) (x : Int32) (hf : Wf (G 0)) : Met l_ yX6_isWire wsX6_isWire ({ frames := 1, cells := 0, slots := 0, locals := 25 }) (va_Pc [.ref (b 0), .int x] (wH YT D k (mw b k I J G))) (QcRead (bI (wIn x 0 (G 0 0 - 1 - 1)))) 0 0 (fun _ => False) := by
  refine my_entry (cc := cX6_isWire) (maxL := 2) (ret := some .boolean) (by decide) rfl (Nat.le_of_ble_eq_true rfl) ?_
  intro p_ e_ s_ m_ bl_ me_ c_ hz hr hlk hB ls hl
  obtain ⟨hP, hK, hD0, -⟩ := hB
  have hD := wA.self hD0
  have hS : va_S (wA (mw b k I J G)) s_.heap s_.heap [] := va_S.rf
  have hl : lv_has ls 2 [(0, .ref (b 0)), (1, .int x)] := hl
  have f0 := hf.n2
  have f1 := hf.n9
  have f2 := hf.fr
  have f3 := hf.gd
  refine lv_iload_n hz.1 hz.2.1 dX6_isWire_0 rfl (lv_at hl 1 rfl) ?_
  refine lv_i2l (v := x.toInt64) hz.1 hz.2.1 dX6_isWire_1 (rfl) ?_
  refine lv_lconst (v := lN 0) hz.1 hz.2.1 dX6_isWire_2 (by decide) ?_
  refine lv_aload_n hz.1 hz.2.1 dX6_isWire_3 rfl (lv_at hl 0 rfl) ?_
  refine rdV (A := wA (mw b k I J G)) (As := []) (rest := [.long (lN 0), .long x.toInt64]) hz okYT (c6_wires l_ D k b I J G  (by omega)) (cwV 0 hz.2.2.2.2 gX6_isWire_X6_wires rfl rfl rfl (by decide +kernel) ⟨Nat.le_of_ble_eq_true rfl, Nat.le_of_ble_eq_true rfl⟩) hK trivial hP hD hS 0 6 rfl rfl rfl rfl hl.1 rfl (Nat.le_of_ble_eq_true rfl) dX6_isWire_4 ⟨Nat.zero_le _, Nat.zero_le _⟩ ?_
  refine lv_iconst (v := nI 1) hz.1 hz.2.1 dX6_isWire_7 (by decide) ?_
  refine lv_isub hz.1 hz.2.1 dX6_isWire_8 ?_
  refine toe (z := nI (((G 0) 0 - 1) - 1)) (pk_sub (by omega)) ?_
  refine lv_i2l (v := lN (((G 0) 0 - 1) - 1)) hz.1 hz.2.1 dX6_isWire_9 (nI_l (by omega)) ?_
  refine rdS (As := [.long x.toInt64, .long (lN 0), .long (lN (((G 0) 0 - 1) - 1))]) (rest := []) hz (c6_in l_ x 0 (((G 0) 0 - 1) - 1) (by omega) (by omega)) rfl (va_cwS 3 hz.2.2.2.2 gX6_isWire_X6_in rfl rfl rfl (by decide +kernel) ⟨Nat.le_of_ble_eq_true rfl, Nat.le_of_ble_eq_true rfl⟩) rfl hl.1 rfl (Nat.le_of_ble_eq_true rfl) dX6_isWire_10 ⟨Nat.zero_le _, Nat.zero_le _⟩ ?_
  exact rd_zret hz hr hlk dX6_isWire_13 (rfl)

set_option maxHeartbeats 4000000 in
set_option maxRecDepth 100000 in
theorem c6_isMinute (l_ : Launch) (x : Int32)  : Met l_ yX6_isMinute wsX6_isMinute ({ frames := 1, cells := 0, slots := 0, locals := 25 }) (va_Pc [.int x] (fun _ => True)) (QcRead (bI (wIn x 0 59))) 0 0 (fun _ => False) := by
  refine my_entry (cc := cX6_isMinute) (maxL := 1) (ret := some .boolean) (by decide) rfl (Nat.le_of_ble_eq_true rfl) ?_
  intro p_ e_ s_ m_ bl_ me_ c_ hz hr hlk hB ls hl
  have hl : lv_has ls 1 [(0, .int x)] := hl
  refine lv_iload_n hz.1 hz.2.1 dX6_isMinute_0 rfl (lv_at hl 0 rfl) ?_
  refine lv_i2l (v := x.toInt64) hz.1 hz.2.1 dX6_isMinute_1 (rfl) ?_
  refine lv_lconst (v := lN 0) hz.1 hz.2.1 dX6_isMinute_2 (by decide) ?_
  refine lv_ldc2 (own := RX6) (v := lN 59) hz.1 hz.2.1 hz.2.2.2.1 (hz.2.2.2.2 (.constantLong RX6 62 (59)) (List.mem_of_getElem? (i := 1) rfl)) dX6_isMinute_3 ?_
  refine rdS (As := [.long x.toInt64, .long (lN 0), .long (lN 59)]) (rest := []) hz (c6_in l_ x 0 59 (by omega) (by omega)) rfl (va_cwS 3 hz.2.2.2.2 gX6_isMinute_X6_in rfl rfl rfl (by decide +kernel) ⟨Nat.le_of_ble_eq_true rfl, Nat.le_of_ble_eq_true rfl⟩) rfl hl.1 rfl (Nat.le_of_ble_eq_true rfl) dX6_isMinute_6 ⟨Nat.zero_le _, Nat.zero_le _⟩ ?_
  exact rd_zret hz hr hlk dX6_isMinute_9 (rfl)

set_option maxHeartbeats 4000000 in
set_option maxRecDepth 100000 in
theorem c6_isStep (l_ : Launch) (x : Int32)  : Met l_ yX6_isStep wsX6_isStep ({ frames := 1, cells := 0, slots := 0, locals := 25 }) (va_Pc [.int x] (fun _ => True)) (QcRead (bI (wIn x 0 3))) 0 0 (fun _ => False) := by
  refine my_entry (cc := cX6_isStep) (maxL := 1) (ret := some .boolean) (by decide) rfl (Nat.le_of_ble_eq_true rfl) ?_
  intro p_ e_ s_ m_ bl_ me_ c_ hz hr hlk hB ls hl
  have hl : lv_has ls 1 [(0, .int x)] := hl
  refine lv_iload_n hz.1 hz.2.1 dX6_isStep_0 rfl (lv_at hl 0 rfl) ?_
  refine lv_i2l (v := x.toInt64) hz.1 hz.2.1 dX6_isStep_1 (rfl) ?_
  refine lv_lconst (v := lN 0) hz.1 hz.2.1 dX6_isStep_2 (by decide) ?_
  refine lv_ldc2 (own := RX6) (v := lN 3) hz.1 hz.2.1 hz.2.2.2.1 (hz.2.2.2.2 (.constantLong RX6 64 (3)) (List.mem_of_getElem? (i := 1) rfl)) dX6_isStep_3 ?_
  refine rdS (As := [.long x.toInt64, .long (lN 0), .long (lN 3)]) (rest := []) hz (c6_in l_ x 0 3 (by omega) (by omega)) rfl (va_cwS 3 hz.2.2.2.2 gX6_isStep_X6_in rfl rfl rfl (by decide +kernel) ⟨Nat.le_of_ble_eq_true rfl, Nat.le_of_ble_eq_true rfl⟩) rfl hl.1 rfl (Nat.le_of_ble_eq_true rfl) dX6_isStep_6 ⟨Nat.zero_le _, Nat.zero_le _⟩ ?_
  exact rd_zret hz hr hlk dX6_isStep_9 (rfl)

theorem hinX6_loud : ∀ w ∈ wsX60, w ∈ wsX6_loud := fun _ h => List.mem_cons_of_mem _ (List.mem_append_right _ h)
set_option maxHeartbeats 4000000 in
set_option maxRecDepth 100000 in
theorem c6_loud (l_ : Launch) (D : va_G) (k : Nat → ClassId) (b I J : Nat → Nat) (G : Nat → Nat → Nat) (w s : Nat) (hf : Wf (G 0)) (hw : w < 8) (hs : 1 ≤ s) (hs2 : s ≤ 3) : Met l_ yX6_loud wsX6_loud ({ frames := 0, cells := 0, slots := 0, locals := 0 }) (va_Pc [.ref (b 0), .int (nI w), .int (nI s)] (wH YT D k (mw b k I J G))) (QcRead (nI (sLoud (G 0 (3 + w)) s))) 0 0 (fun _ => False) := by
  refine my_entry (cc := cX6_loud) (maxL := 3) (ret := some .int) (by decide) rfl (Nat.le_of_ble_eq_true rfl) ?_
  intro p_ e_ s_ m_ bl_ me_ c_ hz hr hlk hB ls hl
  obtain ⟨hP, hK, hD0, -⟩ := hB
  have hD := wA.self hD0
  have hS : va_S (wA (mw b k I J G)) s_.heap s_.heap [] := va_S.rf
  have hl : lv_has ls 3 [(0, .ref (b 0)), (1, .int (nI w)), (2, .int (nI s))] := hl
  have hk := hf.kd hw
  refine lv_aload_n hz.1 hz.2.1 dX6_loud_0 rfl (lv_at hl 0 rfl) ?_
  refine rg hz hinX6_loud hK hP 0 rfl rfl 0 (by decide) (List.mem_of_getElem? (i := 1) rfl) rfl (v := .ref (b 1)) rfl dX6_loud_1 ?_
  refine lv_iconst (v := nI 3) hz.1 hz.2.1 dX6_loud_4 (by decide) ?_
  refine lv_iload_n hz.1 hz.2.1 dX6_loud_5 rfl (lv_at hl 1 rfl) ?_
  refine lv_iadd hz.1 hz.2.1 dX6_loud_6 ?_
  refine toe (z := nI (3 + w)) (nI_add _ _) ?_
  refine rald hz hK hP 1 0 rfl rfl (i := (3 + w)) (by omega) (by decide) (v := nI (G 0 (3 + w))) rfl dX6_loud_7 ?_
  by_cases sw_8_1 : G 0 (3 + w) = 1
  · refine lv_tableIn (off := 32) (tgt := 40) hz.1 hz.2.1 dX6_loud_8 (by rw [sw_8_1]; decide) (by rw [sw_8_1]; decide) (by rw [sw_8_1]; decide) (by decide) ?_
    refine lv_iload_n hz.1 hz.2.1 dX6_loud_40 rfl (lv_at hl 2 rfl) ?_
    refine lv_iconst (v := nI 2) hz.1 hz.2.1 dX6_loud_41 (by decide) ?_
    refine lv_iadd hz.1 hz.2.1 dX6_loud_42 ?_
    refine toe (z := nI (s + 2)) (nI_add _ _) ?_
    exact rd_iret hz hr hlk dX6_loud_43 (by simp [sLoud, *])
  by_cases sw_8_2 : G 0 (3 + w) = 2
  · refine lv_tableIn (off := 36) (tgt := 44) hz.1 hz.2.1 dX6_loud_8 (by rw [sw_8_2]; decide) (by rw [sw_8_2]; decide) (by rw [sw_8_2]; decide) (by decide) ?_
    refine lv_iload_n hz.1 hz.2.1 dX6_loud_44 rfl (lv_at hl 2 rfl) ?_
    refine lv_iconst (v := nI 1) hz.1 hz.2.1 dX6_loud_45 (by decide) ?_
    refine lv_isub hz.1 hz.2.1 dX6_loud_46 ?_
    refine toe (z := nI (s - 1)) (pk_sub (by omega)) ?_
    exact rd_iret hz hr hlk dX6_loud_47 (by simp [sLoud, *])
  by_cases sw_8_3 : G 0 (3 + w) = 3
  · refine lv_tableIn (off := 36) (tgt := 44) hz.1 hz.2.1 dX6_loud_8 (by rw [sw_8_3]; decide) (by rw [sw_8_3]; decide) (by rw [sw_8_3]; decide) (by decide) ?_
    refine lv_iload_n hz.1 hz.2.1 dX6_loud_44 rfl (lv_at hl 2 rfl) ?_
    refine lv_iconst (v := nI 1) hz.1 hz.2.1 dX6_loud_45 (by decide) ?_
    refine lv_isub hz.1 hz.2.1 dX6_loud_46 ?_
    refine toe (z := nI (s - 1)) (pk_sub (by omega)) ?_
    exact rd_iret hz hr hlk dX6_loud_47 (by simp [sLoud, *])
  by_cases sw_8_4 : G 0 (3 + w) = 4
  · refine lv_tableIn (off := 40) (tgt := 48) hz.1 hz.2.1 dX6_loud_8 (by rw [sw_8_4]; decide) (by rw [sw_8_4]; decide) (by rw [sw_8_4]; decide) (by decide) ?_
    refine lv_iconst (v := nI 0) hz.1 hz.2.1 dX6_loud_48 (by decide) ?_
    exact rd_iret hz hr hlk dX6_loud_49 (by simp [sLoud, *])
  refine lv_tableOut (tgt := 50) hz.1 hz.2.1 dX6_loud_8 (by rw [nI_toInt (by omega)]; omega) (by decide) ?_
  refine lv_iload_n hz.1 hz.2.1 dX6_loud_50 rfl (lv_at hl 2 rfl) ?_
  exact rd_iret hz hr hlk dX6_loud_51 (by simp [sLoud, *])

theorem hinX6_noteOf : ∀ w ∈ wsX60, w ∈ wsX6_noteOf := fun _ h => List.mem_cons_of_mem _ (List.mem_append_right _ h)
set_option maxHeartbeats 4000000 in
set_option maxRecDepth 100000 in
theorem c6_noteOf (l_ : Launch) (D : va_G) (k : Nat → ClassId) (b I J : Nat → Nat) (G : Nat → Nat → Nat) (w : Nat) (hf : Wf (G 0)) (hw : w < 8) : Met l_ yX6_noteOf wsX6_noteOf ({ frames := 1, cells := 0, slots := 0, locals := 23 }) (va_Pc [.ref (b 0), .int (nI w)] (wH YT D k (mw b k I J G))) (QcRead (nI (sNote (G 0) w))) 0 0 (fun _ => False) := by
  refine my_entry (cc := cX6_noteOf) (maxL := 2) (ret := some .int) (by decide) rfl (Nat.le_of_ble_eq_true rfl) ?_
  intro p_ e_ s_ m_ bl_ me_ c_ hz hr hlk hB ls hl
  obtain ⟨hP, hK, hD0, -⟩ := hB
  have hD := wA.self hD0
  have hS : va_S (wA (mw b k I J G)) s_.heap s_.heap [] := va_S.rf
  have hl : lv_has ls 2 [(0, .ref (b 0)), (1, .int (nI w))] := hl
  have hk := hf.kd hw
  have ht := hf.tn hw
  have h1 := hf.fr
  refine lv_aload_n hz.1 hz.2.1 dX6_noteOf_0 rfl (lv_at hl 0 rfl) ?_
  refine rg hz hinX6_noteOf hK hP 0 rfl rfl 0 (by decide) (List.mem_of_getElem? (i := 1) rfl) rfl (v := .ref (b 1)) rfl dX6_noteOf_1 ?_
  refine lv_iconst (v := nI 3) hz.1 hz.2.1 dX6_noteOf_4 (by decide) ?_
  refine lv_iload_n hz.1 hz.2.1 dX6_noteOf_5 rfl (lv_at hl 1 rfl) ?_
  refine lv_iadd hz.1 hz.2.1 dX6_noteOf_6 ?_
  refine toe (z := nI (3 + w)) (nI_add _ _) ?_
  refine rald hz hK hP 1 0 rfl rfl (i := (3 + w)) (by omega) (by decide) (v := nI (G 0 (3 + w))) rfl dX6_noteOf_7 ?_
  refine lv_aload_n hz.1 hz.2.1 dX6_noteOf_8 rfl (lv_at hl 0 rfl) ?_
  refine rg hz hinX6_noteOf hK hP 0 rfl rfl 0 (by decide) (List.mem_of_getElem? (i := 1) rfl) rfl (v := .ref (b 1)) rfl dX6_noteOf_9 ?_
  refine lv_bipush (v := nI 11) hz.1 hz.2.1 dX6_noteOf_12 (by decide) ?_
  refine lv_iload_n hz.1 hz.2.1 dX6_noteOf_14 rfl (lv_at hl 1 rfl) ?_
  refine lv_iadd hz.1 hz.2.1 dX6_noteOf_15 ?_
  refine toe (z := nI (11 + w)) (nI_add _ _) ?_
  refine rald hz hK hP 1 0 rfl rfl (i := (11 + w)) (by omega) (by decide) (v := nI (G 0 (11 + w))) rfl dX6_noteOf_16 ?_
  refine lv_aload_n hz.1 hz.2.1 dX6_noteOf_17 rfl (lv_at hl 0 rfl) ?_
  refine rg hz hinX6_noteOf hK hP 0 rfl rfl 0 (by decide) (List.mem_of_getElem? (i := 1) rfl) rfl (v := .ref (b 1)) rfl dX6_noteOf_18 ?_
  refine lv_iconst (v := nI 1) hz.1 hz.2.1 dX6_noteOf_21 (by decide) ?_
  refine rald hz hK hP 1 0 rfl rfl (i := 1) (by omega) (by decide) (v := nI (G 0 1)) rfl dX6_noteOf_22 ?_
  refine rdS (As := [.int (nI (G 0 (3 + w))), .int (nI (G 0 (11 + w))), .int (nI (G 0 1))]) (rest := []) hz (c6_noteBy l_ (G 0 (3 + w)) (G 0 (11 + w)) (G 0 1) (by omega) (by omega) (by omega)) rfl (va_cwS 3 hz.2.2.2.2 gX6_noteOf_X6_noteBy rfl rfl rfl (by decide +kernel) ⟨Nat.le_of_ble_eq_true rfl, Nat.le_of_ble_eq_true rfl⟩) rfl hl.1 rfl (Nat.le_of_ble_eq_true rfl) dX6_noteOf_23 ⟨Nat.zero_le _, Nat.zero_le _⟩ ?_
  exact rd_iret hz hr hlk dX6_noteOf_26 (rfl)

theorem hinX6_hears : ∀ w ∈ wsX60, w ∈ wsX6_hears := fun _ h => List.mem_cons_of_mem _ (List.mem_append_right _ h)
set_option maxHeartbeats 4000000 in
set_option maxRecDepth 100000 in
theorem c6_hears (l_ : Launch) (D : va_G) (k : Nat → ClassId) (b I J : Nat → Nat) (G : Nat → Nat → Nat) (p w s : Nat) (hf : Wf (G 0)) (hp : p < 9) (hw : w < 8) (hs : 1 ≤ s) (hs2 : s ≤ 3) : Met l_ yX6_hears wsX6_hears ({ frames := 1, cells := 0, slots := 0, locals := 22 }) (va_Pc [.ref (b 0), .int (nI p), .int (nI w), .int (nI s)] (wH YT D k (mw b k I J G))) (QcRead (bI (sHears (G 0) p w s))) 0 0 (fun _ => False) := by
  refine my_entry (cc := cX6_hears) (maxL := 4) (ret := some .boolean) (by decide) rfl (Nat.le_of_ble_eq_true rfl) ?_
  intro p_ e_ s_ m_ bl_ me_ c_ hz hr hlk hB ls hl
  obtain ⟨hP, hK, hD0, -⟩ := hB
  have hD := wA.self hD0
  have hS : va_S (wA (mw b k I J G)) s_.heap s_.heap [] := va_S.rf
  have hl : lv_has ls 4 [(0, .ref (b 0)), (1, .int (nI p)), (2, .int (nI w)), (3, .int (nI s))] := hl
  have h8 := sLoud_le (G 0 (3 + w)) s
  have h9 := sFar_le p w
  refine lv_aload_n hz.1 hz.2.1 dX6_hears_0 rfl (lv_at hl 0 rfl) ?_
  refine lv_iload_n hz.1 hz.2.1 dX6_hears_1 rfl (lv_at hl 2 rfl) ?_
  refine lv_iload_n hz.1 hz.2.1 dX6_hears_2 rfl (lv_at hl 3 rfl) ?_
  refine rdV (A := wA (mw b k I J G)) (As := [.int (nI w), .int (nI s)]) (rest := []) hz okYT (c6_loud l_ D k b I J G w s hf (by omega) (by omega) (by omega)) (cwV 2 hz.2.2.2.2 gX6_hears_X6_loud rfl rfl rfl (by decide +kernel) ⟨Nat.le_of_ble_eq_true rfl, Nat.le_of_ble_eq_true rfl⟩) hK trivial hP hD hS 0 6 rfl rfl rfl rfl hl.1 rfl (Nat.le_of_ble_eq_true rfl) dX6_hears_3 ⟨Nat.zero_le _, Nat.zero_le _⟩ ?_
  refine lv_iload_n hz.1 hz.2.1 dX6_hears_6 rfl (lv_at hl 1 rfl) ?_
  refine lv_iload_n hz.1 hz.2.1 dX6_hears_7 rfl (lv_at hl 2 rfl) ?_
  refine rdS (As := [.int (nI p), .int (nI w)]) (rest := [.int (nI (sLoud ((G 0) (3 + w)) s))]) hz (c6_far l_ p w (by omega) (by omega)) rfl (va_cwS 2 hz.2.2.2.2 gX6_hears_X6_far rfl rfl rfl (by decide +kernel) ⟨Nat.le_of_ble_eq_true rfl, Nat.le_of_ble_eq_true rfl⟩) rfl hl.1 rfl (Nat.le_of_ble_eq_true rfl) dX6_hears_8 ⟨Nat.zero_le _, Nat.zero_le _⟩ ?_
  refine jle (tgt := 18) hz dX6_hears_11 (by decide) (by omega) (by omega) (fun c_11 => ?_) (fun c_11 => ?_)
  · refine lv_iconst (v := nI 0) hz.1 hz.2.1 dX6_hears_18 (by decide) ?_
    exact rd_zret hz hr hlk dX6_hears_19 (bI_0 (by simp only [sHears, decide_eq_true_eq, decide_eq_false_iff_not]; exact c_11))
  · refine lv_iconst (v := nI 1) hz.1 hz.2.1 dX6_hears_14 (by decide) ?_
    refine lv_goto (tgt := 19) hz.1 hz.2.1 dX6_hears_15 (by decide) ?_
    exact rd_zret hz hr hlk dX6_hears_19 (bI_1 (by simp only [sHears, decide_eq_true_eq, decide_eq_false_iff_not]; exact c_11))

theorem hinX6_noteAt : ∀ w ∈ wsX60, w ∈ wsX6_noteAt := fun _ h => List.mem_cons_of_mem _ (List.mem_append_right _ h)
set_option maxHeartbeats 4000000 in
set_option maxRecDepth 100000 in
theorem c6_noteAt (l_ : Launch) (D : va_G) (k : Nat → ClassId) (b I J : Nat → Nat) (G : Nat → Nat → Nat) (p w s : Nat) (hf : Wf (G 0)) (hp : p < 9) (hw : w < 8) (hs : 1 ≤ s) (hs2 : s ≤ 3) : Met l_ yX6_noteAt wsX6_noteAt ({ frames := 2, cells := 0, slots := 0, locals := 45 }) (va_Pc [.ref (b 0), .int (nI p), .int (nI w), .int (nI s)] (wH YT D k (mw b k I J G))) (QcRead (nI (sNoteAt (G 0) p w s))) 0 0 (fun _ => False) := by
  refine my_entry (cc := cX6_noteAt) (maxL := 4) (ret := some .int) (by decide) rfl (Nat.le_of_ble_eq_true rfl) ?_
  intro p_ e_ s_ m_ bl_ me_ c_ hz hr hlk hB ls hl
  obtain ⟨hP, hK, hD0, -⟩ := hB
  have hD := wA.self hD0
  have hS : va_S (wA (mw b k I J G)) s_.heap s_.heap [] := va_S.rf
  have hl : lv_has ls 4 [(0, .ref (b 0)), (1, .int (nI p)), (2, .int (nI w)), (3, .int (nI s))] := hl
  have h7 := sNote_lt (G 0) w
  refine lv_aload_n hz.1 hz.2.1 dX6_noteAt_0 rfl (lv_at hl 0 rfl) ?_
  refine lv_iload_n hz.1 hz.2.1 dX6_noteAt_1 rfl (lv_at hl 1 rfl) ?_
  refine lv_iload_n hz.1 hz.2.1 dX6_noteAt_2 rfl (lv_at hl 2 rfl) ?_
  refine lv_iload_n hz.1 hz.2.1 dX6_noteAt_3 rfl (lv_at hl 3 rfl) ?_
  refine rdV (A := wA (mw b k I J G)) (As := [.int (nI p), .int (nI w), .int (nI s)]) (rest := []) hz okYT (c6_hears l_ D k b I J G p w s hf (by omega) (by omega) (by omega) (by omega)) (cwV 3 hz.2.2.2.2 gX6_noteAt_X6_hears rfl rfl rfl (by decide +kernel) ⟨Nat.le_of_ble_eq_true rfl, Nat.le_of_ble_eq_true rfl⟩) hK trivial hP hD hS 0 6 rfl rfl rfl rfl hl.1 rfl (Nat.le_of_ble_eq_true rfl) dX6_noteAt_4 ⟨Nat.zero_le _, Nat.zero_le _⟩ ?_
  refine zeq (tgt := 20) hz dX6_noteAt_7 (by decide) (fun c_7 => ?_) (fun c_7 => ?_)
  · refine lv_iconst (v := nI 0) hz.1 hz.2.1 dX6_noteAt_20 (by decide) ?_
    exact rd_iret hz hr hlk dX6_noteAt_21 (by simp [sNoteAt, c_7])
  · refine lv_iconst (v := nI 1) hz.1 hz.2.1 dX6_noteAt_10 (by decide) ?_
    refine lv_aload_n hz.1 hz.2.1 dX6_noteAt_11 rfl (lv_at hl 0 rfl) ?_
    refine lv_iload_n hz.1 hz.2.1 dX6_noteAt_12 rfl (lv_at hl 2 rfl) ?_
    refine rdV (A := wA (mw b k I J G)) (As := [.int (nI w)]) (rest := [.int (nI 1)]) hz okYT (c6_noteOf l_ D k b I J G w hf (by omega)) (cwV 1 hz.2.2.2.2 gX6_noteAt_X6_noteOf rfl rfl rfl (by decide +kernel) ⟨Nat.le_of_ble_eq_true rfl, Nat.le_of_ble_eq_true rfl⟩) hK trivial hP hD hS 0 6 rfl rfl rfl rfl hl.1 rfl (Nat.le_of_ble_eq_true rfl) dX6_noteAt_13 ⟨Nat.zero_le _, Nat.zero_le _⟩ ?_
    refine lv_ishl hz.1 hz.2.1 dX6_noteAt_16 ?_
    refine toe (z := nI (2 ^ (sNote (G 0) w))) (nI_shl1 (by omega)) ?_
    refine lv_goto (tgt := 21) hz.1 hz.2.1 dX6_noteAt_17 (by decide) ?_
    exact rd_iret hz hr hlk dX6_noteAt_21 (by simp [sNoteAt, c_7])

theorem hinX6_notesBy : ∀ w ∈ wsX60, w ∈ wsX6_notesBy := fun _ h => List.mem_cons_of_mem _ (List.mem_append_right _ h)
set_option maxHeartbeats 4000000 in
set_option maxRecDepth 100000 in
theorem c6_notesBy (l_ : Launch) (D : va_G) (k : Nat → ClassId) (b I J : Nat → Nat) (G : Nat → Nat → Nat) (p w st : Nat) (hf : Wf (G 0)) (hp : p < 9) (hw : w < G 0 0 - 1) (hs : st ≤ 3) : Met l_ yX6_notesBy wsX6_notesBy ({ frames := 3, cells := 0, slots := 0, locals := 68 }) (va_Pc [.ref (b 0), .int (nI p), .int (nI w), .int (nI st)] (wH YT D k (mw b k I J G))) (QcRead (nI (sNotesBy (G 0) p w st))) 0 0 (fun _ => False) := by
  refine my_entry (cc := cX6_notesBy) (maxL := 5) (ret := some .int) (by decide) rfl (Nat.le_of_ble_eq_true rfl) ?_
  intro p_ e_ s_ m_ bl_ me_ c_ hz hr hlk hB ls hl
  obtain ⟨hP, hK, hD0, -⟩ := hB
  have hD := wA.self hD0
  have hS : va_S (wA (mw b k I J G)) s_.heap s_.heap [] := va_S.rf
  have hl : lv_has ls 5 [(0, .ref (b 0)), (1, .int (nI p)), (2, .int (nI w)), (3, .int (nI st))] := hl
  have f0 := hf.n2
  have f1 := hf.n9
  have f2 := hf.fr
  have f3 := hf.gd
  have h7 := sStr_in hs
  refine lv_aload_n hz.1 hz.2.1 dX6_notesBy_0 rfl (lv_at hl 0 rfl) ?_
  refine lv_iload_n hz.1 hz.2.1 dX6_notesBy_1 rfl (lv_at hl 1 rfl) ?_
  refine lv_iload_n hz.1 hz.2.1 dX6_notesBy_2 rfl (lv_at hl 2 rfl) ?_
  refine lv_iload_n hz.1 hz.2.1 dX6_notesBy_3 rfl (lv_at hl 3 rfl) ?_
  refine rdS (As := [.int (nI st)]) (rest := [.int (nI w), .int (nI p), .ref (b 0)]) hz (c6_strength l_ st (by omega)) rfl (va_cwS 1 hz.2.2.2.2 gX6_notesBy_X6_strength rfl rfl rfl (by decide +kernel) ⟨Nat.le_of_ble_eq_true rfl, Nat.le_of_ble_eq_true rfl⟩) rfl hl.1 rfl (Nat.le_of_ble_eq_true rfl) dX6_notesBy_4 ⟨Nat.zero_le _, Nat.zero_le _⟩ ?_
  refine rdV (A := wA (mw b k I J G)) (As := [.int (nI p), .int (nI w), .int (nI (sStr st))]) (rest := []) hz okYT (c6_noteAt l_ D k b I J G p w (sStr st) hf (by omega) (by omega) (by omega) (by omega)) (cwV 3 hz.2.2.2.2 gX6_notesBy_X6_noteAt rfl rfl rfl (by decide +kernel) ⟨Nat.le_of_ble_eq_true rfl, Nat.le_of_ble_eq_true rfl⟩) hK trivial hP hD hS 0 6 rfl rfl rfl rfl hl.1 rfl (Nat.le_of_ble_eq_true rfl) dX6_notesBy_7 ⟨Nat.zero_le _, Nat.zero_le _⟩ ?_
  refine lv_istore (lv' := [(4, .int (nI (sNoteAt (G 0) p w (sStr st)))), (0, .ref (b 0)), (1, .int (nI p)), (2, .int (nI w)), (3, .int (nI st))]) hz.1 hz.2.1 dX6_notesBy_10 hl (by decide) rfl (fun ls hl => ?_)
  refine lv_iload_n hz.1 hz.2.1 dX6_notesBy_12 rfl (lv_at hl 4 rfl) ?_
  refine lv_iconst (v := nI 3) hz.1 hz.2.1 dX6_notesBy_13 (by decide) ?_
  refine jne (tgt := 42) hz dX6_notesBy_14 (by decide) (by omega) (by omega) (fun c_14 => ?_) (fun c_14 => ?_)
  · refine lv_iload hz.1 hz.2.1 dX6_notesBy_42 (lv_at hl 0 rfl) ?_
    exact rd_iret hz hr hlk dX6_notesBy_44 (by simp [sNotesBy, *])
  · refine lv_iload_n hz.1 hz.2.1 dX6_notesBy_17 rfl (lv_at hl 3 rfl) ?_
    refine lv_iconst (v := nI 1) hz.1 hz.2.1 dX6_notesBy_18 (by decide) ?_
    refine lv_iadd hz.1 hz.2.1 dX6_notesBy_19 ?_
    refine toe (z := nI (w + 1)) (nI_add _ _) ?_
    refine lv_aload_n hz.1 hz.2.1 dX6_notesBy_20 rfl (lv_at hl 1 rfl) ?_
    refine rdV (A := wA (mw b k I J G)) (As := []) (rest := [.int (nI (w + 1))]) hz okYT (c6_wires l_ D k b I J G  (by omega)) (cwV 0 hz.2.2.2.2 gX6_notesBy_X6_wires rfl rfl rfl (by decide +kernel) ⟨Nat.le_of_ble_eq_true rfl, Nat.le_of_ble_eq_true rfl⟩) hK trivial hP hD hS 0 6 rfl rfl rfl rfl hl.1 rfl (Nat.le_of_ble_eq_true rfl) dX6_notesBy_21 ⟨Nat.zero_le _, Nat.zero_le _⟩ ?_
    refine jge (tgt := 42) hz dX6_notesBy_24 (by decide) (by omega) (by omega) (fun c_24 => ?_) (fun c_24 => ?_)
    · refine lv_iload hz.1 hz.2.1 dX6_notesBy_42 (lv_at hl 0 rfl) ?_
      exact rd_iret hz hr hlk dX6_notesBy_44 (by simp [sNotesBy, *])
    · refine lv_iload hz.1 hz.2.1 dX6_notesBy_27 (lv_at hl 0 rfl) ?_
      refine lv_aload_n hz.1 hz.2.1 dX6_notesBy_29 rfl (lv_at hl 1 rfl) ?_
      refine lv_iload_n hz.1 hz.2.1 dX6_notesBy_30 rfl (lv_at hl 2 rfl) ?_
      refine lv_iload_n hz.1 hz.2.1 dX6_notesBy_31 rfl (lv_at hl 3 rfl) ?_
      refine lv_iconst (v := nI 1) hz.1 hz.2.1 dX6_notesBy_32 (by decide) ?_
      refine lv_iadd hz.1 hz.2.1 dX6_notesBy_33 ?_
      refine toe (z := nI (w + 1)) (nI_add _ _) ?_
      refine lv_iconst (v := nI 1) hz.1 hz.2.1 dX6_notesBy_34 (by decide) ?_
      refine rdV (A := wA (mw b k I J G)) (As := [.int (nI p), .int (nI (w + 1)), .int (nI 1)]) (rest := [.int (nI (sNoteAt (G 0) p w (sStr st)))]) hz okYT (c6_noteAt l_ D k b I J G p (w + 1) 1 hf (by omega) (by omega) (by omega) (by omega)) (cwV 3 hz.2.2.2.2 gX6_notesBy_X6_noteAt rfl rfl rfl (by decide +kernel) ⟨Nat.le_of_ble_eq_true rfl, Nat.le_of_ble_eq_true rfl⟩) hK trivial hP hD hS 0 6 rfl rfl rfl rfl hl.1 rfl (Nat.le_of_ble_eq_true rfl) dX6_notesBy_35 ⟨Nat.zero_le _, Nat.zero_le _⟩ ?_
      refine lv_ior hz.1 hz.2.1 dX6_notesBy_38 ?_
      refine toe (z := nI ((sNoteAt (G 0) p w (sStr st)) ||| (sNoteAt (G 0) p (w + 1) 1))) (fa_or _ _) ?_
      refine lv_goto (tgt := 44) hz.1 hz.2.1 dX6_notesBy_39 (by decide) ?_
      exact rd_iret hz hr hlk dX6_notesBy_44 (by simp [sNotesBy, *])

theorem hinX6_heardAt : ∀ w ∈ wsX60, w ∈ wsX6_heardAt := fun _ h => List.mem_cons_of_mem _ (List.mem_append_right _ h)
set_option maxHeartbeats 4000000 in
set_option maxRecDepth 100000 in
theorem c6_heardAt (l_ : Launch) (D : va_G) (k : Nat → ClassId) (b I J : Nat → Nat) (G : Nat → Nat → Nat) (p mn : Nat) (hf : Wf (G 0)) (hp : p < 9) (hm : mn < 60) : Met l_ yX6_heardAt wsX6_heardAt ({ frames := 4, cells := 0, slots := 0, locals := 92 }) (va_Pc [.ref (b 0), .int (nI p), .int (nI mn)] (wH YT D k (mw b k I J G))) (QcRead (nI (sHeard (G 0) p mn))) 0 0 (fun _ => False) := by
  refine my_entry (cc := cX6_heardAt) (maxL := 6) (ret := some .int) (by decide) rfl (Nat.le_of_ble_eq_true rfl) ?_
  intro p_ e_ s_ m_ bl_ me_ c_ hz hr hlk hB ls hl
  obtain ⟨hP, hK, hD0, -⟩ := hB
  have hD := wA.self hD0
  have hS : va_S (wA (mw b k I J G)) s_.heap s_.heap [] := va_S.rf
  have hl : lv_has ls 6 [(0, .ref (b 0)), (1, .int (nI p)), (2, .int (nI mn))] := hl
  have f0 := hf.n2
  have f1 := hf.n9
  have f2 := hf.fr
  have f3 := hf.gd
  have f4 := hf.pc
  have f5 := hf.wc
  refine lv_iconst (v := nI 0) hz.1 hz.2.1 dX6_heardAt_0 (by decide) ?_
  refine lv_istore_n (lv' := [(3, .int (nI 0)), (0, .ref (b 0)), (1, .int (nI p)), (2, .int (nI mn))]) hz.1 hz.2.1 dX6_heardAt_1 rfl hl (by decide) rfl (fun ls hl => ?_)
  refine lv_iconst (v := nI 0) hz.1 hz.2.1 dX6_heardAt_2 (by decide) ?_
  refine lv_istore (lv' := [(4, .int (nI 0)), (3, .int (nI 0)), (0, .ref (b 0)), (1, .int (nI p)), (2, .int (nI mn))]) hz.1 hz.2.1 dX6_heardAt_3 hl (by decide) rfl (fun ls hl => ?_)
  have lp_5 : ∀ (n : Nat) (i : Nat), (i ≤ G 0 32) → G 0 32 - i < n → ∀ ls : Array Slot, lv_has ls 6 [(0, .ref (b 0)), (1, .int (nI p)), (2, .int (nI mn)), (3, .int (nI (sOr 0 (sPassF (G 0) p mn) i))), (4, .int (nI i))] → W p_ l_ e_ ({ frames := 4, cells := 0, slots := 0, locals := 92 }) s_ m_ [.ref (b 0), .int (nI p), .int (nI mn)].toArray bl_ me_ c_ s_.heap [] 0 0 (MQ bl_ (QcRead (nI (sHeard (G 0) p mn))) [.ref (b 0), .int (nI p), .int (nI mn)].toArray s_ 0 0 (fun _ => False)) (F0 m_ 5 ls []) := by
    intro n
    induction n with
    | zero => intro i hi hm; exact absurd hm (Nat.not_lt_zero _)
    | succ n ih5 =>
      intro i hi hm ls hl
      refine lv_iload hz.1 hz.2.1 dX6_heardAt_5 (lv_at hl 4 rfl) ?_
      refine lv_aload_n hz.1 hz.2.1 dX6_heardAt_7 rfl (lv_at hl 0 rfl) ?_
      refine rg hz hinX6_heardAt hK hP 0 rfl rfl 0 (by decide) (List.mem_of_getElem? (i := 1) rfl) rfl (v := .ref (b 1)) rfl dX6_heardAt_8 ?_
      refine lv_bipush (v := nI 32) hz.1 hz.2.1 dX6_heardAt_11 (by decide) ?_
      refine rald hz hK hP 1 0 rfl rfl (i := 32) (by omega) (by decide) (v := nI (G 0 32)) rfl dX6_heardAt_13 ?_
      refine jge (tgt := 73) hz dX6_heardAt_14 (by decide) (by omega) (by omega) (fun c_14 => ?_) (fun c_14 => ?_)
      · obtain rfl : i = G 0 32 := by omega
        refine lv_iconst (v := nI 0) hz.1 hz.2.1 dX6_heardAt_73 (by decide) ?_
        refine lv_istore (lv' := [(4, .int (nI 0)), (0, .ref (b 0)), (1, .int (nI p)), (2, .int (nI mn)), (3, .int (nI (sOr 0 (sPassF (G 0) p mn) (G 0 32))))]) hz.1 hz.2.1 dX6_heardAt_74 hl (by decide) rfl (fun ls hl => ?_)
        have lp_76 : ∀ (n : Nat) (i : Nat), (i ≤ G 0 19) → G 0 19 - i < n → ∀ ls : Array Slot, lv_has ls 6 [(0, .ref (b 0)), (1, .int (nI p)), (2, .int (nI mn)), (3, .int (nI (sOr (sOr 0 (sPassF (G 0) p mn) (G 0 32)) (sWindF (G 0) p mn) i))), (4, .int (nI i))] → W p_ l_ e_ ({ frames := 4, cells := 0, slots := 0, locals := 92 }) s_ m_ [.ref (b 0), .int (nI p), .int (nI mn)].toArray bl_ me_ c_ s_.heap [] 0 0 (MQ bl_ (QcRead (nI (sHeard (G 0) p mn))) [.ref (b 0), .int (nI p), .int (nI mn)].toArray s_ 0 0 (fun _ => False)) (F0 m_ 76 ls []) := by
          intro n
          induction n with
          | zero => intro i hi hm; exact absurd hm (Nat.not_lt_zero _)
          | succ n ih76 =>
            intro i hi hm ls hl
            refine lv_iload hz.1 hz.2.1 dX6_heardAt_76 (lv_at hl 4 rfl) ?_
            refine lv_aload_n hz.1 hz.2.1 dX6_heardAt_78 rfl (lv_at hl 0 rfl) ?_
            refine rg hz hinX6_heardAt hK hP 0 rfl rfl 0 (by decide) (List.mem_of_getElem? (i := 1) rfl) rfl (v := .ref (b 1)) rfl dX6_heardAt_79 ?_
            refine lv_bipush (v := nI 19) hz.1 hz.2.1 dX6_heardAt_82 (by decide) ?_
            refine rald hz hK hP 1 0 rfl rfl (i := 19) (by omega) (by decide) (v := nI (G 0 19)) rfl dX6_heardAt_84 ?_
            refine jge (tgt := 136) hz dX6_heardAt_85 (by decide) (by omega) (by omega) (fun c_85 => ?_) (fun c_85 => ?_)
            · obtain rfl : i = G 0 19 := by omega
              refine lv_iload_n hz.1 hz.2.1 dX6_heardAt_136 rfl (lv_at hl 3 rfl) ?_
              exact rd_iret hz hr hlk dX6_heardAt_137 (rfl)
            · have hwi := hf.wi c_85
              refine lv_bipush (v := nI 20) hz.1 hz.2.1 dX6_heardAt_88 (by decide) ?_
              refine lv_iconst (v := nI 2) hz.1 hz.2.1 dX6_heardAt_90 (by decide) ?_
              refine lv_iload hz.1 hz.2.1 dX6_heardAt_91 (lv_at hl 4 rfl) ?_
              refine lv_imul hz.1 hz.2.1 dX6_heardAt_93 ?_
              refine toe (z := nI (2 * i)) (pk_mul _ _) ?_
              refine lv_iadd hz.1 hz.2.1 dX6_heardAt_94 ?_
              refine toe (z := nI (20 + (2 * i))) (nI_add _ _) ?_
              refine lv_istore (lv' := [(5, .int (nI (20 + (2 * i)))), (0, .ref (b 0)), (1, .int (nI p)), (2, .int (nI mn)), (3, .int (nI (sOr (sOr 0 (sPassF (G 0) p mn) (G 0 32)) (sWindF (G 0) p mn) i))), (4, .int (nI i))]) hz.1 hz.2.1 dX6_heardAt_95 hl (by decide) rfl (fun ls hl => ?_)
              refine lv_iload_n hz.1 hz.2.1 dX6_heardAt_97 rfl (lv_at hl 4 rfl) ?_
              refine lv_aload_n hz.1 hz.2.1 dX6_heardAt_98 rfl (lv_at hl 1 rfl) ?_
              refine rg hz hinX6_heardAt hK hP 0 rfl rfl 0 (by decide) (List.mem_of_getElem? (i := 1) rfl) rfl (v := .ref (b 1)) rfl dX6_heardAt_99 ?_
              refine lv_iload hz.1 hz.2.1 dX6_heardAt_102 (lv_at hl 0 rfl) ?_
              refine rald hz hK hP 1 0 rfl rfl (i := (20 + (2 * i))) (by omega) (by decide) (v := nI (G 0 (20 + (2 * i)))) rfl dX6_heardAt_104 ?_
              refine lv_iload_n hz.1 hz.2.1 dX6_heardAt_105 rfl (lv_at hl 3 rfl) ?_
              refine jne (tgt := 127) hz dX6_heardAt_106 (by decide) (by omega) (by omega) (fun c_106 => ?_) (fun c_106 => ?_)
              · refine lv_iconst (v := nI 0) hz.1 hz.2.1 dX6_heardAt_127 (by decide) ?_
                refine lv_ior hz.1 hz.2.1 dX6_heardAt_128 ?_
                refine toe (z := nI (sOr (sOr 0 (sPassF (G 0) p mn) (G 0 32)) (sWindF (G 0) p mn) (i + 1))) (by rw [fa_or]; simp [sOr, sWindF, c_106]) ?_
                refine lv_istore_n (lv' := [(3, .int (nI (sOr (sOr 0 (sPassF (G 0) p mn) (G 0 32)) (sWindF (G 0) p mn) (i + 1)))), (5, .int (nI (20 + (2 * i)))), (0, .ref (b 0)), (1, .int (nI p)), (2, .int (nI mn)), (4, .int (nI i))]) hz.1 hz.2.1 dX6_heardAt_129 rfl hl (by decide) rfl (fun ls hl => ?_)
                refine lv_iinc (v := nI (i + 1)) (lv' := [(4, .int (nI (i + 1))), (3, .int (nI (sOr (sOr 0 (sPassF (G 0) p mn) (G 0 32)) (sWindF (G 0) p mn) (i + 1)))), (5, .int (nI (20 + (2 * i)))), (0, .ref (b 0)), (1, .int (nI p)), (2, .int (nI mn))]) hz.1 hz.2.1 dX6_heardAt_130 hl (k := 5) rfl (nI_add _ 1) (by decide) rfl (fun ls hl => ?_)
                refine lv_goto (tgt := 76) hz.1 hz.2.1 dX6_heardAt_133 (by decide) ?_
                exact ih76 (i + 1) (by omega) (by omega) ls (lv_sub hl [3, 4, 5, 1, 0] rfl)
              · refine lv_aload_n hz.1 hz.2.1 dX6_heardAt_109 rfl (lv_at hl 1 rfl) ?_
                refine lv_iload_n hz.1 hz.2.1 dX6_heardAt_110 rfl (lv_at hl 2 rfl) ?_
                refine lv_aload_n hz.1 hz.2.1 dX6_heardAt_111 rfl (lv_at hl 1 rfl) ?_
                refine rg hz hinX6_heardAt hK hP 0 rfl rfl 0 (by decide) (List.mem_of_getElem? (i := 1) rfl) rfl (v := .ref (b 1)) rfl dX6_heardAt_112 ?_
                refine lv_iload hz.1 hz.2.1 dX6_heardAt_115 (lv_at hl 0 rfl) ?_
                refine lv_iconst (v := nI 1) hz.1 hz.2.1 dX6_heardAt_117 (by decide) ?_
                refine lv_iadd hz.1 hz.2.1 dX6_heardAt_118 ?_
                refine toe (z := nI ((20 + (2 * i)) + 1)) (nI_add _ _) ?_
                refine rald hz hK hP 1 0 rfl rfl (i := ((20 + (2 * i)) + 1)) (by omega) (by decide) (v := nI (G 0 ((20 + (2 * i)) + 1))) rfl dX6_heardAt_119 ?_
                refine lv_iconst (v := nI 1) hz.1 hz.2.1 dX6_heardAt_120 (by decide) ?_
                refine rdV (A := wA (mw b k I J G)) (As := [.int (nI p), .int (nI (G 0 ((20 + (2 * i)) + 1))), .int (nI 1)]) (rest := [.int (nI (sOr (sOr 0 (sPassF (G 0) p mn) (G 0 32)) (sWindF (G 0) p mn) i))]) hz okYT (c6_noteAt l_ D k b I J G p (G 0 ((20 + (2 * i)) + 1)) 1 hf (by omega) (by omega) (by omega) (by omega)) (cwV 3 hz.2.2.2.2 gX6_heardAt_X6_noteAt rfl rfl rfl (by decide +kernel) ⟨Nat.le_of_ble_eq_true rfl, Nat.le_of_ble_eq_true rfl⟩) hK trivial hP hD hS 0 6 rfl rfl rfl rfl hl.1 rfl (Nat.le_of_ble_eq_true rfl) dX6_heardAt_121 ⟨Nat.zero_le _, Nat.zero_le _⟩ ?_
                refine lv_goto (tgt := 128) hz.1 hz.2.1 dX6_heardAt_124 (by decide) ?_
                refine lv_ior hz.1 hz.2.1 dX6_heardAt_128 ?_
                refine toe (z := nI (sOr (sOr 0 (sPassF (G 0) p mn) (G 0 32)) (sWindF (G 0) p mn) (i + 1))) (by rw [fa_or]; simp [sOr, sWindF, c_106]) ?_
                refine lv_istore_n (lv' := [(3, .int (nI (sOr (sOr 0 (sPassF (G 0) p mn) (G 0 32)) (sWindF (G 0) p mn) (i + 1)))), (5, .int (nI (20 + (2 * i)))), (0, .ref (b 0)), (1, .int (nI p)), (2, .int (nI mn)), (4, .int (nI i))]) hz.1 hz.2.1 dX6_heardAt_129 rfl hl (by decide) rfl (fun ls hl => ?_)
                refine lv_iinc (v := nI (i + 1)) (lv' := [(4, .int (nI (i + 1))), (3, .int (nI (sOr (sOr 0 (sPassF (G 0) p mn) (G 0 32)) (sWindF (G 0) p mn) (i + 1)))), (5, .int (nI (20 + (2 * i)))), (0, .ref (b 0)), (1, .int (nI p)), (2, .int (nI mn))]) hz.1 hz.2.1 dX6_heardAt_130 hl (k := 5) rfl (nI_add _ 1) (by decide) rfl (fun ls hl => ?_)
                refine lv_goto (tgt := 76) hz.1 hz.2.1 dX6_heardAt_133 (by decide) ?_
                exact ih76 (i + 1) (by omega) (by omega) ls (lv_sub hl [3, 4, 5, 1, 0] rfl)
        exact lp_76 _ 0 (by omega) (Nat.lt_succ_self _) ls (lv_sub hl [1, 2, 3, 4, 0] rfl)
      · have hpi := hf.pi c_14
        refine lv_bipush (v := nI 33) hz.1 hz.2.1 dX6_heardAt_17 (by decide) ?_
        refine lv_iconst (v := nI 3) hz.1 hz.2.1 dX6_heardAt_19 (by decide) ?_
        refine lv_iload hz.1 hz.2.1 dX6_heardAt_20 (lv_at hl 4 rfl) ?_
        refine lv_imul hz.1 hz.2.1 dX6_heardAt_22 ?_
        refine toe (z := nI (3 * i)) (pk_mul _ _) ?_
        refine lv_iadd hz.1 hz.2.1 dX6_heardAt_23 ?_
        refine toe (z := nI (33 + (3 * i))) (nI_add _ _) ?_
        refine lv_istore (lv' := [(5, .int (nI (33 + (3 * i)))), (0, .ref (b 0)), (1, .int (nI p)), (2, .int (nI mn)), (3, .int (nI (sOr 0 (sPassF (G 0) p mn) i))), (4, .int (nI i))]) hz.1 hz.2.1 dX6_heardAt_24 hl (by decide) rfl (fun ls hl => ?_)
        refine lv_iload_n hz.1 hz.2.1 dX6_heardAt_26 rfl (lv_at hl 4 rfl) ?_
        refine lv_aload_n hz.1 hz.2.1 dX6_heardAt_27 rfl (lv_at hl 1 rfl) ?_
        refine rg hz hinX6_heardAt hK hP 0 rfl rfl 0 (by decide) (List.mem_of_getElem? (i := 1) rfl) rfl (v := .ref (b 1)) rfl dX6_heardAt_28 ?_
        refine lv_iload hz.1 hz.2.1 dX6_heardAt_31 (lv_at hl 0 rfl) ?_
        refine rald hz hK hP 1 0 rfl rfl (i := (33 + (3 * i))) (by omega) (by decide) (v := nI (G 0 (33 + (3 * i)))) rfl dX6_heardAt_33 ?_
        refine lv_iload_n hz.1 hz.2.1 dX6_heardAt_34 rfl (lv_at hl 3 rfl) ?_
        refine jne (tgt := 64) hz dX6_heardAt_35 (by decide) (by omega) (by omega) (fun c_35 => ?_) (fun c_35 => ?_)
        · refine lv_iconst (v := nI 0) hz.1 hz.2.1 dX6_heardAt_64 (by decide) ?_
          refine lv_ior hz.1 hz.2.1 dX6_heardAt_65 ?_
          refine toe (z := nI (sOr 0 (sPassF (G 0) p mn) (i + 1))) (by rw [fa_or]; simp [sOr, sPassF, c_35]) ?_
          refine lv_istore_n (lv' := [(3, .int (nI (sOr 0 (sPassF (G 0) p mn) (i + 1)))), (5, .int (nI (33 + (3 * i)))), (0, .ref (b 0)), (1, .int (nI p)), (2, .int (nI mn)), (4, .int (nI i))]) hz.1 hz.2.1 dX6_heardAt_66 rfl hl (by decide) rfl (fun ls hl => ?_)
          refine lv_iinc (v := nI (i + 1)) (lv' := [(4, .int (nI (i + 1))), (3, .int (nI (sOr 0 (sPassF (G 0) p mn) (i + 1)))), (5, .int (nI (33 + (3 * i)))), (0, .ref (b 0)), (1, .int (nI p)), (2, .int (nI mn))]) hz.1 hz.2.1 dX6_heardAt_67 hl (k := 5) rfl (nI_add _ 1) (by decide) rfl (fun ls hl => ?_)
          refine lv_goto (tgt := 5) hz.1 hz.2.1 dX6_heardAt_70 (by decide) ?_
          exact ih5 (i + 1) (by omega) (by omega) ls (lv_sub hl [3, 4, 5, 1, 0] rfl)
        · refine lv_aload_n hz.1 hz.2.1 dX6_heardAt_38 rfl (lv_at hl 1 rfl) ?_
          refine lv_iload_n hz.1 hz.2.1 dX6_heardAt_39 rfl (lv_at hl 2 rfl) ?_
          refine lv_aload_n hz.1 hz.2.1 dX6_heardAt_40 rfl (lv_at hl 1 rfl) ?_
          refine rg hz hinX6_heardAt hK hP 0 rfl rfl 0 (by decide) (List.mem_of_getElem? (i := 1) rfl) rfl (v := .ref (b 1)) rfl dX6_heardAt_41 ?_
          refine lv_iload hz.1 hz.2.1 dX6_heardAt_44 (lv_at hl 0 rfl) ?_
          refine lv_iconst (v := nI 1) hz.1 hz.2.1 dX6_heardAt_46 (by decide) ?_
          refine lv_iadd hz.1 hz.2.1 dX6_heardAt_47 ?_
          refine toe (z := nI ((33 + (3 * i)) + 1)) (nI_add _ _) ?_
          refine rald hz hK hP 1 0 rfl rfl (i := ((33 + (3 * i)) + 1)) (by omega) (by decide) (v := nI (G 0 ((33 + (3 * i)) + 1))) rfl dX6_heardAt_48 ?_
          refine lv_aload_n hz.1 hz.2.1 dX6_heardAt_49 rfl (lv_at hl 1 rfl) ?_
          refine rg hz hinX6_heardAt hK hP 0 rfl rfl 0 (by decide) (List.mem_of_getElem? (i := 1) rfl) rfl (v := .ref (b 1)) rfl dX6_heardAt_50 ?_
          refine lv_iload hz.1 hz.2.1 dX6_heardAt_53 (lv_at hl 0 rfl) ?_
          refine lv_iconst (v := nI 2) hz.1 hz.2.1 dX6_heardAt_55 (by decide) ?_
          refine lv_iadd hz.1 hz.2.1 dX6_heardAt_56 ?_
          refine toe (z := nI ((33 + (3 * i)) + 2)) (nI_add _ _) ?_
          refine rald hz hK hP 1 0 rfl rfl (i := ((33 + (3 * i)) + 2)) (by omega) (by decide) (v := nI (G 0 ((33 + (3 * i)) + 2))) rfl dX6_heardAt_57 ?_
          refine rdV (A := wA (mw b k I J G)) (As := [.int (nI p), .int (nI (G 0 ((33 + (3 * i)) + 1))), .int (nI (G 0 ((33 + (3 * i)) + 2)))]) (rest := [.int (nI (sOr 0 (sPassF (G 0) p mn) i))]) hz okYT (c6_notesBy l_ D k b I J G p (G 0 ((33 + (3 * i)) + 1)) (G 0 ((33 + (3 * i)) + 2)) hf (by omega) (by omega) (by omega)) (cwV 3 hz.2.2.2.2 gX6_heardAt_X6_notesBy rfl rfl rfl (by decide +kernel) ⟨Nat.le_of_ble_eq_true rfl, Nat.le_of_ble_eq_true rfl⟩) hK trivial hP hD hS 0 6 rfl rfl rfl rfl hl.1 rfl (Nat.le_of_ble_eq_true rfl) dX6_heardAt_58 ⟨Nat.zero_le _, Nat.zero_le _⟩ ?_
          refine lv_goto (tgt := 65) hz.1 hz.2.1 dX6_heardAt_61 (by decide) ?_
          refine lv_ior hz.1 hz.2.1 dX6_heardAt_65 ?_
          refine toe (z := nI (sOr 0 (sPassF (G 0) p mn) (i + 1))) (by rw [fa_or]; simp [sOr, sPassF, c_35]) ?_
          refine lv_istore_n (lv' := [(3, .int (nI (sOr 0 (sPassF (G 0) p mn) (i + 1)))), (5, .int (nI (33 + (3 * i)))), (0, .ref (b 0)), (1, .int (nI p)), (2, .int (nI mn)), (4, .int (nI i))]) hz.1 hz.2.1 dX6_heardAt_66 rfl hl (by decide) rfl (fun ls hl => ?_)
          refine lv_iinc (v := nI (i + 1)) (lv' := [(4, .int (nI (i + 1))), (3, .int (nI (sOr 0 (sPassF (G 0) p mn) (i + 1)))), (5, .int (nI (33 + (3 * i)))), (0, .ref (b 0)), (1, .int (nI p)), (2, .int (nI mn))]) hz.1 hz.2.1 dX6_heardAt_67 hl (k := 5) rfl (nI_add _ 1) (by decide) rfl (fun ls hl => ?_)
          refine lv_goto (tgt := 5) hz.1 hz.2.1 dX6_heardAt_70 (by decide) ?_
          exact ih5 (i + 1) (by omega) (by omega) ls (lv_sub hl [3, 4, 5, 1, 0] rfl)
  exact lp_5 _ 0 (by omega) (Nat.lt_succ_self _) ls (lv_sub hl [2, 3, 4, 1, 0] rfl)

theorem hinX6_isGuarded : ∀ w ∈ wsX60, w ∈ wsX6_isGuarded := fun _ h => List.mem_cons_of_mem _ (List.mem_append_right _ h)
set_option maxHeartbeats 4000000 in
set_option maxRecDepth 100000 in
theorem c6_isGuarded (l_ : Launch) (D : va_G) (k : Nat → ClassId) (b I J : Nat → Nat) (G : Nat → Nat → Nat) (p : Nat) (hf : Wf (G 0)) (hp : p < 9) : Met l_ yX6_isGuarded wsX6_isGuarded ({ frames := 0, cells := 0, slots := 0, locals := 0 }) (va_Pc [.ref (b 0), .int (nI p)] (wH YT D k (mw b k I J G))) (QcRead (bI ((G 0 2).testBit p))) 0 0 (fun _ => False) := by
  refine my_entry (cc := cX6_isGuarded) (maxL := 2) (ret := some .boolean) (by decide) rfl (Nat.le_of_ble_eq_true rfl) ?_
  intro p_ e_ s_ m_ bl_ me_ c_ hz hr hlk hB ls hl
  obtain ⟨hP, hK, hD0, -⟩ := hB
  have hD := wA.self hD0
  have hS : va_S (wA (mw b k I J G)) s_.heap s_.heap [] := va_S.rf
  have hl : lv_has ls 2 [(0, .ref (b 0)), (1, .int (nI p))] := hl
  have f0 := hf.n2
  have f1 := hf.n9
  have f2 := hf.fr
  have f3 := hf.gd
  refine lv_aload_n hz.1 hz.2.1 dX6_isGuarded_0 rfl (lv_at hl 0 rfl) ?_
  refine rg hz hinX6_isGuarded hK hP 0 rfl rfl 0 (by decide) (List.mem_of_getElem? (i := 1) rfl) rfl (v := .ref (b 1)) rfl dX6_isGuarded_1 ?_
  refine lv_iconst (v := nI 2) hz.1 hz.2.1 dX6_isGuarded_4 (by decide) ?_
  refine rald hz hK hP 1 0 rfl rfl (i := 2) (by omega) (by decide) (v := nI (G 0 2)) rfl dX6_isGuarded_5 ?_
  refine lv_iload_n hz.1 hz.2.1 dX6_isGuarded_6 rfl (lv_at hl 1 rfl) ?_
  refine lv_ishr hz.1 hz.2.1 dX6_isGuarded_7 ?_
  refine toe (z := nI ((G 0 2) / 2 ^ p)) (nI_shr (by omega) (by omega)) ?_
  refine lv_iconst (v := nI 1) hz.1 hz.2.1 dX6_isGuarded_8 (by decide) ?_
  refine lv_iand hz.1 hz.2.1 dX6_isGuarded_9 ?_
  refine toe (z := nI (((G 0 2) / 2 ^ p) % 2)) (nI_and1 _) ?_
  refine lv_iconst (v := nI 1) hz.1 hz.2.1 dX6_isGuarded_10 (by decide) ?_
  refine jne (tgt := 18) hz dX6_isGuarded_11 (by decide) (by omega) (by omega) (fun c_11 => ?_) (fun c_11 => ?_)
  · refine lv_iconst (v := nI 0) hz.1 hz.2.1 dX6_isGuarded_18 (by decide) ?_
    exact rd_zret hz hr hlk dX6_isGuarded_19 (bI_0 (by rw [Nat.testBit_eq_decide_div_mod_eq]; simp [c_11]))
  · refine lv_iconst (v := nI 1) hz.1 hz.2.1 dX6_isGuarded_14 (by decide) ?_
    refine lv_goto (tgt := 19) hz.1 hz.2.1 dX6_isGuarded_15 (by decide) ?_
    exact rd_zret hz hr hlk dX6_isGuarded_19 (bI_1 (by rw [Nat.testBit_eq_decide_div_mod_eq]; simp [c_11]))

theorem hinX6_isCut : ∀ w ∈ wsX60, w ∈ wsX6_isCut := fun _ h => List.mem_cons_of_mem _ (List.mem_append_right _ h)
set_option maxHeartbeats 4000000 in
set_option maxRecDepth 100000 in
theorem c6_isCut (l_ : Launch) (D : va_G) (k : Nat → ClassId) (b I J : Nat → Nat) (G : Nat → Nat → Nat) (w : Nat) (hf : Wf (G 0)) (hw : w < 8) : Met l_ yX6_isCut wsX6_isCut ({ frames := 0, cells := 0, slots := 0, locals := 0 }) (va_Pc [.ref (b 0), .int (nI w)] (wH YT D k (mw b k I J G))) (QcRead (bI (decide (G 0 (3 + w) = 4)))) 0 0 (fun _ => False) := by
  refine my_entry (cc := cX6_isCut) (maxL := 2) (ret := some .boolean) (by decide) rfl (Nat.le_of_ble_eq_true rfl) ?_
  intro p_ e_ s_ m_ bl_ me_ c_ hz hr hlk hB ls hl
  obtain ⟨hP, hK, hD0, -⟩ := hB
  have hD := wA.self hD0
  have hS : va_S (wA (mw b k I J G)) s_.heap s_.heap [] := va_S.rf
  have hl : lv_has ls 2 [(0, .ref (b 0)), (1, .int (nI w))] := hl
  have hk := hf.kd hw
  refine lv_aload_n hz.1 hz.2.1 dX6_isCut_0 rfl (lv_at hl 0 rfl) ?_
  refine rg hz hinX6_isCut hK hP 0 rfl rfl 0 (by decide) (List.mem_of_getElem? (i := 1) rfl) rfl (v := .ref (b 1)) rfl dX6_isCut_1 ?_
  refine lv_iconst (v := nI 3) hz.1 hz.2.1 dX6_isCut_4 (by decide) ?_
  refine lv_iload_n hz.1 hz.2.1 dX6_isCut_5 rfl (lv_at hl 1 rfl) ?_
  refine lv_iadd hz.1 hz.2.1 dX6_isCut_6 ?_
  refine toe (z := nI (3 + w)) (nI_add _ _) ?_
  refine rald hz hK hP 1 0 rfl rfl (i := (3 + w)) (by omega) (by decide) (v := nI (G 0 (3 + w))) rfl dX6_isCut_7 ?_
  refine lv_iconst (v := nI 4) hz.1 hz.2.1 dX6_isCut_8 (by decide) ?_
  refine jne (tgt := 16) hz dX6_isCut_9 (by decide) (by omega) (by omega) (fun c_9 => ?_) (fun c_9 => ?_)
  · refine lv_iconst (v := nI 0) hz.1 hz.2.1 dX6_isCut_16 (by decide) ?_
    exact rd_zret hz hr hlk dX6_isCut_17 (bI_0 (by simp [c_9]))
  · refine lv_iconst (v := nI 1) hz.1 hz.2.1 dX6_isCut_12 (by decide) ?_
    refine lv_goto (tgt := 17) hz.1 hz.2.1 dX6_isCut_13 (by decide) ?_
    exact rd_zret hz hr hlk dX6_isCut_17 (bI_1 (by simp [c_9]))

set_option maxHeartbeats 4000000 in
set_option maxRecDepth 100000 in
theorem c6_bits (l_ : Launch) (x : Nat) (hx : x < 2147483648) : Met l_ yX6_bits wsX6_bits ({ frames := 0, cells := 0, slots := 0, locals := 0 }) (va_Pc [.int (nI x)] (fun _ => True)) (QcRead (nI (sPop x))) 0 0 (fun _ => False) := by
  refine my_entry (cc := cX6_bits) (maxL := 3) (ret := some .int) (by decide) rfl (Nat.le_of_ble_eq_true rfl) ?_
  intro p_ e_ s_ m_ bl_ me_ c_ hz hr hlk hB ls hl
  have hl : lv_has ls 3 [(0, .int (nI x))] := hl
  refine lv_iconst (v := nI 0) hz.1 hz.2.1 dX6_bits_0 (by decide) ?_
  refine lv_istore_n (lv' := [(1, .int (nI 0)), (0, .int (nI x))]) hz.1 hz.2.1 dX6_bits_1 rfl hl (by decide) rfl (fun ls hl => ?_)
  refine lv_iload_n hz.1 hz.2.1 dX6_bits_2 rfl (lv_at hl 1 rfl) ?_
  refine lv_istore_n (lv' := [(2, .int (nI x)), (1, .int (nI 0)), (0, .int (nI x))]) hz.1 hz.2.1 dX6_bits_3 rfl hl (by decide) rfl (fun ls hl => ?_)
  have lp_4 : ∀ (n : Nat) (a : Nat) (y : Nat), (a + sPop y = sPop x) → (y ≤ x) → y < n → ∀ ls : Array Slot, lv_has ls 3 [(0, .int (nI x)), (1, .int (nI a)), (2, .int (nI y))] → W p_ l_ e_ ({ frames := 0, cells := 0, slots := 0, locals := 0 }) s_ m_ [.int (nI x)].toArray bl_ me_ c_ s_.heap [] 0 0 (MQ bl_ (QcRead (nI (sPop x))) [.int (nI x)].toArray s_ 0 0 (fun _ => False)) (F0 m_ 4 ls []) := by
    intro n
    induction n with
    | zero => intro a y ha hy hm; exact absurd hm (Nat.not_lt_zero _)
    | succ n ih4 =>
      intro a y ha hy hm ls hl
      refine lv_iload_n hz.1 hz.2.1 dX6_bits_4 rfl (lv_at hl 2 rfl) ?_
      refine jle0 (tgt := 21) hz dX6_bits_5 (by decide) (by omega) (fun c_5 => ?_) (fun c_5 => ?_)
      · subst c_5
        rw [sPop_0] at ha
        refine lv_iload_n hz.1 hz.2.1 dX6_bits_21 rfl (lv_at hl 1 rfl) ?_
        exact rd_iret hz hr hlk dX6_bits_22 (by rw [show a = sPop x by omega])
      · have h5 := sPop_s c_5
        have h6 := sPop_le x
        refine lv_iload_n hz.1 hz.2.1 dX6_bits_8 rfl (lv_at hl 1 rfl) ?_
        refine lv_iload_n hz.1 hz.2.1 dX6_bits_9 rfl (lv_at hl 2 rfl) ?_
        refine lv_iconst (v := nI 1) hz.1 hz.2.1 dX6_bits_10 (by decide) ?_
        refine lv_iand hz.1 hz.2.1 dX6_bits_11 ?_
        refine toe (z := nI (y % 2)) (nI_and1 _) ?_
        refine lv_iadd hz.1 hz.2.1 dX6_bits_12 ?_
        refine toe (z := nI (a + (y % 2))) (nI_add _ _) ?_
        refine lv_istore_n (lv' := [(1, .int (nI (a + (y % 2)))), (0, .int (nI x)), (2, .int (nI y))]) hz.1 hz.2.1 dX6_bits_13 rfl hl (by decide) rfl (fun ls hl => ?_)
        refine lv_iload_n hz.1 hz.2.1 dX6_bits_14 rfl (lv_at hl 2 rfl) ?_
        refine lv_iconst (v := nI 1) hz.1 hz.2.1 dX6_bits_15 (by decide) ?_
        refine lv_ishr hz.1 hz.2.1 dX6_bits_16 ?_
        refine toe (z := nI (y / 2)) (nI_shr (s := 1) (by omega) (by decide)) ?_
        refine lv_istore_n (lv' := [(2, .int (nI (y / 2))), (1, .int (nI (a + (y % 2)))), (0, .int (nI x))]) hz.1 hz.2.1 dX6_bits_17 rfl hl (by decide) rfl (fun ls hl => ?_)
        refine lv_goto (tgt := 4) hz.1 hz.2.1 dX6_bits_18 (by decide) ?_
        exact ih4 (a + y % 2) (y / 2) (by have := sPop_s c_5; omega) (by omega) (by omega) ls (lv_sub hl [2, 1, 0] rfl)
  exact lp_4 _ 0 x (Nat.zero_add _) (Nat.le_refl _) (Nat.lt_succ_self _) ls (lv_sub hl [2, 1, 0] rfl)
