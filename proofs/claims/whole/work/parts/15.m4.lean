theorem hinX6_sounds : ∀ w ∈ wsX60, w ∈ wsX6_sounds := fun _ h => List.mem_cons_of_mem _ (List.mem_append_right _ h)
set_option maxHeartbeats 4000000 in
set_option maxRecDepth 100000 in
theorem c6_sounds_bad (l_ : Launch) (D : va_G) (k : Nat → ClassId) (b I J : Nat → Nat) (G : Nat → Nat → Nat) (x1 x2 x3 : Int32) (hf : Wf (G 0)) (hb : (wIn x1 0 (G 0 0 - 1 - 1) && wIn x2 1 3 && wIn x3 0 1) = false) : Met l_ yX6_sounds wsX6_sounds ({ frames := 2, cells := 0, slots := 0, locals := 46 }) (va_Pc [.ref (b 0), .int x1, .int x2, .int x3] (wH YT D k (mw b k I J G))) (va_Qi (fun (r : Int32) (u : Unit) => r = -2) (fun (u : Unit) (t_ : State) => va_P D vwCl ((fun (_ : Unit) => mw b k I J (gset G 3 (sRef (G 3) 0))) u) t_.heap) (wA (mw b k I J G))) 0 0 (wA (mw b k I J G)) := by
  refine my_entry (cc := cX6_sounds) (maxL := 4) (ret := some .int) (by decide) rfl (Nat.le_of_ble_eq_true rfl) ?_
  intro p_ e_ s_ m_ bl_ me_ c_ hz hr hlk hB ls hl
  obtain ⟨hP, hK, hD0, -⟩ := hB
  have hD := wA.self hD0
  have hS : va_S (wA (mw b k I J G)) s_.heap s_.heap [] := va_S.rf
  have hl : lv_has ls 4 [(0, .ref (b 0)), (1, .int x1), (2, .int x2), (3, .int x3)] := hl
  have f0 := hf.n2
  have f1 := hf.n9
  have f2 := hf.fr
  have f3 := hf.gd
  refine lv_aload_n hz.1 hz.2.1 dX6_sounds_0 rfl (lv_at hl 0 rfl) ?_
  refine lv_iload_n hz.1 hz.2.1 dX6_sounds_1 rfl (lv_at hl 1 rfl) ?_
  refine rdV (A := wA (mw b k I J G)) (As := [.int x1]) (rest := []) hz okYT (c6_isWire l_ D k b I J G x1 hf) (cwV 1 hz.2.2.2.2 gX6_sounds_X6_isWire rfl rfl rfl (by decide +kernel) ⟨Nat.le_of_ble_eq_true rfl, Nat.le_of_ble_eq_true rfl⟩) hK trivial hP hD hS 0 6 rfl rfl rfl rfl hl.1 rfl (Nat.le_of_ble_eq_true rfl) dX6_sounds_2 ⟨Nat.zero_le _, Nat.zero_le _⟩ ?_
  refine zeq (tgt := 30) hz dX6_sounds_5 (by decide) (fun c_5 => ?_) (fun c_5 => ?_)
  · refine lv_aload_n hz.1 hz.2.1 dX6_sounds_30 rfl (lv_at hl 0 rfl) ?_
    refine lv_bipush (v := (-2)) hz.1 hz.2.1 dX6_sounds_31 (by decide) ?_
    refine wrV (A := wA (mw b k I J G)) (As := [.int (-2)]) (rest := []) hz okYT (c6_bad l_ D k b I J G (-2) ) (cwV 1 hz.2.2.2.2 gX6_sounds_X6_bad rfl rfl rfl (by decide +kernel) ⟨Nat.le_of_ble_eq_true rfl, Nat.le_of_ble_eq_true rfl⟩) hK trivial hP hD hS 0 6 rfl rfl rfl rfl hl.1 rfl (Nat.le_of_ble_eq_true rfl) dX6_sounds_33 ⟨Nat.zero_le _, Nat.zero_le _⟩ (fun r u H locs hp hP hS _ => ?_)
    obtain rfl : r = -2 := hp
    have hP : va_P D vwCl (mw b k I J (gset G 3 (sRef (G 3) 0))) H := hP
    have hD := mw_D (I' := I) (J' := J) (G' := gset G 3 (sRef (G 3) 0)) hD
    exact wr_iret hz hr hlk dX6_sounds_36 hS (()) hP (rfl)
  · refine lv_iload_n hz.1 hz.2.1 dX6_sounds_8 rfl (lv_at hl 2 rfl) ?_
    refine lv_i2l (v := x2.toInt64) hz.1 hz.2.1 dX6_sounds_9 (rfl) ?_
    refine lv_lconst (v := lN 1) hz.1 hz.2.1 dX6_sounds_10 (by decide) ?_
    refine lv_ldc2 (own := RX6) (v := lN 3) hz.1 hz.2.1 hz.2.2.2.1 (hz.2.2.2.2 (.constantLong RX6 64 (3)) (List.mem_of_getElem? (i := 1) rfl)) dX6_sounds_11 ?_
    refine rdS (As := [.long x2.toInt64, .long (lN 1), .long (lN 3)]) (rest := []) hz (c6_in l_ x2 1 3 (by omega) (by omega)) rfl (va_cwS 3 hz.2.2.2.2 gX6_sounds_X6_in rfl rfl rfl (by decide +kernel) ⟨Nat.le_of_ble_eq_true rfl, Nat.le_of_ble_eq_true rfl⟩) rfl hl.1 rfl (Nat.le_of_ble_eq_true rfl) dX6_sounds_14 ⟨Nat.zero_le _, Nat.zero_le _⟩ ?_
    refine zeq (tgt := 30) hz dX6_sounds_17 (by decide) (fun c_17 => ?_) (fun c_17 => ?_)
    · refine lv_aload_n hz.1 hz.2.1 dX6_sounds_30 rfl (lv_at hl 0 rfl) ?_
      refine lv_bipush (v := (-2)) hz.1 hz.2.1 dX6_sounds_31 (by decide) ?_
      refine wrV (A := wA (mw b k I J G)) (As := [.int (-2)]) (rest := []) hz okYT (c6_bad l_ D k b I J G (-2) ) (cwV 1 hz.2.2.2.2 gX6_sounds_X6_bad rfl rfl rfl (by decide +kernel) ⟨Nat.le_of_ble_eq_true rfl, Nat.le_of_ble_eq_true rfl⟩) hK trivial hP hD hS 0 6 rfl rfl rfl rfl hl.1 rfl (Nat.le_of_ble_eq_true rfl) dX6_sounds_33 ⟨Nat.zero_le _, Nat.zero_le _⟩ (fun r u H locs hp hP hS _ => ?_)
      obtain rfl : r = -2 := hp
      have hP : va_P D vwCl (mw b k I J (gset G 3 (sRef (G 3) 0))) H := hP
      have hD := mw_D (I' := I) (J' := J) (G' := gset G 3 (sRef (G 3) 0)) hD
      exact wr_iret hz hr hlk dX6_sounds_36 hS (()) hP (rfl)
    · refine lv_iload_n hz.1 hz.2.1 dX6_sounds_20 rfl (lv_at hl 3 rfl) ?_
      refine lv_i2l (v := x3.toInt64) hz.1 hz.2.1 dX6_sounds_21 (rfl) ?_
      refine lv_lconst (v := lN 0) hz.1 hz.2.1 dX6_sounds_22 (by decide) ?_
      refine lv_lconst (v := lN 1) hz.1 hz.2.1 dX6_sounds_23 (by decide) ?_
      refine rdS (As := [.long x3.toInt64, .long (lN 0), .long (lN 1)]) (rest := []) hz (c6_in l_ x3 0 1 (by omega) (by omega)) rfl (va_cwS 3 hz.2.2.2.2 gX6_sounds_X6_in rfl rfl rfl (by decide +kernel) ⟨Nat.le_of_ble_eq_true rfl, Nat.le_of_ble_eq_true rfl⟩) rfl hl.1 rfl (Nat.le_of_ble_eq_true rfl) dX6_sounds_24 ⟨Nat.zero_le _, Nat.zero_le _⟩ ?_
      refine zne (tgt := 37) hz dX6_sounds_27 (by decide) (fun c_27 => ?_) (fun c_27 => ?_)
      · simp [c_5, c_17, c_27] at hb
      · refine lv_aload_n hz.1 hz.2.1 dX6_sounds_30 rfl (lv_at hl 0 rfl) ?_
        refine lv_bipush (v := (-2)) hz.1 hz.2.1 dX6_sounds_31 (by decide) ?_
        refine wrV (A := wA (mw b k I J G)) (As := [.int (-2)]) (rest := []) hz okYT (c6_bad l_ D k b I J G (-2) ) (cwV 1 hz.2.2.2.2 gX6_sounds_X6_bad rfl rfl rfl (by decide +kernel) ⟨Nat.le_of_ble_eq_true rfl, Nat.le_of_ble_eq_true rfl⟩) hK trivial hP hD hS 0 6 rfl rfl rfl rfl hl.1 rfl (Nat.le_of_ble_eq_true rfl) dX6_sounds_33 ⟨Nat.zero_le _, Nat.zero_le _⟩ (fun r u H locs hp hP hS _ => ?_)
        obtain rfl : r = -2 := hp
        have hP : va_P D vwCl (mw b k I J (gset G 3 (sRef (G 3) 0))) H := hP
        have hD := mw_D (I' := I) (J' := J) (G' := gset G 3 (sRef (G 3) 0)) hD
        exact wr_iret hz hr hlk dX6_sounds_36 hS (()) hP (rfl)

set_option maxHeartbeats 4000000 in
set_option maxRecDepth 100000 in
theorem c6_sounds_ok (l_ : Launch) (D : va_G) (k : Nat → ClassId) (b I J : Nat → Nat) (G : Nat → Nat → Nat) (w s wh : Nat) (hf : Wf (G 0)) (h1 : w < G 0 0 - 1) (hs : 1 ≤ s) (hs2 : s ≤ 3) (h3 : wh ≤ 1) : Met l_ yX6_sounds wsX6_sounds ({ frames := 2, cells := 0, slots := 0, locals := 46 }) (va_Pc [.ref (b 0), .int (nI w), .int (nI s), .int (nI wh)] (wH YT D k (mw b k I J G))) (QcRead (nI (if wh = 0 then sLoud (G 0 (3 + w)) s else sNote (G 0) w))) 0 0 (fun _ => False) := by
  refine my_entry (cc := cX6_sounds) (maxL := 4) (ret := some .int) (by decide) rfl (Nat.le_of_ble_eq_true rfl) ?_
  intro p_ e_ s_ m_ bl_ me_ c_ hz hr hlk hB ls hl
  obtain ⟨hP, hK, hD0, -⟩ := hB
  have hD := wA.self hD0
  have hS : va_S (wA (mw b k I J G)) s_.heap s_.heap [] := va_S.rf
  have hl : lv_has ls 4 [(0, .ref (b 0)), (1, .int (nI w)), (2, .int (nI s)), (3, .int (nI wh))] := hl
  have f0 := hf.n2
  have f1 := hf.n9
  have f2 := hf.fr
  have f3 := hf.gd
  refine lv_aload_n hz.1 hz.2.1 dX6_sounds_0 rfl (lv_at hl 0 rfl) ?_
  refine lv_iload_n hz.1 hz.2.1 dX6_sounds_1 rfl (lv_at hl 1 rfl) ?_
  refine rdV (A := wA (mw b k I J G)) (As := [.int (nI w)]) (rest := []) hz okYT (c6_isWire l_ D k b I J G (nI w) hf) (cwV 1 hz.2.2.2.2 gX6_sounds_X6_isWire rfl rfl rfl (by decide +kernel) ⟨Nat.le_of_ble_eq_true rfl, Nat.le_of_ble_eq_true rfl⟩) hK trivial hP hD hS 0 6 rfl rfl rfl rfl hl.1 rfl (Nat.le_of_ble_eq_true rfl) dX6_sounds_2 ⟨Nat.zero_le _, Nat.zero_le _⟩ ?_
  refine zeq (tgt := 30) hz dX6_sounds_5 (by decide) (fun c_5 => ?_) (fun c_5 => ?_)
  · exact absurd ((wIn_ok (by omega) (by omega) (by omega)).symm.trans c_5) (by decide)
  · refine lv_iload_n hz.1 hz.2.1 dX6_sounds_8 rfl (lv_at hl 2 rfl) ?_
    refine lv_i2l (v := (nI s).toInt64) hz.1 hz.2.1 dX6_sounds_9 (rfl) ?_
    refine lv_lconst (v := lN 1) hz.1 hz.2.1 dX6_sounds_10 (by decide) ?_
    refine lv_ldc2 (own := RX6) (v := lN 3) hz.1 hz.2.1 hz.2.2.2.1 (hz.2.2.2.2 (.constantLong RX6 64 (3)) (List.mem_of_getElem? (i := 1) rfl)) dX6_sounds_11 ?_
    refine rdS (As := [.long ((nI s).toInt64), .long (lN 1), .long (lN 3)]) (rest := []) hz (c6_in l_ (nI s) 1 3 (by omega) (by omega)) rfl (va_cwS 3 hz.2.2.2.2 gX6_sounds_X6_in rfl rfl rfl (by decide +kernel) ⟨Nat.le_of_ble_eq_true rfl, Nat.le_of_ble_eq_true rfl⟩) rfl hl.1 rfl (Nat.le_of_ble_eq_true rfl) dX6_sounds_14 ⟨Nat.zero_le _, Nat.zero_le _⟩ ?_
    refine zeq (tgt := 30) hz dX6_sounds_17 (by decide) (fun c_17 => ?_) (fun c_17 => ?_)
    · exact absurd ((wIn_ok (by omega) (by omega) (by omega)).symm.trans c_17) (by decide)
    · refine lv_iload_n hz.1 hz.2.1 dX6_sounds_20 rfl (lv_at hl 3 rfl) ?_
      refine lv_i2l (v := (nI wh).toInt64) hz.1 hz.2.1 dX6_sounds_21 (rfl) ?_
      refine lv_lconst (v := lN 0) hz.1 hz.2.1 dX6_sounds_22 (by decide) ?_
      refine lv_lconst (v := lN 1) hz.1 hz.2.1 dX6_sounds_23 (by decide) ?_
      refine rdS (As := [.long ((nI wh).toInt64), .long (lN 0), .long (lN 1)]) (rest := []) hz (c6_in l_ (nI wh) 0 1 (by omega) (by omega)) rfl (va_cwS 3 hz.2.2.2.2 gX6_sounds_X6_in rfl rfl rfl (by decide +kernel) ⟨Nat.le_of_ble_eq_true rfl, Nat.le_of_ble_eq_true rfl⟩) rfl hl.1 rfl (Nat.le_of_ble_eq_true rfl) dX6_sounds_24 ⟨Nat.zero_le _, Nat.zero_le _⟩ ?_
      refine zne (tgt := 37) hz dX6_sounds_27 (by decide) (fun c_27 => ?_) (fun c_27 => ?_)
      · refine lv_iload_n hz.1 hz.2.1 dX6_sounds_37 rfl (lv_at hl 3 rfl) ?_
        refine jne0 (tgt := 50) hz dX6_sounds_38 (by decide) (by omega) (fun c_38 => ?_) (fun c_38 => ?_)
        · refine lv_aload_n hz.1 hz.2.1 dX6_sounds_50 rfl (lv_at hl 0 rfl) ?_
          refine lv_iload_n hz.1 hz.2.1 dX6_sounds_51 rfl (lv_at hl 1 rfl) ?_
          refine rdV (A := wA (mw b k I J G)) (As := [.int (nI w)]) (rest := []) hz okYT (c6_noteOf l_ D k b I J G w hf (by omega)) (cwV 1 hz.2.2.2.2 gX6_sounds_X6_noteOf rfl rfl rfl (by decide +kernel) ⟨Nat.le_of_ble_eq_true rfl, Nat.le_of_ble_eq_true rfl⟩) hK trivial hP hD hS 0 6 rfl rfl rfl rfl hl.1 rfl (Nat.le_of_ble_eq_true rfl) dX6_sounds_52 ⟨Nat.zero_le _, Nat.zero_le _⟩ ?_
          exact rd_iret hz hr hlk dX6_sounds_55 (by simp [c_38])
        · refine lv_aload_n hz.1 hz.2.1 dX6_sounds_41 rfl (lv_at hl 0 rfl) ?_
          refine lv_iload_n hz.1 hz.2.1 dX6_sounds_42 rfl (lv_at hl 1 rfl) ?_
          refine lv_iload_n hz.1 hz.2.1 dX6_sounds_43 rfl (lv_at hl 2 rfl) ?_
          refine rdV (A := wA (mw b k I J G)) (As := [.int (nI w), .int (nI s)]) (rest := []) hz okYT (c6_loud l_ D k b I J G w s hf (by omega) (by omega) (by omega)) (cwV 2 hz.2.2.2.2 gX6_sounds_X6_loud rfl rfl rfl (by decide +kernel) ⟨Nat.le_of_ble_eq_true rfl, Nat.le_of_ble_eq_true rfl⟩) hK trivial hP hD hS 0 6 rfl rfl rfl rfl hl.1 rfl (Nat.le_of_ble_eq_true rfl) dX6_sounds_44 ⟨Nat.zero_le _, Nat.zero_le _⟩ ?_
          refine lv_goto (tgt := 55) hz.1 hz.2.1 dX6_sounds_47 (by decide) ?_
          exact rd_iret hz hr hlk dX6_sounds_55 (by simp [c_38])
      · exact absurd ((wIn_ok (by omega) (by omega) (by omega)).symm.trans c_27) (by decide)

theorem hinX6_away : ∀ w ∈ wsX60, w ∈ wsX6_away := fun _ h => List.mem_cons_of_mem _ (List.mem_append_right _ h)
set_option maxHeartbeats 4000000 in
set_option maxRecDepth 100000 in
theorem c6_away_bad (l_ : Launch) (D : va_G) (k : Nat → ClassId) (b I J : Nat → Nat) (G : Nat → Nat → Nat) (x1 x2 : Int32) (hf : Wf (G 0)) (hb : (wIn x1 0 (G 0 0 - 1) && wIn x2 0 (G 0 0 - 1 - 1)) = false) : Met l_ yX6_away wsX6_away ({ frames := 2, cells := 0, slots := 0, locals := 46 }) (va_Pc [.ref (b 0), .int x1, .int x2] (wH YT D k (mw b k I J G))) (va_Qi (fun (r : Int32) (u : Unit) => r = -2) (fun (u : Unit) (t_ : State) => va_P D vwCl ((fun (_ : Unit) => mw b k I J (gset G 3 (sRef (G 3) 0))) u) t_.heap) (wA (mw b k I J G))) 0 0 (wA (mw b k I J G)) := by
  refine my_entry (cc := cX6_away) (maxL := 3) (ret := some .int) (by decide) rfl (Nat.le_of_ble_eq_true rfl) ?_
  intro p_ e_ s_ m_ bl_ me_ c_ hz hr hlk hB ls hl
  obtain ⟨hP, hK, hD0, -⟩ := hB
  have hD := wA.self hD0
  have hS : va_S (wA (mw b k I J G)) s_.heap s_.heap [] := va_S.rf
  have hl : lv_has ls 3 [(0, .ref (b 0)), (1, .int x1), (2, .int x2)] := hl
  have f0 := hf.n2
  have f1 := hf.n9
  have f2 := hf.fr
  have f3 := hf.gd
  refine lv_aload_n hz.1 hz.2.1 dX6_away_0 rfl (lv_at hl 0 rfl) ?_
  refine lv_iload_n hz.1 hz.2.1 dX6_away_1 rfl (lv_at hl 1 rfl) ?_
  refine rdV (A := wA (mw b k I J G)) (As := [.int x1]) (rest := []) hz okYT (c6_isPost l_ D k b I J G x1 hf) (cwV 1 hz.2.2.2.2 gX6_away_X6_isPost rfl rfl rfl (by decide +kernel) ⟨Nat.le_of_ble_eq_true rfl, Nat.le_of_ble_eq_true rfl⟩) hK trivial hP hD hS 0 6 rfl rfl rfl rfl hl.1 rfl (Nat.le_of_ble_eq_true rfl) dX6_away_2 ⟨Nat.zero_le _, Nat.zero_le _⟩ ?_
  refine zeq (tgt := 24) hz dX6_away_5 (by decide) (fun c_5 => ?_) (fun c_5 => ?_)
  · refine lv_aload_n hz.1 hz.2.1 dX6_away_24 rfl (lv_at hl 0 rfl) ?_
    refine lv_bipush (v := (-2)) hz.1 hz.2.1 dX6_away_25 (by decide) ?_
    refine wrV (A := wA (mw b k I J G)) (As := [.int (-2)]) (rest := []) hz okYT (c6_bad l_ D k b I J G (-2) ) (cwV 1 hz.2.2.2.2 gX6_away_X6_bad rfl rfl rfl (by decide +kernel) ⟨Nat.le_of_ble_eq_true rfl, Nat.le_of_ble_eq_true rfl⟩) hK trivial hP hD hS 0 6 rfl rfl rfl rfl hl.1 rfl (Nat.le_of_ble_eq_true rfl) dX6_away_27 ⟨Nat.zero_le _, Nat.zero_le _⟩ (fun r u H locs hp hP hS _ => ?_)
    obtain rfl : r = -2 := hp
    have hP : va_P D vwCl (mw b k I J (gset G 3 (sRef (G 3) 0))) H := hP
    have hD := mw_D (I' := I) (J' := J) (G' := gset G 3 (sRef (G 3) 0)) hD
    exact wr_iret hz hr hlk dX6_away_30 hS (()) hP (rfl)
  · refine lv_aload_n hz.1 hz.2.1 dX6_away_8 rfl (lv_at hl 0 rfl) ?_
    refine lv_iload_n hz.1 hz.2.1 dX6_away_9 rfl (lv_at hl 2 rfl) ?_
    refine rdV (A := wA (mw b k I J G)) (As := [.int x2]) (rest := []) hz okYT (c6_isWire l_ D k b I J G x2 hf) (cwV 1 hz.2.2.2.2 gX6_away_X6_isWire rfl rfl rfl (by decide +kernel) ⟨Nat.le_of_ble_eq_true rfl, Nat.le_of_ble_eq_true rfl⟩) hK trivial hP hD hS 0 6 rfl rfl rfl rfl hl.1 rfl (Nat.le_of_ble_eq_true rfl) dX6_away_10 ⟨Nat.zero_le _, Nat.zero_le _⟩ ?_
    refine zeq (tgt := 24) hz dX6_away_13 (by decide) (fun c_13 => ?_) (fun c_13 => ?_)
    · refine lv_aload_n hz.1 hz.2.1 dX6_away_24 rfl (lv_at hl 0 rfl) ?_
      refine lv_bipush (v := (-2)) hz.1 hz.2.1 dX6_away_25 (by decide) ?_
      refine wrV (A := wA (mw b k I J G)) (As := [.int (-2)]) (rest := []) hz okYT (c6_bad l_ D k b I J G (-2) ) (cwV 1 hz.2.2.2.2 gX6_away_X6_bad rfl rfl rfl (by decide +kernel) ⟨Nat.le_of_ble_eq_true rfl, Nat.le_of_ble_eq_true rfl⟩) hK trivial hP hD hS 0 6 rfl rfl rfl rfl hl.1 rfl (Nat.le_of_ble_eq_true rfl) dX6_away_27 ⟨Nat.zero_le _, Nat.zero_le _⟩ (fun r u H locs hp hP hS _ => ?_)
      obtain rfl : r = -2 := hp
      have hP : va_P D vwCl (mw b k I J (gset G 3 (sRef (G 3) 0))) H := hP
      have hD := mw_D (I' := I) (J' := J) (G' := gset G 3 (sRef (G 3) 0)) hD
      exact wr_iret hz hr hlk dX6_away_30 hS (()) hP (rfl)
    · simp [c_5, c_13] at hb

set_option maxHeartbeats 4000000 in
set_option maxRecDepth 100000 in
theorem c6_away_ok (l_ : Launch) (D : va_G) (k : Nat → ClassId) (b I J : Nat → Nat) (G : Nat → Nat → Nat) (p w : Nat) (hf : Wf (G 0)) (h0 : p < G 0 0) (h1 : w < G 0 0 - 1) : Met l_ yX6_away wsX6_away ({ frames := 2, cells := 0, slots := 0, locals := 46 }) (va_Pc [.ref (b 0), .int (nI p), .int (nI w)] (wH YT D k (mw b k I J G))) (QcRead (nI (sFar p w))) 0 0 (fun _ => False) := by
  refine my_entry (cc := cX6_away) (maxL := 3) (ret := some .int) (by decide) rfl (Nat.le_of_ble_eq_true rfl) ?_
  intro p_ e_ s_ m_ bl_ me_ c_ hz hr hlk hB ls hl
  obtain ⟨hP, hK, hD0, -⟩ := hB
  have hD := wA.self hD0
  have hS : va_S (wA (mw b k I J G)) s_.heap s_.heap [] := va_S.rf
  have hl : lv_has ls 3 [(0, .ref (b 0)), (1, .int (nI p)), (2, .int (nI w))] := hl
  have f0 := hf.n2
  have f1 := hf.n9
  have f2 := hf.fr
  have f3 := hf.gd
  refine lv_aload_n hz.1 hz.2.1 dX6_away_0 rfl (lv_at hl 0 rfl) ?_
  refine lv_iload_n hz.1 hz.2.1 dX6_away_1 rfl (lv_at hl 1 rfl) ?_
  refine rdV (A := wA (mw b k I J G)) (As := [.int (nI p)]) (rest := []) hz okYT (c6_isPost l_ D k b I J G (nI p) hf) (cwV 1 hz.2.2.2.2 gX6_away_X6_isPost rfl rfl rfl (by decide +kernel) ⟨Nat.le_of_ble_eq_true rfl, Nat.le_of_ble_eq_true rfl⟩) hK trivial hP hD hS 0 6 rfl rfl rfl rfl hl.1 rfl (Nat.le_of_ble_eq_true rfl) dX6_away_2 ⟨Nat.zero_le _, Nat.zero_le _⟩ ?_
  refine zeq (tgt := 24) hz dX6_away_5 (by decide) (fun c_5 => ?_) (fun c_5 => ?_)
  · exact absurd ((wIn_ok (by omega) (by omega) (by omega)).symm.trans c_5) (by decide)
  · refine lv_aload_n hz.1 hz.2.1 dX6_away_8 rfl (lv_at hl 0 rfl) ?_
    refine lv_iload_n hz.1 hz.2.1 dX6_away_9 rfl (lv_at hl 2 rfl) ?_
    refine rdV (A := wA (mw b k I J G)) (As := [.int (nI w)]) (rest := []) hz okYT (c6_isWire l_ D k b I J G (nI w) hf) (cwV 1 hz.2.2.2.2 gX6_away_X6_isWire rfl rfl rfl (by decide +kernel) ⟨Nat.le_of_ble_eq_true rfl, Nat.le_of_ble_eq_true rfl⟩) hK trivial hP hD hS 0 6 rfl rfl rfl rfl hl.1 rfl (Nat.le_of_ble_eq_true rfl) dX6_away_10 ⟨Nat.zero_le _, Nat.zero_le _⟩ ?_
    refine zeq (tgt := 24) hz dX6_away_13 (by decide) (fun c_13 => ?_) (fun c_13 => ?_)
    · exact absurd ((wIn_ok (by omega) (by omega) (by omega)).symm.trans c_13) (by decide)
    · refine lv_iload_n hz.1 hz.2.1 dX6_away_16 rfl (lv_at hl 1 rfl) ?_
      refine lv_iload_n hz.1 hz.2.1 dX6_away_17 rfl (lv_at hl 2 rfl) ?_
      refine rdS (As := [.int (nI p), .int (nI w)]) (rest := []) hz (c6_far l_ p w (by omega) (by omega)) rfl (va_cwS 2 hz.2.2.2.2 gX6_away_X6_far rfl rfl rfl (by decide +kernel) ⟨Nat.le_of_ble_eq_true rfl, Nat.le_of_ble_eq_true rfl⟩) rfl hl.1 rfl (Nat.le_of_ble_eq_true rfl) dX6_away_18 ⟨Nat.zero_le _, Nat.zero_le _⟩ ?_
      refine lv_goto (tgt := 30) hz.1 hz.2.1 dX6_away_21 (by decide) ?_
      exact rd_iret hz hr hlk dX6_away_30 (rfl)

theorem hinX6_heard : ∀ w ∈ wsX60, w ∈ wsX6_heard := fun _ h => List.mem_cons_of_mem _ (List.mem_append_right _ h)
set_option maxHeartbeats 4000000 in
set_option maxRecDepth 100000 in
theorem c6_heard_bad (l_ : Launch) (D : va_G) (k : Nat → ClassId) (b I J : Nat → Nat) (G : Nat → Nat → Nat) (x1 x2 : Int32) (hf : Wf (G 0)) (hb : (wIn x1 0 (G 0 0 - 1) && wIn x2 0 59) = false) : Met l_ yX6_heard wsX6_heard ({ frames := 2, cells := 0, slots := 0, locals := 46 }) (va_Pc [.ref (b 0), .int x1, .int x2] (wH YT D k (mw b k I J G))) (va_Qi (fun (r : Int32) (u : Unit) => r = -2) (fun (u : Unit) (t_ : State) => va_P D vwCl ((fun (_ : Unit) => mw b k I J (gset G 3 (sRef (G 3) 0))) u) t_.heap) (wA (mw b k I J G))) 0 0 (wA (mw b k I J G)) := by
  refine my_entry (cc := cX6_heard) (maxL := 3) (ret := some .int) (by decide) rfl (Nat.le_of_ble_eq_true rfl) ?_
  intro p_ e_ s_ m_ bl_ me_ c_ hz hr hlk hB ls hl
  obtain ⟨hP, hK, hD0, -⟩ := hB
  have hD := wA.self hD0
  have hS : va_S (wA (mw b k I J G)) s_.heap s_.heap [] := va_S.rf
  have hl : lv_has ls 3 [(0, .ref (b 0)), (1, .int x1), (2, .int x2)] := hl
  have f0 := hf.n2
  have f1 := hf.n9
  have f2 := hf.fr
  have f3 := hf.gd
  refine lv_aload_n hz.1 hz.2.1 dX6_heard_0 rfl (lv_at hl 0 rfl) ?_
  refine lv_iload_n hz.1 hz.2.1 dX6_heard_1 rfl (lv_at hl 1 rfl) ?_
  refine rdV (A := wA (mw b k I J G)) (As := [.int x1]) (rest := []) hz okYT (c6_isPost l_ D k b I J G x1 hf) (cwV 1 hz.2.2.2.2 gX6_heard_X6_isPost rfl rfl rfl (by decide +kernel) ⟨Nat.le_of_ble_eq_true rfl, Nat.le_of_ble_eq_true rfl⟩) hK trivial hP hD hS 0 6 rfl rfl rfl rfl hl.1 rfl (Nat.le_of_ble_eq_true rfl) dX6_heard_2 ⟨Nat.zero_le _, Nat.zero_le _⟩ ?_
  refine zeq (tgt := 24) hz dX6_heard_5 (by decide) (fun c_5 => ?_) (fun c_5 => ?_)
  · refine lv_aload_n hz.1 hz.2.1 dX6_heard_24 rfl (lv_at hl 0 rfl) ?_
    refine lv_bipush (v := (-2)) hz.1 hz.2.1 dX6_heard_25 (by decide) ?_
    refine wrV (A := wA (mw b k I J G)) (As := [.int (-2)]) (rest := []) hz okYT (c6_bad l_ D k b I J G (-2) ) (cwV 1 hz.2.2.2.2 gX6_heard_X6_bad rfl rfl rfl (by decide +kernel) ⟨Nat.le_of_ble_eq_true rfl, Nat.le_of_ble_eq_true rfl⟩) hK trivial hP hD hS 0 6 rfl rfl rfl rfl hl.1 rfl (Nat.le_of_ble_eq_true rfl) dX6_heard_27 ⟨Nat.zero_le _, Nat.zero_le _⟩ (fun r u H locs hp hP hS _ => ?_)
    obtain rfl : r = -2 := hp
    have hP : va_P D vwCl (mw b k I J (gset G 3 (sRef (G 3) 0))) H := hP
    have hD := mw_D (I' := I) (J' := J) (G' := gset G 3 (sRef (G 3) 0)) hD
    exact wr_iret hz hr hlk dX6_heard_30 hS (()) hP (rfl)
  · refine lv_iload_n hz.1 hz.2.1 dX6_heard_8 rfl (lv_at hl 2 rfl) ?_
    refine rdS (As := [.int x2]) (rest := []) hz (c6_isMinute l_ x2 ) rfl (va_cwS 1 hz.2.2.2.2 gX6_heard_X6_isMinute rfl rfl rfl (by decide +kernel) ⟨Nat.le_of_ble_eq_true rfl, Nat.le_of_ble_eq_true rfl⟩) rfl hl.1 rfl (Nat.le_of_ble_eq_true rfl) dX6_heard_9 ⟨Nat.zero_le _, Nat.zero_le _⟩ ?_
    refine zeq (tgt := 24) hz dX6_heard_12 (by decide) (fun c_12 => ?_) (fun c_12 => ?_)
    · refine lv_aload_n hz.1 hz.2.1 dX6_heard_24 rfl (lv_at hl 0 rfl) ?_
      refine lv_bipush (v := (-2)) hz.1 hz.2.1 dX6_heard_25 (by decide) ?_
      refine wrV (A := wA (mw b k I J G)) (As := [.int (-2)]) (rest := []) hz okYT (c6_bad l_ D k b I J G (-2) ) (cwV 1 hz.2.2.2.2 gX6_heard_X6_bad rfl rfl rfl (by decide +kernel) ⟨Nat.le_of_ble_eq_true rfl, Nat.le_of_ble_eq_true rfl⟩) hK trivial hP hD hS 0 6 rfl rfl rfl rfl hl.1 rfl (Nat.le_of_ble_eq_true rfl) dX6_heard_27 ⟨Nat.zero_le _, Nat.zero_le _⟩ (fun r u H locs hp hP hS _ => ?_)
      obtain rfl : r = -2 := hp
      have hP : va_P D vwCl (mw b k I J (gset G 3 (sRef (G 3) 0))) H := hP
      have hD := mw_D (I' := I) (J' := J) (G' := gset G 3 (sRef (G 3) 0)) hD
      exact wr_iret hz hr hlk dX6_heard_30 hS (()) hP (rfl)
    · simp [c_5, c_12] at hb

set_option maxHeartbeats 4000000 in
set_option maxRecDepth 100000 in
theorem c6_heard_ok (l_ : Launch) (D : va_G) (k : Nat → ClassId) (b I J : Nat → Nat) (G : Nat → Nat → Nat) (p mn : Nat) (hf : Wf (G 0)) (h0 : p < G 0 0) (h1 : mn < 60) : Met l_ yX6_heard wsX6_heard ({ frames := 5, cells := 0, slots := 0, locals := 117 }) (va_Pc [.ref (b 0), .int (nI p), .int (nI mn)] (wH YT D k (mw b k I J G))) (QcRead (nI (sHeard (G 0) p mn))) 0 0 (fun _ => False) := by
  refine my_entry (cc := cX6_heard) (maxL := 3) (ret := some .int) (by decide) rfl (Nat.le_of_ble_eq_true rfl) ?_
  intro p_ e_ s_ m_ bl_ me_ c_ hz hr hlk hB ls hl
  obtain ⟨hP, hK, hD0, -⟩ := hB
  have hD := wA.self hD0
  have hS : va_S (wA (mw b k I J G)) s_.heap s_.heap [] := va_S.rf
  have hl : lv_has ls 3 [(0, .ref (b 0)), (1, .int (nI p)), (2, .int (nI mn))] := hl
  have f0 := hf.n2
  have f1 := hf.n9
  have f2 := hf.fr
  have f3 := hf.gd
  refine lv_aload_n hz.1 hz.2.1 dX6_heard_0 rfl (lv_at hl 0 rfl) ?_
  refine lv_iload_n hz.1 hz.2.1 dX6_heard_1 rfl (lv_at hl 1 rfl) ?_
  refine rdV (A := wA (mw b k I J G)) (As := [.int (nI p)]) (rest := []) hz okYT (c6_isPost l_ D k b I J G (nI p) hf) (cwV 1 hz.2.2.2.2 gX6_heard_X6_isPost rfl rfl rfl (by decide +kernel) ⟨Nat.le_of_ble_eq_true rfl, Nat.le_of_ble_eq_true rfl⟩) hK trivial hP hD hS 0 6 rfl rfl rfl rfl hl.1 rfl (Nat.le_of_ble_eq_true rfl) dX6_heard_2 ⟨Nat.zero_le _, Nat.zero_le _⟩ ?_
  refine zeq (tgt := 24) hz dX6_heard_5 (by decide) (fun c_5 => ?_) (fun c_5 => ?_)
  · exact absurd ((wIn_ok (by omega) (by omega) (by omega)).symm.trans c_5) (by decide)
  · refine lv_iload_n hz.1 hz.2.1 dX6_heard_8 rfl (lv_at hl 2 rfl) ?_
    refine rdS (As := [.int (nI mn)]) (rest := []) hz (c6_isMinute l_ (nI mn) ) rfl (va_cwS 1 hz.2.2.2.2 gX6_heard_X6_isMinute rfl rfl rfl (by decide +kernel) ⟨Nat.le_of_ble_eq_true rfl, Nat.le_of_ble_eq_true rfl⟩) rfl hl.1 rfl (Nat.le_of_ble_eq_true rfl) dX6_heard_9 ⟨Nat.zero_le _, Nat.zero_le _⟩ ?_
    refine zeq (tgt := 24) hz dX6_heard_12 (by decide) (fun c_12 => ?_) (fun c_12 => ?_)
    · exact absurd ((wIn_ok (by omega) (by omega) (by omega)).symm.trans c_12) (by decide)
    · refine lv_aload_n hz.1 hz.2.1 dX6_heard_15 rfl (lv_at hl 0 rfl) ?_
      refine lv_iload_n hz.1 hz.2.1 dX6_heard_16 rfl (lv_at hl 1 rfl) ?_
      refine lv_iload_n hz.1 hz.2.1 dX6_heard_17 rfl (lv_at hl 2 rfl) ?_
      refine rdV (A := wA (mw b k I J G)) (As := [.int (nI p), .int (nI mn)]) (rest := []) hz okYT (c6_heardAt l_ D k b I J G p mn hf (by omega) (by omega)) (cwV 2 hz.2.2.2.2 gX6_heard_X6_heardAt rfl rfl rfl (by decide +kernel) ⟨Nat.le_of_ble_eq_true rfl, Nat.le_of_ble_eq_true rfl⟩) hK trivial hP hD hS 0 6 rfl rfl rfl rfl hl.1 rfl (Nat.le_of_ble_eq_true rfl) dX6_heard_18 ⟨Nat.zero_le _, Nat.zero_le _⟩ ?_
      refine lv_goto (tgt := 30) hz.1 hz.2.1 dX6_heard_21 (by decide) ?_
      exact rd_iret hz hr hlk dX6_heard_30 (rfl)

theorem hinX6_alarm : ∀ w ∈ wsX60, w ∈ wsX6_alarm := fun _ h => List.mem_cons_of_mem _ (List.mem_append_right _ h)
set_option maxHeartbeats 4000000 in
set_option maxRecDepth 100000 in
theorem c6_alarm_bad (l_ : Launch) (D : va_G) (k : Nat → ClassId) (b I J : Nat → Nat) (G : Nat → Nat → Nat) (x : Int32) (hb : wIn x 0 59 = false) : Met l_ yX6_alarm wsX6_alarm ({ frames := 2, cells := 0, slots := 0, locals := 45 }) (va_Pc [.ref (b 0), .int x] (wH YT D k (mw b k I J G))) (va_Qi (fun (r : Int32) (u : Unit) => r = -2) (fun (u : Unit) (t_ : State) => va_P D vwCl ((fun (_ : Unit) => mw b k I J (gset G 3 (sRef (G 3) 0))) u) t_.heap) (wA (mw b k I J G))) 0 0 (wA (mw b k I J G)) := by
  refine my_entry (cc := cX6_alarm) (maxL := 4) (ret := some .int) (by decide) rfl (Nat.le_of_ble_eq_true rfl) ?_
  intro p_ e_ s_ m_ bl_ me_ c_ hz hr hlk hB ls hl
  obtain ⟨hP, hK, hD0, -⟩ := hB
  have hD := wA.self hD0
  have hS : va_S (wA (mw b k I J G)) s_.heap s_.heap [] := va_S.rf
  have hl : lv_has ls 4 [(0, .ref (b 0)), (1, .int x)] := hl
  refine lv_iload_n hz.1 hz.2.1 dX6_alarm_0 rfl (lv_at hl 1 rfl) ?_
  refine rdS (As := [.int x]) (rest := []) hz (c6_isMinute l_ x ) rfl (va_cwS 1 hz.2.2.2.2 gX6_alarm_X6_isMinute rfl rfl rfl (by decide +kernel) ⟨Nat.le_of_ble_eq_true rfl, Nat.le_of_ble_eq_true rfl⟩) rfl hl.1 rfl (Nat.le_of_ble_eq_true rfl) dX6_alarm_1 ⟨Nat.zero_le _, Nat.zero_le _⟩ ?_
  refine zne (tgt := 14) hz dX6_alarm_4 (by decide) (fun c_4 => ?_) (fun c_4 => ?_)
  · simp [c_4] at hb
  · refine lv_aload_n hz.1 hz.2.1 dX6_alarm_7 rfl (lv_at hl 0 rfl) ?_
    refine lv_bipush (v := (-2)) hz.1 hz.2.1 dX6_alarm_8 (by decide) ?_
    refine wrV (A := wA (mw b k I J G)) (As := [.int (-2)]) (rest := []) hz okYT (c6_bad l_ D k b I J G (-2) ) (cwV 1 hz.2.2.2.2 gX6_alarm_X6_bad rfl rfl rfl (by decide +kernel) ⟨Nat.le_of_ble_eq_true rfl, Nat.le_of_ble_eq_true rfl⟩) hK trivial hP hD hS 0 6 rfl rfl rfl rfl hl.1 rfl (Nat.le_of_ble_eq_true rfl) dX6_alarm_10 ⟨Nat.zero_le _, Nat.zero_le _⟩ (fun r u H locs hp hP hS _ => ?_)
    obtain rfl : r = -2 := hp
    have hP : va_P D vwCl (mw b k I J (gset G 3 (sRef (G 3) 0))) H := hP
    have hD := mw_D (I' := I) (J' := J) (G' := gset G 3 (sRef (G 3) 0)) hD
    exact wr_iret hz hr hlk dX6_alarm_13 hS (()) hP (rfl)

set_option maxHeartbeats 4000000 in
set_option maxRecDepth 100000 in
theorem c6_alarm_ok (l_ : Launch) (D : va_G) (k : Nat → ClassId) (b I J : Nat → Nat) (G : Nat → Nat → Nat) (mn : Nat) (hf : Wf (G 0)) (h1 : mn < 60) : Met l_ yX6_alarm wsX6_alarm ({ frames := 5, cells := 0, slots := 0, locals := 117 }) (va_Pc [.ref (b 0), .int (nI mn)] (wH YT D k (mw b k I J G))) (QcRead (nI (sAlarm (G 0) mn))) 0 0 (fun _ => False) := by
  refine my_entry (cc := cX6_alarm) (maxL := 4) (ret := some .int) (by decide) rfl (Nat.le_of_ble_eq_true rfl) ?_
  intro p_ e_ s_ m_ bl_ me_ c_ hz hr hlk hB ls hl
  obtain ⟨hP, hK, hD0, -⟩ := hB
  have hD := wA.self hD0
  have hS : va_S (wA (mw b k I J G)) s_.heap s_.heap [] := va_S.rf
  have hl : lv_has ls 4 [(0, .ref (b 0)), (1, .int (nI mn))] := hl
  have f0 := hf.n2
  have f1 := hf.n9
  have f2 := hf.fr
  have f3 := hf.gd
  refine lv_iload_n hz.1 hz.2.1 dX6_alarm_0 rfl (lv_at hl 1 rfl) ?_
  refine rdS (As := [.int (nI mn)]) (rest := []) hz (c6_isMinute l_ (nI mn) ) rfl (va_cwS 1 hz.2.2.2.2 gX6_alarm_X6_isMinute rfl rfl rfl (by decide +kernel) ⟨Nat.le_of_ble_eq_true rfl, Nat.le_of_ble_eq_true rfl⟩) rfl hl.1 rfl (Nat.le_of_ble_eq_true rfl) dX6_alarm_1 ⟨Nat.zero_le _, Nat.zero_le _⟩ ?_
  refine zne (tgt := 14) hz dX6_alarm_4 (by decide) (fun c_4 => ?_) (fun c_4 => ?_)
  · refine lv_iconst (v := nI 0) hz.1 hz.2.1 dX6_alarm_14 (by decide) ?_
    refine lv_istore_n (lv' := [(2, .int (nI 0)), (0, .ref (b 0)), (1, .int (nI mn))]) hz.1 hz.2.1 dX6_alarm_15 rfl hl (by decide) rfl (fun ls hl => ?_)
    refine lv_iconst (v := nI 0) hz.1 hz.2.1 dX6_alarm_16 (by decide) ?_
    refine lv_istore_n (lv' := [(3, .int (nI 0)), (2, .int (nI 0)), (0, .ref (b 0)), (1, .int (nI mn))]) hz.1 hz.2.1 dX6_alarm_17 rfl hl (by decide) rfl (fun ls hl => ?_)
    have lp_18 : ∀ (fu : Nat) (i : Nat), (i ≤ G 0 0) → G 0 0 - i < fu → ∀ ls : Array Slot, lv_has ls 4 [(0, .ref (b 0)), (1, .int (nI mn)), (2, .int (nI (fb_ct (sAlF (G 0) mn) i))), (3, .int (nI i))] → W p_ l_ e_ ({ frames := 5, cells := 0, slots := 0, locals := 117 }) s_ m_ [.ref (b 0), .int (nI mn)].toArray bl_ me_ c_ s_.heap [] 0 0 (MQ bl_ (QcRead (nI (sAlarm (G 0) mn))) [.ref (b 0), .int (nI mn)].toArray s_ 0 0 (fun _ => False)) (F0 m_ 18 ls []) := by
      intro fu
      induction fu with
      | zero => intro i hi hm; exact absurd hm (Nat.not_lt_zero _)
      | succ fu ih18 =>
        intro i hi hm ls hl
        refine lv_iload_n hz.1 hz.2.1 dX6_alarm_18 rfl (lv_at hl 3 rfl) ?_
        refine lv_aload_n hz.1 hz.2.1 dX6_alarm_19 rfl (lv_at hl 0 rfl) ?_
        refine rdV (A := wA (mw b k I J G)) (As := []) (rest := [.int (nI i)]) hz okYT (c6_line l_ D k b I J G  ) (cwV 0 hz.2.2.2.2 gX6_alarm_X6_line rfl rfl rfl (by decide +kernel) ⟨Nat.le_of_ble_eq_true rfl, Nat.le_of_ble_eq_true rfl⟩) hK trivial hP hD hS 0 6 rfl rfl rfl rfl hl.1 rfl (Nat.le_of_ble_eq_true rfl) dX6_alarm_20 ⟨Nat.zero_le _, Nat.zero_le _⟩ ?_
        refine jge (tgt := 57) hz dX6_alarm_23 (by decide) (by omega) (by omega) (fun c_23 => ?_) (fun c_23 => ?_)
        · obtain rfl : i = G 0 0 := by omega
          refine lv_iload_n hz.1 hz.2.1 dX6_alarm_57 rfl (lv_at hl 2 rfl) ?_
          exact rd_iret hz hr hlk dX6_alarm_58 (rfl)
        · refine lv_iload_n hz.1 hz.2.1 dX6_alarm_26 rfl (lv_at hl 2 rfl) ?_
          refine lv_aload_n hz.1 hz.2.1 dX6_alarm_27 rfl (lv_at hl 0 rfl) ?_
          refine lv_iload_n hz.1 hz.2.1 dX6_alarm_28 rfl (lv_at hl 3 rfl) ?_
          refine rdV (A := wA (mw b k I J G)) (As := [.int (nI i)]) (rest := [.int (nI (fb_ct (sAlF (G 0) mn) i))]) hz okYT (c6_isGuarded l_ D k b I J G i hf (by omega)) (cwV 1 hz.2.2.2.2 gX6_alarm_X6_isGuarded rfl rfl rfl (by decide +kernel) ⟨Nat.le_of_ble_eq_true rfl, Nat.le_of_ble_eq_true rfl⟩) hK trivial hP hD hS 0 6 rfl rfl rfl rfl hl.1 rfl (Nat.le_of_ble_eq_true rfl) dX6_alarm_29 ⟨Nat.zero_le _, Nat.zero_le _⟩ ?_
          refine zeq (tgt := 48) hz dX6_alarm_32 (by decide) (fun c_32 => ?_) (fun c_32 => ?_)
          · refine lv_iconst (v := nI 0) hz.1 hz.2.1 dX6_alarm_48 (by decide) ?_
            refine lv_iadd hz.1 hz.2.1 dX6_alarm_49 ?_
            refine toe (z := nI (fb_ct (sAlF (G 0) mn) (i + 1))) (by rw [nI_add, fb_ct_succ]; simp [sAlF, c_4, c_23, c_32]) ?_
            refine lv_istore_n (lv' := [(2, .int (nI (fb_ct (sAlF (G 0) mn) (i + 1)))), (0, .ref (b 0)), (1, .int (nI mn)), (3, .int (nI i))]) hz.1 hz.2.1 dX6_alarm_50 rfl hl (by decide) rfl (fun ls hl => ?_)
            refine lv_iinc (v := nI (i + 1)) (lv' := [(3, .int (nI (i + 1))), (2, .int (nI (fb_ct (sAlF (G 0) mn) (i + 1)))), (0, .ref (b 0)), (1, .int (nI mn))]) hz.1 hz.2.1 dX6_alarm_51 hl (k := 3) rfl (nI_add _ 1) (by decide) rfl (fun ls hl => ?_)
            refine lv_goto (tgt := 18) hz.1 hz.2.1 dX6_alarm_54 (by decide) ?_
            exact ih18 (i + 1) (by omega) (by omega) ls (lv_sub hl [2, 3, 1, 0] rfl)
          · have hh := sHeard_lt (G 0) i mn
            refine lv_aload_n hz.1 hz.2.1 dX6_alarm_35 rfl (lv_at hl 0 rfl) ?_
            refine lv_iload_n hz.1 hz.2.1 dX6_alarm_36 rfl (lv_at hl 3 rfl) ?_
            refine lv_iload_n hz.1 hz.2.1 dX6_alarm_37 rfl (lv_at hl 1 rfl) ?_
            refine rdV (A := wA (mw b k I J G)) (As := [.int (nI i), .int (nI mn)]) (rest := [.int (nI (fb_ct (sAlF (G 0) mn) i))]) hz okYT (c6_heardAt l_ D k b I J G i mn hf (by omega) (by omega)) (cwV 2 hz.2.2.2.2 gX6_alarm_X6_heardAt rfl rfl rfl (by decide +kernel) ⟨Nat.le_of_ble_eq_true rfl, Nat.le_of_ble_eq_true rfl⟩) hK trivial hP hD hS 0 6 rfl rfl rfl rfl hl.1 rfl (Nat.le_of_ble_eq_true rfl) dX6_alarm_38 ⟨Nat.zero_le _, Nat.zero_le _⟩ ?_
            refine jeq0 (tgt := 48) hz dX6_alarm_41 (by decide) (by omega) (fun c_41 => ?_) (fun c_41 => ?_)
            · refine lv_iconst (v := nI 0) hz.1 hz.2.1 dX6_alarm_48 (by decide) ?_
              refine lv_iadd hz.1 hz.2.1 dX6_alarm_49 ?_
              refine toe (z := nI (fb_ct (sAlF (G 0) mn) (i + 1))) (by rw [nI_add, fb_ct_succ]; simp [sAlF, c_4, c_23, c_32, c_41]) ?_
              refine lv_istore_n (lv' := [(2, .int (nI (fb_ct (sAlF (G 0) mn) (i + 1)))), (0, .ref (b 0)), (1, .int (nI mn)), (3, .int (nI i))]) hz.1 hz.2.1 dX6_alarm_50 rfl hl (by decide) rfl (fun ls hl => ?_)
              refine lv_iinc (v := nI (i + 1)) (lv' := [(3, .int (nI (i + 1))), (2, .int (nI (fb_ct (sAlF (G 0) mn) (i + 1)))), (0, .ref (b 0)), (1, .int (nI mn))]) hz.1 hz.2.1 dX6_alarm_51 hl (k := 3) rfl (nI_add _ 1) (by decide) rfl (fun ls hl => ?_)
              refine lv_goto (tgt := 18) hz.1 hz.2.1 dX6_alarm_54 (by decide) ?_
              exact ih18 (i + 1) (by omega) (by omega) ls (lv_sub hl [2, 3, 1, 0] rfl)
            · refine lv_iconst (v := nI 1) hz.1 hz.2.1 dX6_alarm_44 (by decide) ?_
              refine lv_goto (tgt := 49) hz.1 hz.2.1 dX6_alarm_45 (by decide) ?_
              refine lv_iadd hz.1 hz.2.1 dX6_alarm_49 ?_
              refine toe (z := nI (fb_ct (sAlF (G 0) mn) (i + 1))) (by rw [nI_add, fb_ct_succ]; simp [sAlF, c_4, c_23, c_32, c_41]) ?_
              refine lv_istore_n (lv' := [(2, .int (nI (fb_ct (sAlF (G 0) mn) (i + 1)))), (0, .ref (b 0)), (1, .int (nI mn)), (3, .int (nI i))]) hz.1 hz.2.1 dX6_alarm_50 rfl hl (by decide) rfl (fun ls hl => ?_)
              refine lv_iinc (v := nI (i + 1)) (lv' := [(3, .int (nI (i + 1))), (2, .int (nI (fb_ct (sAlF (G 0) mn) (i + 1)))), (0, .ref (b 0)), (1, .int (nI mn))]) hz.1 hz.2.1 dX6_alarm_51 hl (k := 3) rfl (nI_add _ 1) (by decide) rfl (fun ls hl => ?_)
              refine lv_goto (tgt := 18) hz.1 hz.2.1 dX6_alarm_54 (by decide) ?_
              exact ih18 (i + 1) (by omega) (by omega) ls (lv_sub hl [2, 3, 1, 0] rfl)
    exact lp_18 _ 0 (by omega) (Nat.lt_succ_self _) ls (lv_sub hl [2, 3, 1, 0] rfl)
  · exact absurd ((wIn_ok (by omega) (by omega) (by omega)).symm.trans c_4) (by decide)

theorem hinX6_which : ∀ w ∈ wsX60, w ∈ wsX6_which := fun _ h => List.mem_cons_of_mem _ (List.mem_append_right _ h)
set_option maxHeartbeats 4000000 in
set_option maxRecDepth 100000 in
theorem c6_which_ok (l_ : Launch) (D : va_G) (k : Nat → ClassId) (b I J : Nat → Nat) (G : Nat → Nat → Nat) (pa na pb nb : Nat) (x : Int32) (hf : Wf (G 0)) (h0 : pa < G 0 0) (h1 : pb < G 0 0) (h2 : pa ≠ pb) (h3 : na < 4096) (h4 : nb < 4096) (hx : -1 ≤ x) : Met l_ yX6_which wsX6_which ({ frames := 4, cells := 0, slots := 0, locals := 92 }) (va_Pc [.ref (b 0), .int (nI pa), .int (nI na), .int (nI pb), .int (nI nb), .int x] (wH YT D k (mw b k I J G))) (QcRead (sWhich (G 0) pa na pb nb x)) 0 0 (fun _ => False) := by
  refine my_entry (cc := cX6_which) (maxL := 10) (ret := some .int) (by decide) rfl (Nat.le_of_ble_eq_true rfl) ?_
  intro p_ e_ s_ m_ bl_ me_ c_ hz hr hlk hB ls hl
  obtain ⟨hP, hK, hD0, -⟩ := hB
  have hD := wA.self hD0
  have hS : va_S (wA (mw b k I J G)) s_.heap s_.heap [] := va_S.rf
  have hl : lv_has ls 10 [(0, .ref (b 0)), (1, .int (nI pa)), (2, .int (nI na)), (3, .int (nI pb)), (4, .int (nI nb)), (5, .int x)] := hl
  have f0 := hf.n2
  have f1 := hf.n9
  have f2 := hf.fr
  have f3 := hf.gd
  refine lv_aload_n hz.1 hz.2.1 dX6_which_0 rfl (lv_at hl 0 rfl) ?_
  refine lv_iload_n hz.1 hz.2.1 dX6_which_1 rfl (lv_at hl 1 rfl) ?_
  refine rdV (A := wA (mw b k I J G)) (As := [.int (nI pa)]) (rest := []) hz okYT (c6_isPost l_ D k b I J G (nI pa) hf) (cwV 1 hz.2.2.2.2 gX6_which_X6_isPost rfl rfl rfl (by decide +kernel) ⟨Nat.le_of_ble_eq_true rfl, Nat.le_of_ble_eq_true rfl⟩) hK trivial hP hD hS 0 6 rfl rfl rfl rfl hl.1 rfl (Nat.le_of_ble_eq_true rfl) dX6_which_2 ⟨Nat.zero_le _, Nat.zero_le _⟩ ?_
  refine zeq (tgt := 52) hz dX6_which_5 (by decide) (fun c_5 => ?_) (fun c_5 => ?_)
  · exact absurd ((wIn_ok (by omega) (by omega) (by omega)).symm.trans c_5) (by decide)
  · refine lv_aload_n hz.1 hz.2.1 dX6_which_8 rfl (lv_at hl 0 rfl) ?_
    refine lv_iload_n hz.1 hz.2.1 dX6_which_9 rfl (lv_at hl 3 rfl) ?_
    refine rdV (A := wA (mw b k I J G)) (As := [.int (nI pb)]) (rest := []) hz okYT (c6_isPost l_ D k b I J G (nI pb) hf) (cwV 1 hz.2.2.2.2 gX6_which_X6_isPost rfl rfl rfl (by decide +kernel) ⟨Nat.le_of_ble_eq_true rfl, Nat.le_of_ble_eq_true rfl⟩) hK trivial hP hD hS 0 6 rfl rfl rfl rfl hl.1 rfl (Nat.le_of_ble_eq_true rfl) dX6_which_10 ⟨Nat.zero_le _, Nat.zero_le _⟩ ?_
    refine zeq (tgt := 52) hz dX6_which_13 (by decide) (fun c_13 => ?_) (fun c_13 => ?_)
    · exact absurd ((wIn_ok (by omega) (by omega) (by omega)).symm.trans c_13) (by decide)
    · refine lv_iload_n hz.1 hz.2.1 dX6_which_16 rfl (lv_at hl 1 rfl) ?_
      refine lv_iload_n hz.1 hz.2.1 dX6_which_17 rfl (lv_at hl 3 rfl) ?_
      refine jeq (tgt := 52) hz dX6_which_18 (by decide) (by omega) (by omega) (fun c_18 => ?_) (fun c_18 => ?_)
      · exact absurd c_18 h2
      · refine lv_iload_n hz.1 hz.2.1 dX6_which_21 rfl (lv_at hl 2 rfl) ?_
        refine lv_i2l (v := (nI na).toInt64) hz.1 hz.2.1 dX6_which_22 (rfl) ?_
        refine lv_lconst (v := lN 0) hz.1 hz.2.1 dX6_which_23 (by decide) ?_
        refine lv_ldc2 (own := RX6) (v := lN 4095) hz.1 hz.2.1 hz.2.2.2.1 (hz.2.2.2.2 (.constantLong RX6 144 (4095)) (List.mem_of_getElem? (i := 1) rfl)) dX6_which_24 ?_
        refine rdS (As := [.long ((nI na).toInt64), .long (lN 0), .long (lN 4095)]) (rest := []) hz (c6_in l_ (nI na) 0 4095 (by omega) (by omega)) rfl (va_cwS 3 hz.2.2.2.2 gX6_which_X6_in rfl rfl rfl (by decide +kernel) ⟨Nat.le_of_ble_eq_true rfl, Nat.le_of_ble_eq_true rfl⟩) rfl hl.1 rfl (Nat.le_of_ble_eq_true rfl) dX6_which_27 ⟨Nat.zero_le _, Nat.zero_le _⟩ ?_
        refine zeq (tgt := 52) hz dX6_which_30 (by decide) (fun c_30 => ?_) (fun c_30 => ?_)
        · exact absurd ((wIn_ok (by omega) (by omega) (by omega)).symm.trans c_30) (by decide)
        · refine lv_iload hz.1 hz.2.1 dX6_which_33 (lv_at hl 4 rfl) ?_
          refine lv_i2l (v := (nI nb).toInt64) hz.1 hz.2.1 dX6_which_35 (rfl) ?_
          refine lv_lconst (v := lN 0) hz.1 hz.2.1 dX6_which_36 (by decide) ?_
          refine lv_ldc2 (own := RX6) (v := lN 4095) hz.1 hz.2.1 hz.2.2.2.1 (hz.2.2.2.2 (.constantLong RX6 144 (4095)) (List.mem_of_getElem? (i := 1) rfl)) dX6_which_37 ?_
          refine rdS (As := [.long ((nI nb).toInt64), .long (lN 0), .long (lN 4095)]) (rest := []) hz (c6_in l_ (nI nb) 0 4095 (by omega) (by omega)) rfl (va_cwS 3 hz.2.2.2.2 gX6_which_X6_in rfl rfl rfl (by decide +kernel) ⟨Nat.le_of_ble_eq_true rfl, Nat.le_of_ble_eq_true rfl⟩) rfl hl.1 rfl (Nat.le_of_ble_eq_true rfl) dX6_which_40 ⟨Nat.zero_le _, Nat.zero_le _⟩ ?_
          refine zeq (tgt := 52) hz dX6_which_43 (by decide) (fun c_43 => ?_) (fun c_43 => ?_)
          · exact absurd ((wIn_ok (by omega) (by omega) (by omega)).symm.trans c_43) (by decide)
          · refine lv_iload hz.1 hz.2.1 dX6_which_46 (lv_at hl 5 rfl) ?_
            refine lv_iconst (v := (-1)) hz.1 hz.2.1 dX6_which_48 (by decide) ?_
            refine lv_icmp_ge (tgt := 59) hz.1 hz.2.1 dX6_which_49 (by decide) (fun c_49 => ?_) (fun c_49 => ?_)
            · refine lv_iconst (v := nI 0) hz.1 hz.2.1 dX6_which_59 (by decide) ?_
              refine lv_istore (lv' := [(6, .int (nI 0)), (0, .ref (b 0)), (1, .int (nI pa)), (2, .int (nI na)), (3, .int (nI pb)), (4, .int (nI nb)), (5, .int x)]) hz.1 hz.2.1 dX6_which_60 hl (by decide) rfl (fun ls hl => ?_)
              refine lv_bipush (v := (-5)) hz.1 hz.2.1 dX6_which_62 (by decide) ?_
              refine lv_istore (lv' := [(7, .int (-5)), (6, .int (nI 0)), (0, .ref (b 0)), (1, .int (nI pa)), (2, .int (nI na)), (3, .int (nI pb)), (4, .int (nI nb)), (5, .int x)]) hz.1 hz.2.1 dX6_which_64 hl (by decide) rfl (fun ls hl => ?_)
              refine lv_iconst (v := nI 0) hz.1 hz.2.1 dX6_which_66 (by decide) ?_
              refine lv_istore (lv' := [(8, .int (nI 0)), (7, .int (-5)), (6, .int (nI 0)), (0, .ref (b 0)), (1, .int (nI pa)), (2, .int (nI na)), (3, .int (nI pb)), (4, .int (nI nb)), (5, .int x)]) hz.1 hz.2.1 dX6_which_67 hl (by decide) rfl (fun ls hl => ?_)
              have lp_69 : ∀ (fu : Nat) (w : Nat), (w ≤ G 0 0 - 1) → G 0 0 - 1 - w < fu → ∀ ls : Array Slot, lv_has ls 10 [(0, .ref (b 0)), (1, .int (nI pa)), (2, .int (nI na)), (3, .int (nI pb)), (4, .int (nI nb)), (5, .int x), (6, .int (nI (fb_ct (sWhP (G 0) pa na pb nb) (4 * w)))), (7, .int (sWhF (sWhP (G 0) pa na pb nb) x (4 * w))), (8, .int (nI w))] → W p_ l_ e_ ({ frames := 4, cells := 0, slots := 0, locals := 92 }) s_ m_ [.ref (b 0), .int (nI pa), .int (nI na), .int (nI pb), .int (nI nb), .int x].toArray bl_ me_ c_ s_.heap [] 0 0 (MQ bl_ (QcRead (sWhich (G 0) pa na pb nb x)) [.ref (b 0), .int (nI pa), .int (nI na), .int (nI pb), .int (nI nb), .int x].toArray s_ 0 0 (fun _ => False)) (F0 m_ 69 ls []) := by
                intro fu
                induction fu with
                | zero => intro w hw hm; exact absurd hm (Nat.not_lt_zero _)
                | succ fu ih69 =>
                  intro w hw hm ls hl
                  refine lv_iload hz.1 hz.2.1 dX6_which_69 (lv_at hl 8 rfl) ?_
                  refine lv_aload_n hz.1 hz.2.1 dX6_which_71 rfl (lv_at hl 0 rfl) ?_
                  refine rdV (A := wA (mw b k I J G)) (As := []) (rest := [.int (nI w)]) hz okYT (c6_wires l_ D k b I J G  (by omega)) (cwV 0 hz.2.2.2.2 gX6_which_X6_wires rfl rfl rfl (by decide +kernel) ⟨Nat.le_of_ble_eq_true rfl, Nat.le_of_ble_eq_true rfl⟩) hK trivial hP hD hS 0 6 rfl rfl rfl rfl hl.1 rfl (Nat.le_of_ble_eq_true rfl) dX6_which_72 ⟨Nat.zero_le _, Nat.zero_le _⟩ ?_
                  refine jge (tgt := 151) hz dX6_which_75 (by decide) (by omega) (by omega) (fun c_75 => ?_) (fun c_75 => ?_)
                  · obtain rfl : w = G 0 0 - 1 := by omega
                    refine lv_iload hz.1 hz.2.1 dX6_which_151 (lv_at hl 5 rfl) ?_
                    refine lv_iconst (v := (-1)) hz.1 hz.2.1 dX6_which_153 (by decide) ?_
                    refine lv_icmp_ne (tgt := 162) hz.1 hz.2.1 dX6_which_154 (by decide) (fun c_154 => ?_) (fun c_154 => ?_)
                    · refine lv_iload hz.1 hz.2.1 dX6_which_162 (lv_at hl 7 rfl) ?_
                      exact rd_iret hz hr hlk dX6_which_164 (by simp [sWhich, c_154])
                    · refine lv_iload hz.1 hz.2.1 dX6_which_157 (lv_at hl 6 rfl) ?_
                      refine lv_goto (tgt := 164) hz.1 hz.2.1 dX6_which_159 (by decide) ?_
                      exact rd_iret hz hr hlk dX6_which_164 (by simp [sWhich, c_154])
                  · refine lv_iconst (v := nI 0) hz.1 hz.2.1 dX6_which_78 (by decide) ?_
                    refine lv_istore (lv' := [(9, .int (nI 0)), (0, .ref (b 0)), (1, .int (nI pa)), (2, .int (nI na)), (3, .int (nI pb)), (4, .int (nI nb)), (5, .int x), (6, .int (nI (fb_ct (sWhP (G 0) pa na pb nb) (4 * w)))), (7, .int (sWhF (sWhP (G 0) pa na pb nb) x (4 * w))), (8, .int (nI w))]) hz.1 hz.2.1 dX6_which_79 hl (by decide) rfl (fun ls hl => ?_)
                    have lp_81 : ∀ (fu : Nat) (st : Nat), (st ≤ 4) → 4 - st < fu → ∀ ls : Array Slot, lv_has ls 10 [(0, .ref (b 0)), (1, .int (nI pa)), (2, .int (nI na)), (3, .int (nI pb)), (4, .int (nI nb)), (5, .int x), (6, .int (nI (fb_ct (sWhP (G 0) pa na pb nb) (4 * w + st)))), (7, .int (sWhF (sWhP (G 0) pa na pb nb) x (4 * w + st))), (8, .int (nI w)), (9, .int (nI st))] → W p_ l_ e_ ({ frames := 4, cells := 0, slots := 0, locals := 92 }) s_ m_ [.ref (b 0), .int (nI pa), .int (nI na), .int (nI pb), .int (nI nb), .int x].toArray bl_ me_ c_ s_.heap [] 0 0 (MQ bl_ (QcRead (sWhich (G 0) pa na pb nb x)) [.ref (b 0), .int (nI pa), .int (nI na), .int (nI pb), .int (nI nb), .int x].toArray s_ 0 0 (fun _ => False)) (F0 m_ 81 ls []) := by
                      intro fu
                      induction fu with
                      | zero => intro st hst hm; exact absurd hm (Nat.not_lt_zero _)
                      | succ fu ih81 =>
                        intro st hst hm ls hl
                        refine lv_iload hz.1 hz.2.1 dX6_which_81 (lv_at hl 9 rfl) ?_
                        refine lv_iconst (v := nI 3) hz.1 hz.2.1 dX6_which_83 (by decide) ?_
                        refine jgt (tgt := 145) hz dX6_which_84 (by decide) (by omega) (by omega) (fun c_84 => ?_) (fun c_84 => ?_)
                        · obtain rfl : st = 4 := by omega
                          rw [show 4 * w + 4 = 4 * (w + 1) by omega] at hl
                          refine lv_iinc (v := nI (w + 1)) (lv' := [(8, .int (nI (w + 1))), (0, .ref (b 0)), (1, .int (nI pa)), (2, .int (nI na)), (3, .int (nI pb)), (4, .int (nI nb)), (5, .int x), (6, .int (nI (fb_ct (sWhP (G 0) pa na pb nb) (4 * (w + 1))))), (7, .int (sWhF (sWhP (G 0) pa na pb nb) x (4 * (w + 1)))), (9, .int (nI 4))]) hz.1 hz.2.1 dX6_which_145 hl (k := 8) rfl (nI_add _ 1) (by decide) rfl (fun ls hl => ?_)
                          refine lv_goto (tgt := 69) hz.1 hz.2.1 dX6_which_148 (by decide) ?_
                          exact ih69 (w + 1) (by omega) (by omega) ls (lv_sub hl [1, 2, 3, 4, 5, 6, 7, 8, 0] rfl)
                        · have n1 := sNotesBy_lt (G 0) pa w st
                          have n2 := sNotesBy_lt (G 0) pb w st
                          refine lv_aload_n hz.1 hz.2.1 dX6_which_87 rfl (lv_at hl 0 rfl) ?_
                          refine lv_iload_n hz.1 hz.2.1 dX6_which_88 rfl (lv_at hl 1 rfl) ?_
                          refine lv_iload hz.1 hz.2.1 dX6_which_89 (lv_at hl 8 rfl) ?_
                          refine lv_iload hz.1 hz.2.1 dX6_which_91 (lv_at hl 9 rfl) ?_
                          refine rdV (A := wA (mw b k I J G)) (As := [.int (nI pa), .int (nI w), .int (nI st)]) (rest := []) hz okYT (c6_notesBy l_ D k b I J G pa w st hf (by omega) (by omega) (by omega)) (cwV 3 hz.2.2.2.2 gX6_which_X6_notesBy rfl rfl rfl (by decide +kernel) ⟨Nat.le_of_ble_eq_true rfl, Nat.le_of_ble_eq_true rfl⟩) hK trivial hP hD hS 0 6 rfl rfl rfl rfl hl.1 rfl (Nat.le_of_ble_eq_true rfl) dX6_which_93 ⟨Nat.zero_le _, Nat.zero_le _⟩ ?_
                          refine lv_iload_n hz.1 hz.2.1 dX6_which_96 rfl (lv_at hl 2 rfl) ?_
                          refine jne (tgt := 139) hz dX6_which_97 (by decide) (by omega) (by omega) (fun c_97 => ?_) (fun c_97 => ?_)
                          · have hPf : sWhP (G 0) pa na pb nb (4 * w + st) = false := by rw [sWhP_at (by omega)]; simp [c_97]
                            rw [← fb_ct0 hPf, ← sWhF0 (i := x) (P := sWhP (G 0) pa na pb nb) (j := (4 * w + st)) (by rw [hPf]; simp)] at hl
                            refine lv_iinc (v := nI (st + 1)) (lv' := [(9, .int (nI (st + 1))), (0, .ref (b 0)), (1, .int (nI pa)), (2, .int (nI na)), (3, .int (nI pb)), (4, .int (nI nb)), (5, .int x), (6, .int (nI (fb_ct (sWhP (G 0) pa na pb nb) (4 * w + st + 1)))), (7, .int (sWhF (sWhP (G 0) pa na pb nb) x (4 * w + st + 1))), (8, .int (nI w))]) hz.1 hz.2.1 dX6_which_139 hl (k := 9) rfl (nI_add _ 1) (by decide) rfl (fun ls hl => ?_)
                            refine lv_goto (tgt := 81) hz.1 hz.2.1 dX6_which_142 (by decide) ?_
                            exact ih81 (st + 1) (by omega) (by omega) ls (lv_sub hl [1, 2, 3, 4, 5, 6, 7, 8, 9, 0] rfl)
                          · refine lv_aload_n hz.1 hz.2.1 dX6_which_100 rfl (lv_at hl 0 rfl) ?_
                            refine lv_iload_n hz.1 hz.2.1 dX6_which_101 rfl (lv_at hl 3 rfl) ?_
                            refine lv_iload hz.1 hz.2.1 dX6_which_102 (lv_at hl 8 rfl) ?_
                            refine lv_iload hz.1 hz.2.1 dX6_which_104 (lv_at hl 9 rfl) ?_
                            refine rdV (A := wA (mw b k I J G)) (As := [.int (nI pb), .int (nI w), .int (nI st)]) (rest := []) hz okYT (c6_notesBy l_ D k b I J G pb w st hf (by omega) (by omega) (by omega)) (cwV 3 hz.2.2.2.2 gX6_which_X6_notesBy rfl rfl rfl (by decide +kernel) ⟨Nat.le_of_ble_eq_true rfl, Nat.le_of_ble_eq_true rfl⟩) hK trivial hP hD hS 0 6 rfl rfl rfl rfl hl.1 rfl (Nat.le_of_ble_eq_true rfl) dX6_which_106 ⟨Nat.zero_le _, Nat.zero_le _⟩ ?_
                            refine lv_iload hz.1 hz.2.1 dX6_which_109 (lv_at hl 4 rfl) ?_
                            refine jne (tgt := 139) hz dX6_which_111 (by decide) (by omega) (by omega) (fun c_111 => ?_) (fun c_111 => ?_)
                            · have hPf : sWhP (G 0) pa na pb nb (4 * w + st) = false := by rw [sWhP_at (by omega)]; simp [c_97, c_111]
                              rw [← fb_ct0 hPf, ← sWhF0 (i := x) (P := sWhP (G 0) pa na pb nb) (j := (4 * w + st)) (by rw [hPf]; simp)] at hl
                              refine lv_iinc (v := nI (st + 1)) (lv' := [(9, .int (nI (st + 1))), (0, .ref (b 0)), (1, .int (nI pa)), (2, .int (nI na)), (3, .int (nI pb)), (4, .int (nI nb)), (5, .int x), (6, .int (nI (fb_ct (sWhP (G 0) pa na pb nb) (4 * w + st + 1)))), (7, .int (sWhF (sWhP (G 0) pa na pb nb) x (4 * w + st + 1))), (8, .int (nI w))]) hz.1 hz.2.1 dX6_which_139 hl (k := 9) rfl (nI_add _ 1) (by decide) rfl (fun ls hl => ?_)
                              refine lv_goto (tgt := 81) hz.1 hz.2.1 dX6_which_142 (by decide) ?_
                              exact ih81 (st + 1) (by omega) (by omega) ls (lv_sub hl [1, 2, 3, 4, 5, 6, 7, 8, 9, 0] rfl)
                            · have hPt : sWhP (G 0) pa na pb nb (4 * w + st) = true := by rw [sWhP_at (by omega)]; simp [c_97, c_111]
                              refine lv_iload hz.1 hz.2.1 dX6_which_114 (lv_at hl 6 rfl) ?_
                              refine lv_iload hz.1 hz.2.1 dX6_which_116 (lv_at hl 5 rfl) ?_
                              refine lv_icmp_ne (tgt := 132) hz.1 hz.2.1 dX6_which_118 (by decide) (fun c_118 => ?_) (fun c_118 => ?_)
                              · refine lv_iload hz.1 hz.2.1 dX6_which_132 (lv_at hl 7 rfl) ?_
                                refine toe (z := sWhF (sWhP (G 0) pa na pb nb) x (4 * w + st + 1)) ((sWhF0 (fun q => c_118 q.2)).symm) ?_
                                refine lv_istore (lv' := [(7, .int (sWhF (sWhP (G 0) pa na pb nb) x (4 * w + st + 1))), (0, .ref (b 0)), (1, .int (nI pa)), (2, .int (nI na)), (3, .int (nI pb)), (4, .int (nI nb)), (5, .int x), (6, .int (nI (fb_ct (sWhP (G 0) pa na pb nb) (4 * w + st)))), (8, .int (nI w)), (9, .int (nI st))]) hz.1 hz.2.1 dX6_which_134 hl (by decide) rfl (fun ls hl => ?_)
                                refine lv_iinc (v := nI (fb_ct (sWhP (G 0) pa na pb nb) (4 * w + st + 1))) (lv' := [(6, .int (nI (fb_ct (sWhP (G 0) pa na pb nb) (4 * w + st + 1)))), (7, .int (sWhF (sWhP (G 0) pa na pb nb) x (4 * w + st + 1))), (0, .ref (b 0)), (1, .int (nI pa)), (2, .int (nI na)), (3, .int (nI pb)), (4, .int (nI nb)), (5, .int x), (8, .int (nI w)), (9, .int (nI st))]) hz.1 hz.2.1 dX6_which_136 hl (k := 7) rfl (by rw [fb_ct1 hPt]; exact nI_add _ 1) (by decide) rfl (fun ls hl => ?_)
                                refine lv_iinc (v := nI (st + 1)) (lv' := [(9, .int (nI (st + 1))), (6, .int (nI (fb_ct (sWhP (G 0) pa na pb nb) (4 * w + st + 1)))), (7, .int (sWhF (sWhP (G 0) pa na pb nb) x (4 * w + st + 1))), (0, .ref (b 0)), (1, .int (nI pa)), (2, .int (nI na)), (3, .int (nI pb)), (4, .int (nI nb)), (5, .int x), (8, .int (nI w))]) hz.1 hz.2.1 dX6_which_139 hl (k := 9) rfl (nI_add _ 1) (by decide) rfl (fun ls hl => ?_)
                                refine lv_goto (tgt := 81) hz.1 hz.2.1 dX6_which_142 (by decide) ?_
                                exact ih81 (st + 1) (by omega) (by omega) ls (lv_sub hl [3, 4, 5, 6, 7, 8, 1, 2, 9, 0] rfl)
                              · refine lv_bipush (v := nI 10) hz.1 hz.2.1 dX6_which_121 (by decide) ?_
                                refine lv_iload hz.1 hz.2.1 dX6_which_123 (lv_at hl 8 rfl) ?_
                                refine lv_imul hz.1 hz.2.1 dX6_which_125 ?_
                                refine toe (z := nI (10 * w)) (pk_mul _ _) ?_
                                refine lv_iload hz.1 hz.2.1 dX6_which_126 (lv_at hl 9 rfl) ?_
                                refine lv_iadd hz.1 hz.2.1 dX6_which_128 ?_
                                refine toe (z := nI ((10 * w) + st)) (nI_add _ _) ?_
                                refine lv_goto (tgt := 134) hz.1 hz.2.1 dX6_which_129 (by decide) ?_
                                refine toe (z := sWhF (sWhP (G 0) pa na pb nb) x (4 * w + st + 1)) ((sWhF1 (by omega) hPt c_118).symm) ?_
                                refine lv_istore (lv' := [(7, .int (sWhF (sWhP (G 0) pa na pb nb) x (4 * w + st + 1))), (0, .ref (b 0)), (1, .int (nI pa)), (2, .int (nI na)), (3, .int (nI pb)), (4, .int (nI nb)), (5, .int x), (6, .int (nI (fb_ct (sWhP (G 0) pa na pb nb) (4 * w + st)))), (8, .int (nI w)), (9, .int (nI st))]) hz.1 hz.2.1 dX6_which_134 hl (by decide) rfl (fun ls hl => ?_)
                                refine lv_iinc (v := nI (fb_ct (sWhP (G 0) pa na pb nb) (4 * w + st + 1))) (lv' := [(6, .int (nI (fb_ct (sWhP (G 0) pa na pb nb) (4 * w + st + 1)))), (7, .int (sWhF (sWhP (G 0) pa na pb nb) x (4 * w + st + 1))), (0, .ref (b 0)), (1, .int (nI pa)), (2, .int (nI na)), (3, .int (nI pb)), (4, .int (nI nb)), (5, .int x), (8, .int (nI w)), (9, .int (nI st))]) hz.1 hz.2.1 dX6_which_136 hl (k := 7) rfl (by rw [fb_ct1 hPt]; exact nI_add _ 1) (by decide) rfl (fun ls hl => ?_)
                                refine lv_iinc (v := nI (st + 1)) (lv' := [(9, .int (nI (st + 1))), (6, .int (nI (fb_ct (sWhP (G 0) pa na pb nb) (4 * w + st + 1)))), (7, .int (sWhF (sWhP (G 0) pa na pb nb) x (4 * w + st + 1))), (0, .ref (b 0)), (1, .int (nI pa)), (2, .int (nI na)), (3, .int (nI pb)), (4, .int (nI nb)), (5, .int x), (8, .int (nI w))]) hz.1 hz.2.1 dX6_which_139 hl (k := 9) rfl (nI_add _ 1) (by decide) rfl (fun ls hl => ?_)
                                refine lv_goto (tgt := 81) hz.1 hz.2.1 dX6_which_142 (by decide) ?_
                                exact ih81 (st + 1) (by omega) (by omega) ls (lv_sub hl [3, 4, 5, 6, 7, 8, 1, 2, 9, 0] rfl)
                    exact lp_81 _ 0 (by omega) (Nat.lt_succ_self _) ls (lv_sub hl [1, 2, 3, 4, 5, 6, 7, 8, 9, 0] rfl)
              exact lp_69 _ 0 (by omega) (Nat.lt_succ_self _) ls (lv_sub hl [3, 4, 5, 6, 7, 8, 2, 1, 0] rfl)
            · exact absurd hx c_49

set_option maxHeartbeats 4000000 in
set_option maxRecDepth 100000 in
theorem c6_which_bad (l_ : Launch) (D : va_G) (k : Nat → ClassId) (b I J : Nat → Nat) (G : Nat → Nat → Nat) (xa xh xb xk xi : Int32) (hf : Wf (G 0)) (hb : (wIn xa 0 (G 0 0 - 1) && wIn xb 0 (G 0 0 - 1) && !decide (xa = xb) && wIn xh 0 4095 && wIn xk 0 4095 && decide (-1 ≤ xi)) = false) : Met l_ yX6_which wsX6_which ({ frames := 2, cells := 0, slots := 0, locals := 46 }) (va_Pc [.ref (b 0), .int xa, .int xh, .int xb, .int xk, .int xi] (wH YT D k (mw b k I J G))) (va_Qi (fun (r : Int32) (u : Unit) => r = -10) (fun (u : Unit) (t_ : State) => va_P D vwCl ((fun (_ : Unit) => mw b k I J (gset G 3 (sRef (G 3) 0))) u) t_.heap) (wA (mw b k I J G))) 0 0 (wA (mw b k I J G)) := by
  refine my_entry (cc := cX6_which) (maxL := 10) (ret := some .int) (by decide) rfl (Nat.le_of_ble_eq_true rfl) ?_
  intro p_ e_ s_ m_ bl_ me_ c_ hz hr hlk hB ls hl
  obtain ⟨hP, hK, hD0, -⟩ := hB
  have hD := wA.self hD0
  have hS : va_S (wA (mw b k I J G)) s_.heap s_.heap [] := va_S.rf
  have hl : lv_has ls 10 [(0, .ref (b 0)), (1, .int xa), (2, .int xh), (3, .int xb), (4, .int xk), (5, .int xi)] := hl
  have f0 := hf.n2
  have f1 := hf.n9
  have f2 := hf.fr
  have f3 := hf.gd
  refine lv_aload_n hz.1 hz.2.1 dX6_which_0 rfl (lv_at hl 0 rfl) ?_
  refine lv_iload_n hz.1 hz.2.1 dX6_which_1 rfl (lv_at hl 1 rfl) ?_
  refine rdV (A := wA (mw b k I J G)) (As := [.int xa]) (rest := []) hz okYT (c6_isPost l_ D k b I J G xa hf) (cwV 1 hz.2.2.2.2 gX6_which_X6_isPost rfl rfl rfl (by decide +kernel) ⟨Nat.le_of_ble_eq_true rfl, Nat.le_of_ble_eq_true rfl⟩) hK trivial hP hD hS 0 6 rfl rfl rfl rfl hl.1 rfl (Nat.le_of_ble_eq_true rfl) dX6_which_2 ⟨Nat.zero_le _, Nat.zero_le _⟩ ?_
  refine zeq (tgt := 52) hz dX6_which_5 (by decide) (fun c_5 => ?_) (fun c_5 => ?_)
  · refine lv_aload_n hz.1 hz.2.1 dX6_which_52 rfl (lv_at hl 0 rfl) ?_
    refine lv_bipush (v := (-10)) hz.1 hz.2.1 dX6_which_53 (by decide) ?_
    refine wrV (A := wA (mw b k I J G)) (As := [.int (-10)]) (rest := []) hz okYT (c6_bad l_ D k b I J G (-10) ) (cwV 1 hz.2.2.2.2 gX6_which_X6_bad rfl rfl rfl (by decide +kernel) ⟨Nat.le_of_ble_eq_true rfl, Nat.le_of_ble_eq_true rfl⟩) hK trivial hP hD hS 0 6 rfl rfl rfl rfl hl.1 rfl (Nat.le_of_ble_eq_true rfl) dX6_which_55 ⟨Nat.zero_le _, Nat.zero_le _⟩ (fun r u H locs hp hP hS _ => ?_)
    obtain rfl : r = -10 := hp
    have hP : va_P D vwCl (mw b k I J (gset G 3 (sRef (G 3) 0))) H := hP
    have hD := mw_D (I' := I) (J' := J) (G' := gset G 3 (sRef (G 3) 0)) hD
    exact wr_iret hz hr hlk dX6_which_58 hS (()) hP (rfl)
  · refine lv_aload_n hz.1 hz.2.1 dX6_which_8 rfl (lv_at hl 0 rfl) ?_
    refine lv_iload_n hz.1 hz.2.1 dX6_which_9 rfl (lv_at hl 3 rfl) ?_
    refine rdV (A := wA (mw b k I J G)) (As := [.int xb]) (rest := []) hz okYT (c6_isPost l_ D k b I J G xb hf) (cwV 1 hz.2.2.2.2 gX6_which_X6_isPost rfl rfl rfl (by decide +kernel) ⟨Nat.le_of_ble_eq_true rfl, Nat.le_of_ble_eq_true rfl⟩) hK trivial hP hD hS 0 6 rfl rfl rfl rfl hl.1 rfl (Nat.le_of_ble_eq_true rfl) dX6_which_10 ⟨Nat.zero_le _, Nat.zero_le _⟩ ?_
    refine zeq (tgt := 52) hz dX6_which_13 (by decide) (fun c_13 => ?_) (fun c_13 => ?_)
    · refine lv_aload_n hz.1 hz.2.1 dX6_which_52 rfl (lv_at hl 0 rfl) ?_
      refine lv_bipush (v := (-10)) hz.1 hz.2.1 dX6_which_53 (by decide) ?_
      refine wrV (A := wA (mw b k I J G)) (As := [.int (-10)]) (rest := []) hz okYT (c6_bad l_ D k b I J G (-10) ) (cwV 1 hz.2.2.2.2 gX6_which_X6_bad rfl rfl rfl (by decide +kernel) ⟨Nat.le_of_ble_eq_true rfl, Nat.le_of_ble_eq_true rfl⟩) hK trivial hP hD hS 0 6 rfl rfl rfl rfl hl.1 rfl (Nat.le_of_ble_eq_true rfl) dX6_which_55 ⟨Nat.zero_le _, Nat.zero_le _⟩ (fun r u H locs hp hP hS _ => ?_)
      obtain rfl : r = -10 := hp
      have hP : va_P D vwCl (mw b k I J (gset G 3 (sRef (G 3) 0))) H := hP
      have hD := mw_D (I' := I) (J' := J) (G' := gset G 3 (sRef (G 3) 0)) hD
      exact wr_iret hz hr hlk dX6_which_58 hS (()) hP (rfl)
    · refine lv_iload_n hz.1 hz.2.1 dX6_which_16 rfl (lv_at hl 1 rfl) ?_
      refine lv_iload_n hz.1 hz.2.1 dX6_which_17 rfl (lv_at hl 3 rfl) ?_
      refine lv_icmp_eq (tgt := 52) hz.1 hz.2.1 dX6_which_18 (by decide) (fun c_18 => ?_) (fun c_18 => ?_)
      · refine lv_aload_n hz.1 hz.2.1 dX6_which_52 rfl (lv_at hl 0 rfl) ?_
        refine lv_bipush (v := (-10)) hz.1 hz.2.1 dX6_which_53 (by decide) ?_
        refine wrV (A := wA (mw b k I J G)) (As := [.int (-10)]) (rest := []) hz okYT (c6_bad l_ D k b I J G (-10) ) (cwV 1 hz.2.2.2.2 gX6_which_X6_bad rfl rfl rfl (by decide +kernel) ⟨Nat.le_of_ble_eq_true rfl, Nat.le_of_ble_eq_true rfl⟩) hK trivial hP hD hS 0 6 rfl rfl rfl rfl hl.1 rfl (Nat.le_of_ble_eq_true rfl) dX6_which_55 ⟨Nat.zero_le _, Nat.zero_le _⟩ (fun r u H locs hp hP hS _ => ?_)
        obtain rfl : r = -10 := hp
        have hP : va_P D vwCl (mw b k I J (gset G 3 (sRef (G 3) 0))) H := hP
        have hD := mw_D (I' := I) (J' := J) (G' := gset G 3 (sRef (G 3) 0)) hD
        exact wr_iret hz hr hlk dX6_which_58 hS (()) hP (rfl)
      · refine lv_iload_n hz.1 hz.2.1 dX6_which_21 rfl (lv_at hl 2 rfl) ?_
        refine lv_i2l (v := xh.toInt64) hz.1 hz.2.1 dX6_which_22 (rfl) ?_
        refine lv_lconst (v := lN 0) hz.1 hz.2.1 dX6_which_23 (by decide) ?_
        refine lv_ldc2 (own := RX6) (v := lN 4095) hz.1 hz.2.1 hz.2.2.2.1 (hz.2.2.2.2 (.constantLong RX6 144 (4095)) (List.mem_of_getElem? (i := 1) rfl)) dX6_which_24 ?_
        refine rdS (As := [.long xh.toInt64, .long (lN 0), .long (lN 4095)]) (rest := []) hz (c6_in l_ xh 0 4095 (by omega) (by omega)) rfl (va_cwS 3 hz.2.2.2.2 gX6_which_X6_in rfl rfl rfl (by decide +kernel) ⟨Nat.le_of_ble_eq_true rfl, Nat.le_of_ble_eq_true rfl⟩) rfl hl.1 rfl (Nat.le_of_ble_eq_true rfl) dX6_which_27 ⟨Nat.zero_le _, Nat.zero_le _⟩ ?_
        refine zeq (tgt := 52) hz dX6_which_30 (by decide) (fun c_30 => ?_) (fun c_30 => ?_)
        · refine lv_aload_n hz.1 hz.2.1 dX6_which_52 rfl (lv_at hl 0 rfl) ?_
          refine lv_bipush (v := (-10)) hz.1 hz.2.1 dX6_which_53 (by decide) ?_
          refine wrV (A := wA (mw b k I J G)) (As := [.int (-10)]) (rest := []) hz okYT (c6_bad l_ D k b I J G (-10) ) (cwV 1 hz.2.2.2.2 gX6_which_X6_bad rfl rfl rfl (by decide +kernel) ⟨Nat.le_of_ble_eq_true rfl, Nat.le_of_ble_eq_true rfl⟩) hK trivial hP hD hS 0 6 rfl rfl rfl rfl hl.1 rfl (Nat.le_of_ble_eq_true rfl) dX6_which_55 ⟨Nat.zero_le _, Nat.zero_le _⟩ (fun r u H locs hp hP hS _ => ?_)
          obtain rfl : r = -10 := hp
          have hP : va_P D vwCl (mw b k I J (gset G 3 (sRef (G 3) 0))) H := hP
          have hD := mw_D (I' := I) (J' := J) (G' := gset G 3 (sRef (G 3) 0)) hD
          exact wr_iret hz hr hlk dX6_which_58 hS (()) hP (rfl)
        · refine lv_iload hz.1 hz.2.1 dX6_which_33 (lv_at hl 4 rfl) ?_
          refine lv_i2l (v := xk.toInt64) hz.1 hz.2.1 dX6_which_35 (rfl) ?_
          refine lv_lconst (v := lN 0) hz.1 hz.2.1 dX6_which_36 (by decide) ?_
          refine lv_ldc2 (own := RX6) (v := lN 4095) hz.1 hz.2.1 hz.2.2.2.1 (hz.2.2.2.2 (.constantLong RX6 144 (4095)) (List.mem_of_getElem? (i := 1) rfl)) dX6_which_37 ?_
          refine rdS (As := [.long xk.toInt64, .long (lN 0), .long (lN 4095)]) (rest := []) hz (c6_in l_ xk 0 4095 (by omega) (by omega)) rfl (va_cwS 3 hz.2.2.2.2 gX6_which_X6_in rfl rfl rfl (by decide +kernel) ⟨Nat.le_of_ble_eq_true rfl, Nat.le_of_ble_eq_true rfl⟩) rfl hl.1 rfl (Nat.le_of_ble_eq_true rfl) dX6_which_40 ⟨Nat.zero_le _, Nat.zero_le _⟩ ?_
          refine zeq (tgt := 52) hz dX6_which_43 (by decide) (fun c_43 => ?_) (fun c_43 => ?_)
          · refine lv_aload_n hz.1 hz.2.1 dX6_which_52 rfl (lv_at hl 0 rfl) ?_
            refine lv_bipush (v := (-10)) hz.1 hz.2.1 dX6_which_53 (by decide) ?_
            refine wrV (A := wA (mw b k I J G)) (As := [.int (-10)]) (rest := []) hz okYT (c6_bad l_ D k b I J G (-10) ) (cwV 1 hz.2.2.2.2 gX6_which_X6_bad rfl rfl rfl (by decide +kernel) ⟨Nat.le_of_ble_eq_true rfl, Nat.le_of_ble_eq_true rfl⟩) hK trivial hP hD hS 0 6 rfl rfl rfl rfl hl.1 rfl (Nat.le_of_ble_eq_true rfl) dX6_which_55 ⟨Nat.zero_le _, Nat.zero_le _⟩ (fun r u H locs hp hP hS _ => ?_)
            obtain rfl : r = -10 := hp
            have hP : va_P D vwCl (mw b k I J (gset G 3 (sRef (G 3) 0))) H := hP
            have hD := mw_D (I' := I) (J' := J) (G' := gset G 3 (sRef (G 3) 0)) hD
            exact wr_iret hz hr hlk dX6_which_58 hS (()) hP (rfl)
          · refine lv_iload hz.1 hz.2.1 dX6_which_46 (lv_at hl 5 rfl) ?_
            refine lv_iconst (v := (-1)) hz.1 hz.2.1 dX6_which_48 (by decide) ?_
            refine lv_icmp_ge (tgt := 59) hz.1 hz.2.1 dX6_which_49 (by decide) (fun c_49 => ?_) (fun c_49 => ?_)
            · simp [c_5, c_13, c_18, c_30, c_43, c_49] at hb
            · refine lv_aload_n hz.1 hz.2.1 dX6_which_52 rfl (lv_at hl 0 rfl) ?_
              refine lv_bipush (v := (-10)) hz.1 hz.2.1 dX6_which_53 (by decide) ?_
              refine wrV (A := wA (mw b k I J G)) (As := [.int (-10)]) (rest := []) hz okYT (c6_bad l_ D k b I J G (-10) ) (cwV 1 hz.2.2.2.2 gX6_which_X6_bad rfl rfl rfl (by decide +kernel) ⟨Nat.le_of_ble_eq_true rfl, Nat.le_of_ble_eq_true rfl⟩) hK trivial hP hD hS 0 6 rfl rfl rfl rfl hl.1 rfl (Nat.le_of_ble_eq_true rfl) dX6_which_55 ⟨Nat.zero_le _, Nat.zero_le _⟩ (fun r u H locs hp hP hS _ => ?_)
              obtain rfl : r = -10 := hp
              have hP : va_P D vwCl (mw b k I J (gset G 3 (sRef (G 3) 0))) H := hP
              have hD := mw_D (I' := I) (J' := J) (G' := gset G 3 (sRef (G 3) 0)) hD
              exact wr_iret hz hr hlk dX6_which_58 hS (()) hP (rfl)

theorem hinX6_covers : ∀ w ∈ wsX60, w ∈ wsX6_covers := fun _ h => List.mem_cons_of_mem _ (List.mem_append_right _ h)
set_option maxHeartbeats 4000000 in
set_option maxRecDepth 100000 in
theorem c6_covers (l_ : Launch) (D : va_G) (k : Nat → ClassId) (b I J : Nat → Nat) (G : Nat → Nat → Nat) (set kk : Nat) (hf : Wf (G 0)) (hs : set < 1024) (hk : kk < 10) : Met l_ yX6_covers wsX6_covers ({ frames := 2, cells := 0, slots := 0, locals := 45 }) (va_Pc [.ref (b 0), .int (nI set), .int (nI kk)] (wH YT D k (mw b k I J G))) (QcRead (bI (sCovers (G 0) set kk))) 0 0 (fun _ => False) := by
  refine my_entry (cc := cX6_covers) (maxL := 7) (ret := some .boolean) (by decide) rfl (Nat.le_of_ble_eq_true rfl) ?_
  intro p_ e_ s_ m_ bl_ me_ c_ hz hr hlk hB ls hl
  obtain ⟨hP, hK, hD0, -⟩ := hB
  have hD := wA.self hD0
  have hS : va_S (wA (mw b k I J G)) s_.heap s_.heap [] := va_S.rf
  have hl : lv_has ls 7 [(0, .ref (b 0)), (1, .int (nI set)), (2, .int (nI kk))] := hl
  have f0 := hf.n2
  have f1 := hf.n9
  have f2 := hf.fr
  have f3 := hf.gd
  refine lv_iconst (v := nI 1) hz.1 hz.2.1 dX6_covers_0 (by decide) ?_
  refine lv_istore_n (lv' := [(3, .int (nI 1)), (0, .ref (b 0)), (1, .int (nI set)), (2, .int (nI kk))]) hz.1 hz.2.1 dX6_covers_1 rfl hl (by decide) rfl (fun ls hl => ?_)
  refine lv_iconst (v := nI 0) hz.1 hz.2.1 dX6_covers_2 (by decide) ?_
  refine lv_istore (lv' := [(4, .int (nI 0)), (3, .int (nI 1)), (0, .ref (b 0)), (1, .int (nI set)), (2, .int (nI kk))]) hz.1 hz.2.1 dX6_covers_3 hl (by decide) rfl (fun ls hl => ?_)
  have lp_5 : ∀ (fu : Nat) (w : Nat), (w ≤ G 0 0 - 1) → G 0 0 - 1 - w < fu → ∀ ls : Array Slot, lv_has ls 7 [(0, .ref (b 0)), (1, .int (nI set)), (2, .int (nI kk)), (3, .int (bI (sAll (sCvW (G 0) set kk) w))), (4, .int (nI w))] → W p_ l_ e_ ({ frames := 2, cells := 0, slots := 0, locals := 45 }) s_ m_ [.ref (b 0), .int (nI set), .int (nI kk)].toArray bl_ me_ c_ s_.heap [] 0 0 (MQ bl_ (QcRead (bI (sCovers (G 0) set kk))) [.ref (b 0), .int (nI set), .int (nI kk)].toArray s_ 0 0 (fun _ => False)) (F0 m_ 5 ls []) := by
    intro fu
    induction fu with
    | zero => intro w hw hm; exact absurd hm (Nat.not_lt_zero _)
    | succ fu ih5 =>
      intro w hw hm ls hl
      refine lv_iload hz.1 hz.2.1 dX6_covers_5 (lv_at hl 4 rfl) ?_
      refine lv_aload_n hz.1 hz.2.1 dX6_covers_7 rfl (lv_at hl 0 rfl) ?_
      refine rdV (A := wA (mw b k I J G)) (As := []) (rest := [.int (nI w)]) hz okYT (c6_wires l_ D k b I J G  (by omega)) (cwV 0 hz.2.2.2.2 gX6_covers_X6_wires rfl rfl rfl (by decide +kernel) ⟨Nat.le_of_ble_eq_true rfl, Nat.le_of_ble_eq_true rfl⟩) hK trivial hP hD hS 0 6 rfl rfl rfl rfl hl.1 rfl (Nat.le_of_ble_eq_true rfl) dX6_covers_8 ⟨Nat.zero_le _, Nat.zero_le _⟩ ?_
      refine jge (tgt := 98) hz dX6_covers_11 (by decide) (by omega) (by omega) (fun c_11 => ?_) (fun c_11 => ?_)
      · obtain rfl : w = G 0 0 - 1 := by omega
        refine lv_iload_n hz.1 hz.2.1 dX6_covers_98 rfl (lv_at hl 3 rfl) ?_
        exact rd_zret hz hr hlk dX6_covers_99 (rfl)
      · refine lv_iconst (v := nI 0) hz.1 hz.2.1 dX6_covers_14 (by decide) ?_
        refine lv_istore (lv' := [(5, .int (nI 0)), (0, .ref (b 0)), (1, .int (nI set)), (2, .int (nI kk)), (3, .int (bI (sAll (sCvW (G 0) set kk) w))), (4, .int (nI w))]) hz.1 hz.2.1 dX6_covers_15 hl (by decide) rfl (fun ls hl => ?_)
        refine lv_iconst (v := nI 0) hz.1 hz.2.1 dX6_covers_17 (by decide) ?_
        refine lv_istore (lv' := [(6, .int (nI 0)), (5, .int (nI 0)), (0, .ref (b 0)), (1, .int (nI set)), (2, .int (nI kk)), (3, .int (bI (sAll (sCvW (G 0) set kk) w))), (4, .int (nI w))]) hz.1 hz.2.1 dX6_covers_18 hl (by decide) rfl (fun ls hl => ?_)
        have lp_20 : ∀ (fu : Nat) (p : Nat), (p ≤ G 0 0) → G 0 0 - p < fu → ∀ ls : Array Slot, lv_has ls 7 [(0, .ref (b 0)), (1, .int (nI set)), (2, .int (nI kk)), (3, .int (bI (sAll (sCvW (G 0) set kk) w))), (4, .int (nI w)), (5, .int (nI (fb_ct (sCvF (G 0) set w) p))), (6, .int (nI p))] → W p_ l_ e_ ({ frames := 2, cells := 0, slots := 0, locals := 45 }) s_ m_ [.ref (b 0), .int (nI set), .int (nI kk)].toArray bl_ me_ c_ s_.heap [] 0 0 (MQ bl_ (QcRead (bI (sCovers (G 0) set kk))) [.ref (b 0), .int (nI set), .int (nI kk)].toArray s_ 0 0 (fun _ => False)) (F0 m_ 20 ls []) := by
          intro fu
          induction fu with
          | zero => intro p hp hm; exact absurd hm (Nat.not_lt_zero _)
          | succ fu ih20 =>
            intro p hp hm ls hl
            refine lv_iload hz.1 hz.2.1 dX6_covers_20 (lv_at hl 6 rfl) ?_
            refine lv_aload_n hz.1 hz.2.1 dX6_covers_22 rfl (lv_at hl 0 rfl) ?_
            refine rdV (A := wA (mw b k I J G)) (As := []) (rest := [.int (nI p)]) hz okYT (c6_line l_ D k b I J G  ) (cwV 0 hz.2.2.2.2 gX6_covers_X6_line rfl rfl rfl (by decide +kernel) ⟨Nat.le_of_ble_eq_true rfl, Nat.le_of_ble_eq_true rfl⟩) hK trivial hP hD hS 0 6 rfl rfl rfl rfl hl.1 rfl (Nat.le_of_ble_eq_true rfl) dX6_covers_23 ⟨Nat.zero_le _, Nat.zero_le _⟩ ?_
            refine jge (tgt := 67) hz dX6_covers_26 (by decide) (by omega) (by omega) (fun c_26 => ?_) (fun c_26 => ?_)
            · obtain rfl : p = G 0 0 := by omega
              have hc := fb_ct_le (sCvF (G 0) set w) (G 0 0)
              refine lv_iload_n hz.1 hz.2.1 dX6_covers_67 rfl (lv_at hl 3 rfl) ?_
              refine zeq (tgt := 90) hz dX6_covers_68 (by decide) (fun c_68 => ?_) (fun c_68 => ?_)
              · refine lv_iconst (v := nI 0) hz.1 hz.2.1 dX6_covers_90 (by decide) ?_
                refine toe (z := bI (sAll (sCvW (G 0) set kk) (w + 1))) (bI_0 (by simp [sAll, sCvW, c_68])) ?_
                refine lv_istore_n (lv' := [(3, .int (bI (sAll (sCvW (G 0) set kk) (w + 1)))), (0, .ref (b 0)), (1, .int (nI set)), (2, .int (nI kk)), (4, .int (nI w)), (5, .int (nI (fb_ct (sCvF (G 0) set w) (G 0 0)))), (6, .int (nI (G 0 0)))]) hz.1 hz.2.1 dX6_covers_91 rfl hl (by decide) rfl (fun ls hl => ?_)
                refine lv_iinc (v := nI (w + 1)) (lv' := [(4, .int (nI (w + 1))), (3, .int (bI (sAll (sCvW (G 0) set kk) (w + 1)))), (0, .ref (b 0)), (1, .int (nI set)), (2, .int (nI kk)), (5, .int (nI (fb_ct (sCvF (G 0) set w) (G 0 0)))), (6, .int (nI (G 0 0)))]) hz.1 hz.2.1 dX6_covers_92 hl (k := 4) rfl (nI_add _ 1) (by decide) rfl (fun ls hl => ?_)
                refine lv_goto (tgt := 5) hz.1 hz.2.1 dX6_covers_95 (by decide) ?_
                exact ih5 (w + 1) (by omega) (by omega) ls (lv_sub hl [2, 3, 4, 1, 0] rfl)
              · refine lv_aload_n hz.1 hz.2.1 dX6_covers_71 rfl (lv_at hl 0 rfl) ?_
                refine lv_iload hz.1 hz.2.1 dX6_covers_72 (lv_at hl 4 rfl) ?_
                refine rdV (A := wA (mw b k I J G)) (As := [.int (nI w)]) (rest := []) hz okYT (c6_isCut l_ D k b I J G w hf (by omega)) (cwV 1 hz.2.2.2.2 gX6_covers_X6_isCut rfl rfl rfl (by decide +kernel) ⟨Nat.le_of_ble_eq_true rfl, Nat.le_of_ble_eq_true rfl⟩) hK trivial hP hD hS 0 6 rfl rfl rfl rfl hl.1 rfl (Nat.le_of_ble_eq_true rfl) dX6_covers_74 ⟨Nat.zero_le _, Nat.zero_le _⟩ ?_
                refine zne (tgt := 86) hz dX6_covers_77 (by decide) (fun c_77 => ?_) (fun c_77 => ?_)
                · refine lv_iconst (v := nI 1) hz.1 hz.2.1 dX6_covers_86 (by decide) ?_
                  refine lv_goto (tgt := 91) hz.1 hz.2.1 dX6_covers_87 (by decide) ?_
                  refine toe (z := bI (sAll (sCvW (G 0) set kk) (w + 1))) (bI_1 (by simp [sAll, sCvW, c_68, c_77])) ?_
                  refine lv_istore_n (lv' := [(3, .int (bI (sAll (sCvW (G 0) set kk) (w + 1)))), (0, .ref (b 0)), (1, .int (nI set)), (2, .int (nI kk)), (4, .int (nI w)), (5, .int (nI (fb_ct (sCvF (G 0) set w) (G 0 0)))), (6, .int (nI (G 0 0)))]) hz.1 hz.2.1 dX6_covers_91 rfl hl (by decide) rfl (fun ls hl => ?_)
                  refine lv_iinc (v := nI (w + 1)) (lv' := [(4, .int (nI (w + 1))), (3, .int (bI (sAll (sCvW (G 0) set kk) (w + 1)))), (0, .ref (b 0)), (1, .int (nI set)), (2, .int (nI kk)), (5, .int (nI (fb_ct (sCvF (G 0) set w) (G 0 0)))), (6, .int (nI (G 0 0)))]) hz.1 hz.2.1 dX6_covers_92 hl (k := 4) rfl (nI_add _ 1) (by decide) rfl (fun ls hl => ?_)
                  refine lv_goto (tgt := 5) hz.1 hz.2.1 dX6_covers_95 (by decide) ?_
                  exact ih5 (w + 1) (by omega) (by omega) ls (lv_sub hl [2, 3, 4, 1, 0] rfl)
                · refine lv_iload hz.1 hz.2.1 dX6_covers_80 (lv_at hl 5 rfl) ?_
                  refine lv_iload_n hz.1 hz.2.1 dX6_covers_82 rfl (lv_at hl 2 rfl) ?_
                  refine jlt (tgt := 90) hz dX6_covers_83 (by decide) (by omega) (by omega) (fun c_83 => ?_) (fun c_83 => ?_)
                  · refine lv_iconst (v := nI 0) hz.1 hz.2.1 dX6_covers_90 (by decide) ?_
                    refine toe (z := bI (sAll (sCvW (G 0) set kk) (w + 1))) (bI_0 (by simp [sAll, sCvW, c_68, c_77, c_83])) ?_
                    refine lv_istore_n (lv' := [(3, .int (bI (sAll (sCvW (G 0) set kk) (w + 1)))), (0, .ref (b 0)), (1, .int (nI set)), (2, .int (nI kk)), (4, .int (nI w)), (5, .int (nI (fb_ct (sCvF (G 0) set w) (G 0 0)))), (6, .int (nI (G 0 0)))]) hz.1 hz.2.1 dX6_covers_91 rfl hl (by decide) rfl (fun ls hl => ?_)
                    refine lv_iinc (v := nI (w + 1)) (lv' := [(4, .int (nI (w + 1))), (3, .int (bI (sAll (sCvW (G 0) set kk) (w + 1)))), (0, .ref (b 0)), (1, .int (nI set)), (2, .int (nI kk)), (5, .int (nI (fb_ct (sCvF (G 0) set w) (G 0 0)))), (6, .int (nI (G 0 0)))]) hz.1 hz.2.1 dX6_covers_92 hl (k := 4) rfl (nI_add _ 1) (by decide) rfl (fun ls hl => ?_)
                    refine lv_goto (tgt := 5) hz.1 hz.2.1 dX6_covers_95 (by decide) ?_
                    exact ih5 (w + 1) (by omega) (by omega) ls (lv_sub hl [2, 3, 4, 1, 0] rfl)
                  · refine lv_iconst (v := nI 1) hz.1 hz.2.1 dX6_covers_86 (by decide) ?_
                    refine lv_goto (tgt := 91) hz.1 hz.2.1 dX6_covers_87 (by decide) ?_
                    refine toe (z := bI (sAll (sCvW (G 0) set kk) (w + 1))) (bI_1 (by simp [sAll, sCvW, c_68, c_77, Nat.not_lt.mp c_83])) ?_
                    refine lv_istore_n (lv' := [(3, .int (bI (sAll (sCvW (G 0) set kk) (w + 1)))), (0, .ref (b 0)), (1, .int (nI set)), (2, .int (nI kk)), (4, .int (nI w)), (5, .int (nI (fb_ct (sCvF (G 0) set w) (G 0 0)))), (6, .int (nI (G 0 0)))]) hz.1 hz.2.1 dX6_covers_91 rfl hl (by decide) rfl (fun ls hl => ?_)
                    refine lv_iinc (v := nI (w + 1)) (lv' := [(4, .int (nI (w + 1))), (3, .int (bI (sAll (sCvW (G 0) set kk) (w + 1)))), (0, .ref (b 0)), (1, .int (nI set)), (2, .int (nI kk)), (5, .int (nI (fb_ct (sCvF (G 0) set w) (G 0 0)))), (6, .int (nI (G 0 0)))]) hz.1 hz.2.1 dX6_covers_92 hl (k := 4) rfl (nI_add _ 1) (by decide) rfl (fun ls hl => ?_)
                    refine lv_goto (tgt := 5) hz.1 hz.2.1 dX6_covers_95 (by decide) ?_
                    exact ih5 (w + 1) (by omega) (by omega) ls (lv_sub hl [2, 3, 4, 1, 0] rfl)
            · refine lv_iload hz.1 hz.2.1 dX6_covers_29 (lv_at hl 5 rfl) ?_
              refine lv_iload_n hz.1 hz.2.1 dX6_covers_31 rfl (lv_at hl 1 rfl) ?_
              refine lv_iload hz.1 hz.2.1 dX6_covers_32 (lv_at hl 6 rfl) ?_
              refine lv_ishr hz.1 hz.2.1 dX6_covers_34 ?_
              refine toe (z := nI (set / 2 ^ p)) (nI_shr (by omega) (by omega)) ?_
              refine lv_iconst (v := nI 1) hz.1 hz.2.1 dX6_covers_35 (by decide) ?_
              refine lv_iand hz.1 hz.2.1 dX6_covers_36 ?_
              refine toe (z := nI ((set / 2 ^ p) % 2)) (nI_and1 _) ?_
              refine lv_iconst (v := nI 1) hz.1 hz.2.1 dX6_covers_37 (by decide) ?_
              refine jne (tgt := 57) hz dX6_covers_38 (by decide) (by omega) (by omega) (fun c_38 => ?_) (fun c_38 => ?_)
              · refine lv_iconst (v := nI 0) hz.1 hz.2.1 dX6_covers_57 (by decide) ?_
                refine lv_iadd hz.1 hz.2.1 dX6_covers_58 ?_
                refine toe (z := nI (fb_ct (sCvF (G 0) set w) (p + 1))) (by rw [nI_add, fb_ct_succ]; simp [sCvF, Nat.testBit_eq_decide_div_mod_eq, c_11, c_26, c_38]) ?_
                refine lv_istore (lv' := [(5, .int (nI (fb_ct (sCvF (G 0) set w) (p + 1)))), (0, .ref (b 0)), (1, .int (nI set)), (2, .int (nI kk)), (3, .int (bI (sAll (sCvW (G 0) set kk) w))), (4, .int (nI w)), (6, .int (nI p))]) hz.1 hz.2.1 dX6_covers_59 hl (by decide) rfl (fun ls hl => ?_)
                refine lv_iinc (v := nI (p + 1)) (lv' := [(6, .int (nI (p + 1))), (5, .int (nI (fb_ct (sCvF (G 0) set w) (p + 1)))), (0, .ref (b 0)), (1, .int (nI set)), (2, .int (nI kk)), (3, .int (bI (sAll (sCvW (G 0) set kk) w))), (4, .int (nI w))]) hz.1 hz.2.1 dX6_covers_61 hl (k := 6) rfl (nI_add _ 1) (by decide) rfl (fun ls hl => ?_)
                refine lv_goto (tgt := 20) hz.1 hz.2.1 dX6_covers_64 (by decide) ?_
                exact ih20 (p + 1) (by omega) (by omega) ls (lv_sub hl [2, 3, 4, 5, 6, 1, 0] rfl)
              · refine lv_aload_n hz.1 hz.2.1 dX6_covers_41 rfl (lv_at hl 0 rfl) ?_
                refine lv_iload hz.1 hz.2.1 dX6_covers_42 (lv_at hl 6 rfl) ?_
                refine lv_iload hz.1 hz.2.1 dX6_covers_44 (lv_at hl 4 rfl) ?_
                refine lv_iconst (v := nI 1) hz.1 hz.2.1 dX6_covers_46 (by decide) ?_
                refine rdV (A := wA (mw b k I J G)) (As := [.int (nI p), .int (nI w), .int (nI 1)]) (rest := [.int (nI (fb_ct (sCvF (G 0) set w) p))]) hz okYT (c6_hears l_ D k b I J G p w 1 hf (by omega) (by omega) (by omega) (by omega)) (cwV 3 hz.2.2.2.2 gX6_covers_X6_hears rfl rfl rfl (by decide +kernel) ⟨Nat.le_of_ble_eq_true rfl, Nat.le_of_ble_eq_true rfl⟩) hK trivial hP hD hS 0 6 rfl rfl rfl rfl hl.1 rfl (Nat.le_of_ble_eq_true rfl) dX6_covers_47 ⟨Nat.zero_le _, Nat.zero_le _⟩ ?_
                refine zeq (tgt := 57) hz dX6_covers_50 (by decide) (fun c_50 => ?_) (fun c_50 => ?_)
                · refine lv_iconst (v := nI 0) hz.1 hz.2.1 dX6_covers_57 (by decide) ?_
                  refine lv_iadd hz.1 hz.2.1 dX6_covers_58 ?_
                  refine toe (z := nI (fb_ct (sCvF (G 0) set w) (p + 1))) (by rw [nI_add, fb_ct_succ]; simp [sCvF, Nat.testBit_eq_decide_div_mod_eq, c_11, c_26, c_38, c_50]) ?_
                  refine lv_istore (lv' := [(5, .int (nI (fb_ct (sCvF (G 0) set w) (p + 1)))), (0, .ref (b 0)), (1, .int (nI set)), (2, .int (nI kk)), (3, .int (bI (sAll (sCvW (G 0) set kk) w))), (4, .int (nI w)), (6, .int (nI p))]) hz.1 hz.2.1 dX6_covers_59 hl (by decide) rfl (fun ls hl => ?_)
                  refine lv_iinc (v := nI (p + 1)) (lv' := [(6, .int (nI (p + 1))), (5, .int (nI (fb_ct (sCvF (G 0) set w) (p + 1)))), (0, .ref (b 0)), (1, .int (nI set)), (2, .int (nI kk)), (3, .int (bI (sAll (sCvW (G 0) set kk) w))), (4, .int (nI w))]) hz.1 hz.2.1 dX6_covers_61 hl (k := 6) rfl (nI_add _ 1) (by decide) rfl (fun ls hl => ?_)
                  refine lv_goto (tgt := 20) hz.1 hz.2.1 dX6_covers_64 (by decide) ?_
                  exact ih20 (p + 1) (by omega) (by omega) ls (lv_sub hl [2, 3, 4, 5, 6, 1, 0] rfl)
                · refine lv_iconst (v := nI 1) hz.1 hz.2.1 dX6_covers_53 (by decide) ?_
                  refine lv_goto (tgt := 58) hz.1 hz.2.1 dX6_covers_54 (by decide) ?_
                  refine lv_iadd hz.1 hz.2.1 dX6_covers_58 ?_
                  refine toe (z := nI (fb_ct (sCvF (G 0) set w) (p + 1))) (by rw [nI_add, fb_ct_succ]; simp [sCvF, Nat.testBit_eq_decide_div_mod_eq, c_11, c_26, c_38, c_50]) ?_
                  refine lv_istore (lv' := [(5, .int (nI (fb_ct (sCvF (G 0) set w) (p + 1)))), (0, .ref (b 0)), (1, .int (nI set)), (2, .int (nI kk)), (3, .int (bI (sAll (sCvW (G 0) set kk) w))), (4, .int (nI w)), (6, .int (nI p))]) hz.1 hz.2.1 dX6_covers_59 hl (by decide) rfl (fun ls hl => ?_)
                  refine lv_iinc (v := nI (p + 1)) (lv' := [(6, .int (nI (p + 1))), (5, .int (nI (fb_ct (sCvF (G 0) set w) (p + 1)))), (0, .ref (b 0)), (1, .int (nI set)), (2, .int (nI kk)), (3, .int (bI (sAll (sCvW (G 0) set kk) w))), (4, .int (nI w))]) hz.1 hz.2.1 dX6_covers_61 hl (k := 6) rfl (nI_add _ 1) (by decide) rfl (fun ls hl => ?_)
                  refine lv_goto (tgt := 20) hz.1 hz.2.1 dX6_covers_64 (by decide) ?_
                  exact ih20 (p + 1) (by omega) (by omega) ls (lv_sub hl [2, 3, 4, 5, 6, 1, 0] rfl)
        exact lp_20 _ 0 (by omega) (Nat.lt_succ_self _) ls (lv_sub hl [2, 3, 4, 5, 6, 1, 0] rfl)
  exact lp_5 _ 0 (by omega) (Nat.lt_succ_self _) ls (lv_sub hl [2, 3, 4, 1, 0] rfl)

theorem hinX6_cover : ∀ w ∈ wsX60, w ∈ wsX6_cover := fun _ h => List.mem_cons_of_mem _ (List.mem_append_right _ h)
set_option maxHeartbeats 4000000 in
set_option maxRecDepth 100000 in
theorem c6_cover_bad (l_ : Launch) (D : va_G) (k : Nat → ClassId) (b I J : Nat → Nat) (G : Nat → Nat → Nat) (x : Int32) (hb : wIn x 1 3 = false) : Met l_ yX6_cover wsX6_cover ({ frames := 1, cells := 0, slots := 0, locals := 25 }) (va_Pc [.ref (b 0), .int x] (wH YT D k (mw b k I J G))) (va_Qi (fun (r : Int32) (u : Unit) => r = -2) (fun (u : Unit) (t_ : State) => va_P D vwCl ((fun (_ : Unit) => mw b k I J (gset G 3 (sRef (G 3) 0))) u) t_.heap) (wA (mw b k I J G))) 0 0 (wA (mw b k I J G)) := by
  refine my_entry (cc := cX6_cover) (maxL := 5) (ret := some .int) (by decide) rfl (Nat.le_of_ble_eq_true rfl) ?_
  intro p_ e_ s_ m_ bl_ me_ c_ hz hr hlk hB ls hl
  obtain ⟨hP, hK, hD0, -⟩ := hB
  have hD := wA.self hD0
  have hS : va_S (wA (mw b k I J G)) s_.heap s_.heap [] := va_S.rf
  have hl : lv_has ls 5 [(0, .ref (b 0)), (1, .int x)] := hl
  refine lv_iload_n hz.1 hz.2.1 dX6_cover_0 rfl (lv_at hl 1 rfl) ?_
  refine lv_i2l (v := x.toInt64) hz.1 hz.2.1 dX6_cover_1 (rfl) ?_
  refine lv_lconst (v := lN 1) hz.1 hz.2.1 dX6_cover_2 (by decide) ?_
  refine lv_ldc2 (own := RX6) (v := lN 3) hz.1 hz.2.1 hz.2.2.2.1 (hz.2.2.2.2 (.constantLong RX6 64 (3)) (List.mem_of_getElem? (i := 1) rfl)) dX6_cover_3 ?_
  refine rdS (As := [.long x.toInt64, .long (lN 1), .long (lN 3)]) (rest := []) hz (c6_in l_ x 1 3 (by omega) (by omega)) rfl (va_cwS 3 hz.2.2.2.2 gX6_cover_X6_in rfl rfl rfl (by decide +kernel) ⟨Nat.le_of_ble_eq_true rfl, Nat.le_of_ble_eq_true rfl⟩) rfl hl.1 rfl (Nat.le_of_ble_eq_true rfl) dX6_cover_6 ⟨Nat.zero_le _, Nat.zero_le _⟩ ?_
  refine zne (tgt := 19) hz dX6_cover_9 (by decide) (fun c_9 => ?_) (fun c_9 => ?_)
  · simp [c_9] at hb
  · refine lv_aload_n hz.1 hz.2.1 dX6_cover_12 rfl (lv_at hl 0 rfl) ?_
    refine lv_bipush (v := (-2)) hz.1 hz.2.1 dX6_cover_13 (by decide) ?_
    refine wrV (A := wA (mw b k I J G)) (As := [.int (-2)]) (rest := []) hz okYT (c6_bad l_ D k b I J G (-2) ) (cwV 1 hz.2.2.2.2 gX6_cover_X6_bad rfl rfl rfl (by decide +kernel) ⟨Nat.le_of_ble_eq_true rfl, Nat.le_of_ble_eq_true rfl⟩) hK trivial hP hD hS 0 6 rfl rfl rfl rfl hl.1 rfl (Nat.le_of_ble_eq_true rfl) dX6_cover_15 ⟨Nat.zero_le _, Nat.zero_le _⟩ (fun r u H locs hp hP hS _ => ?_)
    obtain rfl : r = -2 := hp
    have hP : va_P D vwCl (mw b k I J (gset G 3 (sRef (G 3) 0))) H := hP
    have hD := mw_D (I' := I) (J' := J) (G' := gset G 3 (sRef (G 3) 0)) hD
    exact wr_iret hz hr hlk dX6_cover_18 hS (()) hP (rfl)

set_option maxHeartbeats 4000000 in
set_option maxRecDepth 100000 in
theorem c6_cover_ok (l_ : Launch) (D : va_G) (k : Nat → ClassId) (b I J : Nat → Nat) (G : Nat → Nat → Nat) (kk : Nat) (hf : Wf (G 0)) (h1 : 1 ≤ kk) (h2 : kk ≤ 3) : Met l_ yX6_cover wsX6_cover ({ frames := 3, cells := 0, slots := 0, locals := 71 }) (va_Pc [.ref (b 0), .int (nI kk)] (wH YT D k (mw b k I J G))) (QcRead (oI (sCover (G 0) kk))) 0 0 (fun _ => False) := by
  refine my_entry (cc := cX6_cover) (maxL := 5) (ret := some .int) (by decide) rfl (Nat.le_of_ble_eq_true rfl) ?_
  intro p_ e_ s_ m_ bl_ me_ c_ hz hr hlk hB ls hl
  obtain ⟨hP, hK, hD0, -⟩ := hB
  have hD := wA.self hD0
  have hS : va_S (wA (mw b k I J G)) s_.heap s_.heap [] := va_S.rf
  have hl : lv_has ls 5 [(0, .ref (b 0)), (1, .int (nI kk))] := hl
  have f0 := hf.n2
  have f1 := hf.n9
  have f2 := hf.fr
  have f3 := hf.gd
  have f6 : 2 ^ G 0 0 ≤ 2 ^ 9 := Nat.pow_le_pow_right (by decide) f1
  have f7 : 2 ^ 9 = 512 := by decide
  have f8 : 0 < 2 ^ G 0 0 := Nat.two_pow_pos _
  refine lv_iload_n hz.1 hz.2.1 dX6_cover_0 rfl (lv_at hl 1 rfl) ?_
  refine lv_i2l (v := (nI kk).toInt64) hz.1 hz.2.1 dX6_cover_1 (rfl) ?_
  refine lv_lconst (v := lN 1) hz.1 hz.2.1 dX6_cover_2 (by decide) ?_
  refine lv_ldc2 (own := RX6) (v := lN 3) hz.1 hz.2.1 hz.2.2.2.1 (hz.2.2.2.2 (.constantLong RX6 64 (3)) (List.mem_of_getElem? (i := 1) rfl)) dX6_cover_3 ?_
  refine rdS (As := [.long ((nI kk).toInt64), .long (lN 1), .long (lN 3)]) (rest := []) hz (c6_in l_ (nI kk) 1 3 (by omega) (by omega)) rfl (va_cwS 3 hz.2.2.2.2 gX6_cover_X6_in rfl rfl rfl (by decide +kernel) ⟨Nat.le_of_ble_eq_true rfl, Nat.le_of_ble_eq_true rfl⟩) rfl hl.1 rfl (Nat.le_of_ble_eq_true rfl) dX6_cover_6 ⟨Nat.zero_le _, Nat.zero_le _⟩ ?_
  refine zne (tgt := 19) hz dX6_cover_9 (by decide) (fun c_9 => ?_) (fun c_9 => ?_)
  · refine lv_iconst (v := (-1)) hz.1 hz.2.1 dX6_cover_19 (by decide) ?_
    refine lv_istore_n (lv' := [(2, .int (-1)), (0, .ref (b 0)), (1, .int (nI kk))]) hz.1 hz.2.1 dX6_cover_20 rfl hl (by decide) rfl (fun ls hl => ?_)
    refine lv_iconst (v := nI 0) hz.1 hz.2.1 dX6_cover_21 (by decide) ?_
    refine lv_istore_n (lv' := [(3, .int (nI 0)), (2, .int (-1)), (0, .ref (b 0)), (1, .int (nI kk))]) hz.1 hz.2.1 dX6_cover_22 rfl hl (by decide) rfl (fun ls hl => ?_)
    have lp_23 : ∀ (fu : Nat) (s : Nat), (s ≤ 2 ^ G 0 0) → 2 ^ G 0 0 - s < fu → ∀ ls : Array Slot, lv_has ls 5 [(0, .ref (b 0)), (1, .int (nI kk)), (2, .int (oI (sCov (fun z_ => sCovers (G 0) z_ kk) s))), (3, .int (nI s))] → W p_ l_ e_ ({ frames := 3, cells := 0, slots := 0, locals := 71 }) s_ m_ [.ref (b 0), .int (nI kk)].toArray bl_ me_ c_ s_.heap [] 0 0 (MQ bl_ (QcRead (oI (sCover (G 0) kk))) [.ref (b 0), .int (nI kk)].toArray s_ 0 0 (fun _ => False)) (F0 m_ 23 ls []) := by
      intro fu
      induction fu with
      | zero => intro s hs hm; exact absurd hm (Nat.not_lt_zero _)
      | succ fu ih23 =>
        intro s hs hm ls hl
        refine lv_iload_n hz.1 hz.2.1 dX6_cover_23 rfl (lv_at hl 3 rfl) ?_
        refine lv_iconst (v := nI 1) hz.1 hz.2.1 dX6_cover_24 (by decide) ?_
        refine lv_aload_n hz.1 hz.2.1 dX6_cover_25 rfl (lv_at hl 0 rfl) ?_
        refine rdV (A := wA (mw b k I J G)) (As := []) (rest := [.int (nI 1), .int (nI s)]) hz okYT (c6_line l_ D k b I J G  ) (cwV 0 hz.2.2.2.2 gX6_cover_X6_line rfl rfl rfl (by decide +kernel) ⟨Nat.le_of_ble_eq_true rfl, Nat.le_of_ble_eq_true rfl⟩) hK trivial hP hD hS 0 6 rfl rfl rfl rfl hl.1 rfl (Nat.le_of_ble_eq_true rfl) dX6_cover_26 ⟨Nat.zero_le _, Nat.zero_le _⟩ ?_
        refine lv_ishl hz.1 hz.2.1 dX6_cover_29 ?_
        refine toe (z := nI (2 ^ ((G 0) 0))) (nI_shl1 (by omega)) ?_
        refine jge (tgt := 82) hz dX6_cover_30 (by decide) (by omega) (by omega) (fun c_30 => ?_) (fun c_30 => ?_)
        · obtain rfl : s = 2 ^ G 0 0 := by omega
          refine lv_iload_n hz.1 hz.2.1 dX6_cover_82 rfl (lv_at hl 2 rfl) ?_
          exact rd_iret hz hr hlk dX6_cover_83 (rfl)
        · refine lv_iload_n hz.1 hz.2.1 dX6_cover_33 rfl (lv_at hl 2 rfl) ?_
          refine lv_iconst (v := (-1)) hz.1 hz.2.1 dX6_cover_34 (by decide) ?_
          refine lv_icmp_eq (tgt := 49) hz.1 hz.2.1 dX6_cover_35 (by decide) (fun c_35 => ?_) (fun c_35 => ?_)
          · have hn : sCov (fun z_ => sCovers (G 0) z_ kk) s = none := (oI_none (fun j hj => by have := sCov_lt hj; omega)).mp c_35
            refine lv_iconst (v := nI 1) hz.1 hz.2.1 dX6_cover_49 (by decide) ?_
            refine lv_goto (tgt := 54) hz.1 hz.2.1 dX6_cover_50 (by decide) ?_
            refine lv_istore (lv' := [(4, .int (nI 1)), (0, .ref (b 0)), (1, .int (nI kk)), (2, .int (oI (sCov (fun z_ => sCovers (G 0) z_ kk) s))), (3, .int (nI s))]) hz.1 hz.2.1 dX6_cover_54 hl (by decide) rfl (fun ls hl => ?_)
            refine lv_iload hz.1 hz.2.1 dX6_cover_56 (lv_at hl 0 rfl) ?_
            refine jeq0 (tgt := 74) hz dX6_cover_58 (by decide) (by omega) (fun c_58 => ?_) (fun c_58 => ?_)
            · exact absurd c_58 (by decide)
            · refine lv_aload_n hz.1 hz.2.1 dX6_cover_61 rfl (lv_at hl 1 rfl) ?_
              refine lv_iload_n hz.1 hz.2.1 dX6_cover_62 rfl (lv_at hl 4 rfl) ?_
              refine lv_iload_n hz.1 hz.2.1 dX6_cover_63 rfl (lv_at hl 2 rfl) ?_
              refine rdV (A := wA (mw b k I J G)) (As := [.int (nI s), .int (nI kk)]) (rest := []) hz okYT (c6_covers l_ D k b I J G s kk hf (by omega) (by omega)) (cwV 2 hz.2.2.2.2 gX6_cover_X6_covers rfl rfl rfl (by decide +kernel) ⟨Nat.le_of_ble_eq_true rfl, Nat.le_of_ble_eq_true rfl⟩) hK trivial hP hD hS 0 6 rfl rfl rfl rfl hl.1 rfl (Nat.le_of_ble_eq_true rfl) dX6_cover_64 ⟨Nat.zero_le _, Nat.zero_le _⟩ ?_
              refine zeq (tgt := 74) hz dX6_cover_67 (by decide) (fun c_67 => ?_) (fun c_67 => ?_)
              · refine lv_iload_n hz.1 hz.2.1 dX6_cover_74 rfl (lv_at hl 3 rfl) ?_
                refine toe (z := oI (sCov (fun z_ => sCovers (G 0) z_ kk) (s + 1))) (by rw [sCov_n0 hn c_67, hn]) ?_
                refine lv_istore_n (lv' := [(2, .int (oI (sCov (fun z_ => sCovers (G 0) z_ kk) (s + 1)))), (4, .int (nI 1)), (0, .ref (b 0)), (1, .int (nI kk)), (3, .int (nI s))]) hz.1 hz.2.1 dX6_cover_75 rfl hl (by decide) rfl (fun ls hl => ?_)
                refine lv_iinc (v := nI (s + 1)) (lv' := [(3, .int (nI (s + 1))), (2, .int (oI (sCov (fun z_ => sCovers (G 0) z_ kk) (s + 1)))), (4, .int (nI 1)), (0, .ref (b 0)), (1, .int (nI kk))]) hz.1 hz.2.1 dX6_cover_76 hl (k := 4) rfl (nI_add _ 1) (by decide) rfl (fun ls hl => ?_)
                refine lv_goto (tgt := 23) hz.1 hz.2.1 dX6_cover_79 (by decide) ?_
                exact ih23 (s + 1) (by omega) (by omega) ls (lv_sub hl [3, 4, 1, 0] rfl)
              · refine lv_iload_n hz.1 hz.2.1 dX6_cover_70 rfl (lv_at hl 4 rfl) ?_
                refine lv_goto (tgt := 75) hz.1 hz.2.1 dX6_cover_71 (by decide) ?_
                refine toe (z := oI (sCov (fun z_ => sCovers (G 0) z_ kk) (s + 1))) (by rw [sCov_n1 hn c_67]; rfl) ?_
                refine lv_istore_n (lv' := [(2, .int (oI (sCov (fun z_ => sCovers (G 0) z_ kk) (s + 1)))), (4, .int (nI 1)), (0, .ref (b 0)), (1, .int (nI kk)), (3, .int (nI s))]) hz.1 hz.2.1 dX6_cover_75 rfl hl (by decide) rfl (fun ls hl => ?_)
                refine lv_iinc (v := nI (s + 1)) (lv' := [(3, .int (nI (s + 1))), (2, .int (oI (sCov (fun z_ => sCovers (G 0) z_ kk) (s + 1)))), (4, .int (nI 1)), (0, .ref (b 0)), (1, .int (nI kk))]) hz.1 hz.2.1 dX6_cover_76 hl (k := 4) rfl (nI_add _ 1) (by decide) rfl (fun ls hl => ?_)
                refine lv_goto (tgt := 23) hz.1 hz.2.1 dX6_cover_79 (by decide) ?_
                exact ih23 (s + 1) (by omega) (by omega) ls (lv_sub hl [3, 4, 1, 0] rfl)
          · obtain ⟨t, ht⟩ : ∃ t, sCov (fun z_ => sCovers (G 0) z_ kk) s = some t := by cases hq : sCov (fun z_ => sCovers (G 0) z_ kk) s with | none => exact absurd (by rw [hq]; rfl) c_35 | some t => exact ⟨t, rfl⟩
            have htl := sCov_lt ht
            rw [ht] at hl
            have hl : lv_has ls 5 [(0, .ref (b 0)), (1, .int (nI kk)), (2, .int (nI t)), (3, .int (nI s))] := hl
            have p1 := sPop_le s
            have p2 := sPop_le t
            refine lv_iload_n hz.1 hz.2.1 dX6_cover_38 rfl (lv_at hl 3 rfl) ?_
            refine rdS (As := [.int (nI s)]) (rest := []) hz (c6_bits l_ s (by omega)) rfl (va_cwS 1 hz.2.2.2.2 gX6_cover_X6_bits rfl rfl rfl (by decide +kernel) ⟨Nat.le_of_ble_eq_true rfl, Nat.le_of_ble_eq_true rfl⟩) rfl hl.1 rfl (Nat.le_of_ble_eq_true rfl) dX6_cover_39 ⟨Nat.zero_le _, Nat.zero_le _⟩ ?_
            refine lv_iload_n hz.1 hz.2.1 dX6_cover_42 rfl (lv_at hl 2 rfl) ?_
            refine rdS (As := [.int (nI t)]) (rest := [.int (nI (sPop s))]) hz (c6_bits l_ t (by omega)) rfl (va_cwS 1 hz.2.2.2.2 gX6_cover_X6_bits rfl rfl rfl (by decide +kernel) ⟨Nat.le_of_ble_eq_true rfl, Nat.le_of_ble_eq_true rfl⟩) rfl hl.1 rfl (Nat.le_of_ble_eq_true rfl) dX6_cover_43 ⟨Nat.zero_le _, Nat.zero_le _⟩ ?_
            refine jge (tgt := 53) hz dX6_cover_46 (by decide) (by omega) (by omega) (fun c_46 => ?_) (fun c_46 => ?_)
            · refine lv_iconst (v := nI 0) hz.1 hz.2.1 dX6_cover_53 (by decide) ?_
              refine lv_istore (lv' := [(4, .int (nI 0)), (0, .ref (b 0)), (1, .int (nI kk)), (2, .int (nI t)), (3, .int (nI s))]) hz.1 hz.2.1 dX6_cover_54 hl (by decide) rfl (fun ls hl => ?_)
              refine lv_iload hz.1 hz.2.1 dX6_cover_56 (lv_at hl 0 rfl) ?_
              refine jeq0 (tgt := 74) hz dX6_cover_58 (by decide) (by omega) (fun c_58 => ?_) (fun c_58 => ?_)
              · refine lv_iload_n hz.1 hz.2.1 dX6_cover_74 rfl (lv_at hl 3 rfl) ?_
                refine toe (z := oI (sCov (fun z_ => sCovers (G 0) z_ kk) (s + 1))) (by rw [sCov_s0 ht (fun q => c_46 q.1)]; rfl) ?_
                refine lv_istore_n (lv' := [(2, .int (oI (sCov (fun z_ => sCovers (G 0) z_ kk) (s + 1)))), (4, .int (nI 0)), (0, .ref (b 0)), (1, .int (nI kk)), (3, .int (nI s))]) hz.1 hz.2.1 dX6_cover_75 rfl hl (by decide) rfl (fun ls hl => ?_)
                refine lv_iinc (v := nI (s + 1)) (lv' := [(3, .int (nI (s + 1))), (2, .int (oI (sCov (fun z_ => sCovers (G 0) z_ kk) (s + 1)))), (4, .int (nI 0)), (0, .ref (b 0)), (1, .int (nI kk))]) hz.1 hz.2.1 dX6_cover_76 hl (k := 4) rfl (nI_add _ 1) (by decide) rfl (fun ls hl => ?_)
                refine lv_goto (tgt := 23) hz.1 hz.2.1 dX6_cover_79 (by decide) ?_
                exact ih23 (s + 1) (by omega) (by omega) ls (lv_sub hl [3, 4, 1, 0] rfl)
              · exact absurd c_58 (by decide)
            · refine lv_iconst (v := nI 1) hz.1 hz.2.1 dX6_cover_49 (by decide) ?_
              refine lv_goto (tgt := 54) hz.1 hz.2.1 dX6_cover_50 (by decide) ?_
              refine lv_istore (lv' := [(4, .int (nI 1)), (0, .ref (b 0)), (1, .int (nI kk)), (2, .int (nI t)), (3, .int (nI s))]) hz.1 hz.2.1 dX6_cover_54 hl (by decide) rfl (fun ls hl => ?_)
              refine lv_iload hz.1 hz.2.1 dX6_cover_56 (lv_at hl 0 rfl) ?_
              refine jeq0 (tgt := 74) hz dX6_cover_58 (by decide) (by omega) (fun c_58 => ?_) (fun c_58 => ?_)
              · exact absurd c_58 (by decide)
              · refine lv_aload_n hz.1 hz.2.1 dX6_cover_61 rfl (lv_at hl 1 rfl) ?_
                refine lv_iload_n hz.1 hz.2.1 dX6_cover_62 rfl (lv_at hl 4 rfl) ?_
                refine lv_iload_n hz.1 hz.2.1 dX6_cover_63 rfl (lv_at hl 2 rfl) ?_
                refine rdV (A := wA (mw b k I J G)) (As := [.int (nI s), .int (nI kk)]) (rest := []) hz okYT (c6_covers l_ D k b I J G s kk hf (by omega) (by omega)) (cwV 2 hz.2.2.2.2 gX6_cover_X6_covers rfl rfl rfl (by decide +kernel) ⟨Nat.le_of_ble_eq_true rfl, Nat.le_of_ble_eq_true rfl⟩) hK trivial hP hD hS 0 6 rfl rfl rfl rfl hl.1 rfl (Nat.le_of_ble_eq_true rfl) dX6_cover_64 ⟨Nat.zero_le _, Nat.zero_le _⟩ ?_
                refine zeq (tgt := 74) hz dX6_cover_67 (by decide) (fun c_67 => ?_) (fun c_67 => ?_)
                · refine lv_iload_n hz.1 hz.2.1 dX6_cover_74 rfl (lv_at hl 3 rfl) ?_
                  refine toe (z := oI (sCov (fun z_ => sCovers (G 0) z_ kk) (s + 1))) (by rw [sCov_s0 ht (fun q => by have := c_67.symm.trans q.2; cases this)]; rfl) ?_
                  refine lv_istore_n (lv' := [(2, .int (oI (sCov (fun z_ => sCovers (G 0) z_ kk) (s + 1)))), (4, .int (nI 1)), (0, .ref (b 0)), (1, .int (nI kk)), (3, .int (nI s))]) hz.1 hz.2.1 dX6_cover_75 rfl hl (by decide) rfl (fun ls hl => ?_)
                  refine lv_iinc (v := nI (s + 1)) (lv' := [(3, .int (nI (s + 1))), (2, .int (oI (sCov (fun z_ => sCovers (G 0) z_ kk) (s + 1)))), (4, .int (nI 1)), (0, .ref (b 0)), (1, .int (nI kk))]) hz.1 hz.2.1 dX6_cover_76 hl (k := 4) rfl (nI_add _ 1) (by decide) rfl (fun ls hl => ?_)
                  refine lv_goto (tgt := 23) hz.1 hz.2.1 dX6_cover_79 (by decide) ?_
                  exact ih23 (s + 1) (by omega) (by omega) ls (lv_sub hl [3, 4, 1, 0] rfl)
                · refine lv_iload_n hz.1 hz.2.1 dX6_cover_70 rfl (lv_at hl 4 rfl) ?_
                  refine lv_goto (tgt := 75) hz.1 hz.2.1 dX6_cover_71 (by decide) ?_
                  refine toe (z := oI (sCov (fun z_ => sCovers (G 0) z_ kk) (s + 1))) (by rw [sCov_s1 ht c_46 c_67]; rfl) ?_
                  refine lv_istore_n (lv' := [(2, .int (oI (sCov (fun z_ => sCovers (G 0) z_ kk) (s + 1)))), (4, .int (nI 1)), (0, .ref (b 0)), (1, .int (nI kk)), (3, .int (nI s))]) hz.1 hz.2.1 dX6_cover_75 rfl hl (by decide) rfl (fun ls hl => ?_)
                  refine lv_iinc (v := nI (s + 1)) (lv' := [(3, .int (nI (s + 1))), (2, .int (oI (sCov (fun z_ => sCovers (G 0) z_ kk) (s + 1)))), (4, .int (nI 1)), (0, .ref (b 0)), (1, .int (nI kk))]) hz.1 hz.2.1 dX6_cover_76 hl (k := 4) rfl (nI_add _ 1) (by decide) rfl (fun ls hl => ?_)
                  refine lv_goto (tgt := 23) hz.1 hz.2.1 dX6_cover_79 (by decide) ?_
                  exact ih23 (s + 1) (by omega) (by omega) ls (lv_sub hl [3, 4, 1, 0] rfl)
    exact lp_23 _ 0 (by omega) (Nat.lt_succ_self _) ls (lv_sub hl [2, 3, 1, 0] rfl)
  · exact absurd ((wIn_ok (by omega) (by omega) (by omega)).symm.trans c_9) (by decide)

theorem hinX6_together : ∀ w ∈ wsX60, w ∈ wsX6_together := fun _ h => List.mem_cons_of_mem _ (List.mem_append_right _ h)
set_option maxHeartbeats 4000000 in
set_option maxRecDepth 100000 in
theorem c6_together (l_ : Launch) (D : va_G) (k : Nat → ClassId) (b I J : Nat → Nat) (G : Nat → Nat → Nat) (v w : Nat) (hf : Wf (G 0)) (hv : v < 8) (hw : w < 8) : Met l_ yX6_together wsX6_together ({ frames := 2, cells := 0, slots := 0, locals := 45 }) (va_Pc [.ref (b 0), .int (nI v), .int (nI w)] (wH YT D k (mw b k I J G))) (QcRead (bI (sTog (G 0) v w))) 0 0 (fun _ => False) := by
  refine my_entry (cc := cX6_together) (maxL := 5) (ret := some .boolean) (by decide) rfl (Nat.le_of_ble_eq_true rfl) ?_
  intro p_ e_ s_ m_ bl_ me_ c_ hz hr hlk hB ls hl
  obtain ⟨hP, hK, hD0, -⟩ := hB
  have hD := wA.self hD0
  have hS : va_S (wA (mw b k I J G)) s_.heap s_.heap [] := va_S.rf
  have hl : lv_has ls 5 [(0, .ref (b 0)), (1, .int (nI v)), (2, .int (nI w))] := hl
  have f0 := hf.n2
  have f1 := hf.n9
  have f2 := hf.fr
  have f3 := hf.gd
  refine lv_iconst (v := nI 0) hz.1 hz.2.1 dX6_together_0 (by decide) ?_
  refine lv_istore_n (lv' := [(3, .int (nI 0)), (0, .ref (b 0)), (1, .int (nI v)), (2, .int (nI w))]) hz.1 hz.2.1 dX6_together_1 rfl hl (by decide) rfl (fun ls hl => ?_)
  refine lv_iconst (v := nI 0) hz.1 hz.2.1 dX6_together_2 (by decide) ?_
  refine lv_istore (lv' := [(4, .int (nI 0)), (3, .int (nI 0)), (0, .ref (b 0)), (1, .int (nI v)), (2, .int (nI w))]) hz.1 hz.2.1 dX6_together_3 hl (by decide) rfl (fun ls hl => ?_)
  have lp_5 : ∀ (fu : Nat) (p : Nat), (p ≤ G 0 0) → G 0 0 - p < fu → ∀ ls : Array Slot, lv_has ls 5 [(0, .ref (b 0)), (1, .int (nI v)), (2, .int (nI w)), (3, .int (bI (sAny (sTgF (G 0) v w) p))), (4, .int (nI p))] → W p_ l_ e_ ({ frames := 2, cells := 0, slots := 0, locals := 45 }) s_ m_ [.ref (b 0), .int (nI v), .int (nI w)].toArray bl_ me_ c_ s_.heap [] 0 0 (MQ bl_ (QcRead (bI (sTog (G 0) v w))) [.ref (b 0), .int (nI v), .int (nI w)].toArray s_ 0 0 (fun _ => False)) (F0 m_ 5 ls []) := by
    intro fu
    induction fu with
    | zero => intro p hp hm; exact absurd hm (Nat.not_lt_zero _)
    | succ fu ih5 =>
      intro p hp hm ls hl
      refine lv_iload hz.1 hz.2.1 dX6_together_5 (lv_at hl 4 rfl) ?_
      refine lv_aload_n hz.1 hz.2.1 dX6_together_7 rfl (lv_at hl 0 rfl) ?_
      refine rdV (A := wA (mw b k I J G)) (As := []) (rest := [.int (nI p)]) hz okYT (c6_line l_ D k b I J G  ) (cwV 0 hz.2.2.2.2 gX6_together_X6_line rfl rfl rfl (by decide +kernel) ⟨Nat.le_of_ble_eq_true rfl, Nat.le_of_ble_eq_true rfl⟩) hK trivial hP hD hS 0 6 rfl rfl rfl rfl hl.1 rfl (Nat.le_of_ble_eq_true rfl) dX6_together_8 ⟨Nat.zero_le _, Nat.zero_le _⟩ ?_
      refine jge (tgt := 52) hz dX6_together_11 (by decide) (by omega) (by omega) (fun c_11 => ?_) (fun c_11 => ?_)
      · obtain rfl : p = G 0 0 := by omega
        refine lv_iload_n hz.1 hz.2.1 dX6_together_52 rfl (lv_at hl 3 rfl) ?_
        refine zeq (tgt := 76) hz dX6_together_53 (by decide) (fun c_53 => ?_) (fun c_53 => ?_)
        · refine lv_iconst (v := nI 0) hz.1 hz.2.1 dX6_together_76 (by decide) ?_
          exact rd_zret hz hr hlk dX6_together_77 (bI_0 (by simp [sTog, c_53]))
        · refine lv_aload_n hz.1 hz.2.1 dX6_together_56 rfl (lv_at hl 0 rfl) ?_
          refine lv_iload_n hz.1 hz.2.1 dX6_together_57 rfl (lv_at hl 1 rfl) ?_
          refine rdV (A := wA (mw b k I J G)) (As := [.int (nI v)]) (rest := []) hz okYT (c6_isCut l_ D k b I J G v hf (by omega)) (cwV 1 hz.2.2.2.2 gX6_together_X6_isCut rfl rfl rfl (by decide +kernel) ⟨Nat.le_of_ble_eq_true rfl, Nat.le_of_ble_eq_true rfl⟩) hK trivial hP hD hS 0 6 rfl rfl rfl rfl hl.1 rfl (Nat.le_of_ble_eq_true rfl) dX6_together_58 ⟨Nat.zero_le _, Nat.zero_le _⟩ ?_
          refine zne (tgt := 76) hz dX6_together_61 (by decide) (fun c_61 => ?_) (fun c_61 => ?_)
          · refine lv_iconst (v := nI 0) hz.1 hz.2.1 dX6_together_76 (by decide) ?_
            exact rd_zret hz hr hlk dX6_together_77 (bI_0 (by simp [sTog, c_53, c_61]))
          · refine lv_aload_n hz.1 hz.2.1 dX6_together_64 rfl (lv_at hl 0 rfl) ?_
            refine lv_iload_n hz.1 hz.2.1 dX6_together_65 rfl (lv_at hl 2 rfl) ?_
            refine rdV (A := wA (mw b k I J G)) (As := [.int (nI w)]) (rest := []) hz okYT (c6_isCut l_ D k b I J G w hf (by omega)) (cwV 1 hz.2.2.2.2 gX6_together_X6_isCut rfl rfl rfl (by decide +kernel) ⟨Nat.le_of_ble_eq_true rfl, Nat.le_of_ble_eq_true rfl⟩) hK trivial hP hD hS 0 6 rfl rfl rfl rfl hl.1 rfl (Nat.le_of_ble_eq_true rfl) dX6_together_66 ⟨Nat.zero_le _, Nat.zero_le _⟩ ?_
            refine zne (tgt := 76) hz dX6_together_69 (by decide) (fun c_69 => ?_) (fun c_69 => ?_)
            · refine lv_iconst (v := nI 0) hz.1 hz.2.1 dX6_together_76 (by decide) ?_
              exact rd_zret hz hr hlk dX6_together_77 (bI_0 (by simp [sTog, c_53, c_61, c_69]))
            · refine lv_iconst (v := nI 1) hz.1 hz.2.1 dX6_together_72 (by decide) ?_
              refine lv_goto (tgt := 77) hz.1 hz.2.1 dX6_together_73 (by decide) ?_
              exact rd_zret hz hr hlk dX6_together_77 (bI_1 (by simp only [sTog, c_53, c_61, c_69]; decide))
      · refine lv_iload_n hz.1 hz.2.1 dX6_together_14 rfl (lv_at hl 3 rfl) ?_
        refine zne (tgt := 40) hz dX6_together_15 (by decide) (fun c_15 => ?_) (fun c_15 => ?_)
        · refine lv_iconst (v := nI 1) hz.1 hz.2.1 dX6_together_40 (by decide) ?_
          refine lv_goto (tgt := 45) hz.1 hz.2.1 dX6_together_41 (by decide) ?_
          refine toe (z := bI (sAny (sTgF (G 0) v w) (p + 1))) (bI_1 (by simp [sAny, sTgF, c_15])) ?_
          refine lv_istore_n (lv' := [(3, .int (bI (sAny (sTgF (G 0) v w) (p + 1)))), (0, .ref (b 0)), (1, .int (nI v)), (2, .int (nI w)), (4, .int (nI p))]) hz.1 hz.2.1 dX6_together_45 rfl hl (by decide) rfl (fun ls hl => ?_)
          refine lv_iinc (v := nI (p + 1)) (lv' := [(4, .int (nI (p + 1))), (3, .int (bI (sAny (sTgF (G 0) v w) (p + 1)))), (0, .ref (b 0)), (1, .int (nI v)), (2, .int (nI w))]) hz.1 hz.2.1 dX6_together_46 hl (k := 4) rfl (nI_add _ 1) (by decide) rfl (fun ls hl => ?_)
          refine lv_goto (tgt := 5) hz.1 hz.2.1 dX6_together_49 (by decide) ?_
          exact ih5 (p + 1) (by omega) (by omega) ls (lv_sub hl [2, 3, 4, 1, 0] rfl)
        · refine lv_aload_n hz.1 hz.2.1 dX6_together_18 rfl (lv_at hl 0 rfl) ?_
          refine lv_iload hz.1 hz.2.1 dX6_together_19 (lv_at hl 4 rfl) ?_
          refine lv_iload_n hz.1 hz.2.1 dX6_together_21 rfl (lv_at hl 1 rfl) ?_
          refine lv_iconst (v := nI 2) hz.1 hz.2.1 dX6_together_22 (by decide) ?_
          refine rdV (A := wA (mw b k I J G)) (As := [.int (nI p), .int (nI v), .int (nI 2)]) (rest := []) hz okYT (c6_hears l_ D k b I J G p v 2 hf (by omega) (by omega) (by omega) (by omega)) (cwV 3 hz.2.2.2.2 gX6_together_X6_hears rfl rfl rfl (by decide +kernel) ⟨Nat.le_of_ble_eq_true rfl, Nat.le_of_ble_eq_true rfl⟩) hK trivial hP hD hS 0 6 rfl rfl rfl rfl hl.1 rfl (Nat.le_of_ble_eq_true rfl) dX6_together_23 ⟨Nat.zero_le _, Nat.zero_le _⟩ ?_
          refine zeq (tgt := 44) hz dX6_together_26 (by decide) (fun c_26 => ?_) (fun c_26 => ?_)
          · refine lv_iconst (v := nI 0) hz.1 hz.2.1 dX6_together_44 (by decide) ?_
            refine toe (z := bI (sAny (sTgF (G 0) v w) (p + 1))) (bI_0 (by simp [sAny, sTgF, c_15, c_26])) ?_
            refine lv_istore_n (lv' := [(3, .int (bI (sAny (sTgF (G 0) v w) (p + 1)))), (0, .ref (b 0)), (1, .int (nI v)), (2, .int (nI w)), (4, .int (nI p))]) hz.1 hz.2.1 dX6_together_45 rfl hl (by decide) rfl (fun ls hl => ?_)
            refine lv_iinc (v := nI (p + 1)) (lv' := [(4, .int (nI (p + 1))), (3, .int (bI (sAny (sTgF (G 0) v w) (p + 1)))), (0, .ref (b 0)), (1, .int (nI v)), (2, .int (nI w))]) hz.1 hz.2.1 dX6_together_46 hl (k := 4) rfl (nI_add _ 1) (by decide) rfl (fun ls hl => ?_)
            refine lv_goto (tgt := 5) hz.1 hz.2.1 dX6_together_49 (by decide) ?_
            exact ih5 (p + 1) (by omega) (by omega) ls (lv_sub hl [2, 3, 4, 1, 0] rfl)
          · refine lv_aload_n hz.1 hz.2.1 dX6_together_29 rfl (lv_at hl 0 rfl) ?_
            refine lv_iload hz.1 hz.2.1 dX6_together_30 (lv_at hl 4 rfl) ?_
            refine lv_iload_n hz.1 hz.2.1 dX6_together_32 rfl (lv_at hl 2 rfl) ?_
            refine lv_iconst (v := nI 2) hz.1 hz.2.1 dX6_together_33 (by decide) ?_
            refine rdV (A := wA (mw b k I J G)) (As := [.int (nI p), .int (nI w), .int (nI 2)]) (rest := []) hz okYT (c6_hears l_ D k b I J G p w 2 hf (by omega) (by omega) (by omega) (by omega)) (cwV 3 hz.2.2.2.2 gX6_together_X6_hears rfl rfl rfl (by decide +kernel) ⟨Nat.le_of_ble_eq_true rfl, Nat.le_of_ble_eq_true rfl⟩) hK trivial hP hD hS 0 6 rfl rfl rfl rfl hl.1 rfl (Nat.le_of_ble_eq_true rfl) dX6_together_34 ⟨Nat.zero_le _, Nat.zero_le _⟩ ?_
            refine zeq (tgt := 44) hz dX6_together_37 (by decide) (fun c_37 => ?_) (fun c_37 => ?_)
            · refine lv_iconst (v := nI 0) hz.1 hz.2.1 dX6_together_44 (by decide) ?_
              refine toe (z := bI (sAny (sTgF (G 0) v w) (p + 1))) (bI_0 (by simp [sAny, sTgF, c_15, c_26, c_37])) ?_
              refine lv_istore_n (lv' := [(3, .int (bI (sAny (sTgF (G 0) v w) (p + 1)))), (0, .ref (b 0)), (1, .int (nI v)), (2, .int (nI w)), (4, .int (nI p))]) hz.1 hz.2.1 dX6_together_45 rfl hl (by decide) rfl (fun ls hl => ?_)
              refine lv_iinc (v := nI (p + 1)) (lv' := [(4, .int (nI (p + 1))), (3, .int (bI (sAny (sTgF (G 0) v w) (p + 1)))), (0, .ref (b 0)), (1, .int (nI v)), (2, .int (nI w))]) hz.1 hz.2.1 dX6_together_46 hl (k := 4) rfl (nI_add _ 1) (by decide) rfl (fun ls hl => ?_)
              refine lv_goto (tgt := 5) hz.1 hz.2.1 dX6_together_49 (by decide) ?_
              exact ih5 (p + 1) (by omega) (by omega) ls (lv_sub hl [2, 3, 4, 1, 0] rfl)
            · refine lv_iconst (v := nI 1) hz.1 hz.2.1 dX6_together_40 (by decide) ?_
              refine lv_goto (tgt := 45) hz.1 hz.2.1 dX6_together_41 (by decide) ?_
              refine toe (z := bI (sAny (sTgF (G 0) v w) (p + 1))) (bI_1 (by simp [sAny, sTgF, c_15, c_26, c_37])) ?_
              refine lv_istore_n (lv' := [(3, .int (bI (sAny (sTgF (G 0) v w) (p + 1)))), (0, .ref (b 0)), (1, .int (nI v)), (2, .int (nI w)), (4, .int (nI p))]) hz.1 hz.2.1 dX6_together_45 rfl hl (by decide) rfl (fun ls hl => ?_)
              refine lv_iinc (v := nI (p + 1)) (lv' := [(4, .int (nI (p + 1))), (3, .int (bI (sAny (sTgF (G 0) v w) (p + 1)))), (0, .ref (b 0)), (1, .int (nI v)), (2, .int (nI w))]) hz.1 hz.2.1 dX6_together_46 hl (k := 4) rfl (nI_add _ 1) (by decide) rfl (fun ls hl => ?_)
              refine lv_goto (tgt := 5) hz.1 hz.2.1 dX6_together_49 (by decide) ?_
              exact ih5 (p + 1) (by omega) (by omega) ls (lv_sub hl [2, 3, 4, 1, 0] rfl)
  exact lp_5 _ 0 (by omega) (Nat.lt_succ_self _) ls (lv_sub hl [2, 3, 4, 1, 0] rfl)

theorem hinX6_clashes : ∀ w ∈ wsX60, w ∈ wsX6_clashes := fun _ h => List.mem_cons_of_mem _ (List.mem_append_right _ h)
set_option maxHeartbeats 4000000 in
set_option maxRecDepth 100000 in
theorem c6_clashes (l_ : Launch) (D : va_G) (k : Nat → ClassId) (b I J : Nat → Nat) (G : Nat → Nat → Nat)  (hf : Wf (G 0)) : Met l_ yX6_clashes wsX6_clashes ({ frames := 3, cells := 0, slots := 0, locals := 69 }) (va_Pc [.ref (b 0)] (wH YT D k (mw b k I J G))) (QcRead (nI (sClash (G 0)))) 0 0 (fun _ => False) := by
  refine my_entry (cc := cX6_clashes) (maxL := 4) (ret := some .int) (by decide) rfl (Nat.le_of_ble_eq_true rfl) ?_
  intro p_ e_ s_ m_ bl_ me_ c_ hz hr hlk hB ls hl
  obtain ⟨hP, hK, hD0, -⟩ := hB
  have hD := wA.self hD0
  have hS : va_S (wA (mw b k I J G)) s_.heap s_.heap [] := va_S.rf
  have hl : lv_has ls 4 [(0, .ref (b 0))] := hl
  have f0 := hf.n2
  have f1 := hf.n9
  have f2 := hf.fr
  have f3 := hf.gd
  refine lv_iconst (v := nI 0) hz.1 hz.2.1 dX6_clashes_0 (by decide) ?_
  refine lv_istore_n (lv' := [(1, .int (nI 0)), (0, .ref (b 0))]) hz.1 hz.2.1 dX6_clashes_1 rfl hl (by decide) rfl (fun ls hl => ?_)
  refine lv_iconst (v := nI 0) hz.1 hz.2.1 dX6_clashes_2 (by decide) ?_
  refine lv_istore_n (lv' := [(2, .int (nI 0)), (1, .int (nI 0)), (0, .ref (b 0))]) hz.1 hz.2.1 dX6_clashes_3 rfl hl (by decide) rfl (fun ls hl => ?_)
  have lp_4 : ∀ (fu : Nat) (v : Nat), (v ≤ G 0 0 - 1) → G 0 0 - 1 - v < fu → ∀ ls : Array Slot, lv_has ls 4 [(0, .ref (b 0)), (1, .int (nI (fb_sm (fun z_ => fb_ct (sClF (G 0) z_) (G 0 0 - 1)) v))), (2, .int (nI v))] → W p_ l_ e_ ({ frames := 3, cells := 0, slots := 0, locals := 69 }) s_ m_ [.ref (b 0)].toArray bl_ me_ c_ s_.heap [] 0 0 (MQ bl_ (QcRead (nI (sClash (G 0)))) [.ref (b 0)].toArray s_ 0 0 (fun _ => False)) (F0 m_ 4 ls []) := by
    intro fu
    induction fu with
    | zero => intro v hv hm; exact absurd hm (Nat.not_lt_zero _)
    | succ fu ih4 =>
      intro v hv hm ls hl
      refine lv_iload_n hz.1 hz.2.1 dX6_clashes_4 rfl (lv_at hl 2 rfl) ?_
      refine lv_aload_n hz.1 hz.2.1 dX6_clashes_5 rfl (lv_at hl 0 rfl) ?_
      refine rdV (A := wA (mw b k I J G)) (As := []) (rest := [.int (nI v)]) hz okYT (c6_wires l_ D k b I J G  (by omega)) (cwV 0 hz.2.2.2.2 gX6_clashes_X6_wires rfl rfl rfl (by decide +kernel) ⟨Nat.le_of_ble_eq_true rfl, Nat.le_of_ble_eq_true rfl⟩) hK trivial hP hD hS 0 6 rfl rfl rfl rfl hl.1 rfl (Nat.le_of_ble_eq_true rfl) dX6_clashes_6 ⟨Nat.zero_le _, Nat.zero_le _⟩ ?_
      refine jge (tgt := 66) hz dX6_clashes_9 (by decide) (by omega) (by omega) (fun c_9 => ?_) (fun c_9 => ?_)
      · obtain rfl : v = G 0 0 - 1 := by omega
        refine lv_iload_n hz.1 hz.2.1 dX6_clashes_66 rfl (lv_at hl 1 rfl) ?_
        exact rd_iret hz hr hlk dX6_clashes_67 (rfl)
      · refine lv_iload_n hz.1 hz.2.1 dX6_clashes_12 rfl (lv_at hl 2 rfl) ?_
        refine lv_iconst (v := nI 1) hz.1 hz.2.1 dX6_clashes_13 (by decide) ?_
        refine lv_iadd hz.1 hz.2.1 dX6_clashes_14 ?_
        refine toe (z := nI (v + 1)) (nI_add _ _) ?_
        have e0 : fb_ct (sClF (G 0) v) (v + 1) = 0 := fb_ct_none (fun k hk => by unfold sClF; rw [decide_eq_false (by omega)]; rfl)
        have hl : lv_has ls 4 [(0, .ref (b 0)), (1, .int (nI (fb_sm (fun z_ => fb_ct (sClF (G 0) z_) (G 0 0 - 1)) v + fb_ct (sClF (G 0) v) (v + 1)))), (2, .int (nI v))] := by rw [e0]; exact lv_sub hl [0, 1, 2] rfl
        refine lv_istore_n (lv' := [(3, .int (nI (v + 1))), (0, .ref (b 0)), (1, .int (nI (fb_sm (fun z_ => fb_ct (sClF (G 0) z_) (G 0 0 - 1)) v + fb_ct (sClF (G 0) v) (v + 1)))), (2, .int (nI v))]) hz.1 hz.2.1 dX6_clashes_15 rfl hl (by decide) rfl (fun ls hl => ?_)
        have lp_16 : ∀ (fu : Nat) (w : Nat), (v < w) → (w ≤ G 0 0 - 1) → G 0 0 - 1 - w < fu → ∀ ls : Array Slot, lv_has ls 4 [(0, .ref (b 0)), (1, .int (nI (fb_sm (fun z_ => fb_ct (sClF (G 0) z_) (G 0 0 - 1)) v + fb_ct (sClF (G 0) v) w))), (2, .int (nI v)), (3, .int (nI w))] → W p_ l_ e_ ({ frames := 3, cells := 0, slots := 0, locals := 69 }) s_ m_ [.ref (b 0)].toArray bl_ me_ c_ s_.heap [] 0 0 (MQ bl_ (QcRead (nI (sClash (G 0)))) [.ref (b 0)].toArray s_ 0 0 (fun _ => False)) (F0 m_ 16 ls []) := by
          intro fu
          induction fu with
          | zero => intro w hw1 hw2 hm; exact absurd hm (Nat.not_lt_zero _)
          | succ fu ih16 =>
            intro w hw1 hw2 hm ls hl
            refine lv_iload_n hz.1 hz.2.1 dX6_clashes_16 rfl (lv_at hl 3 rfl) ?_
            refine lv_aload_n hz.1 hz.2.1 dX6_clashes_17 rfl (lv_at hl 0 rfl) ?_
            refine rdV (A := wA (mw b k I J G)) (As := []) (rest := [.int (nI w)]) hz okYT (c6_wires l_ D k b I J G  (by omega)) (cwV 0 hz.2.2.2.2 gX6_clashes_X6_wires rfl rfl rfl (by decide +kernel) ⟨Nat.le_of_ble_eq_true rfl, Nat.le_of_ble_eq_true rfl⟩) hK trivial hP hD hS 0 6 rfl rfl rfl rfl hl.1 rfl (Nat.le_of_ble_eq_true rfl) dX6_clashes_18 ⟨Nat.zero_le _, Nat.zero_le _⟩ ?_
            refine jge (tgt := 60) hz dX6_clashes_21 (by decide) (by omega) (by omega) (fun c_21 => ?_) (fun c_21 => ?_)
            · obtain rfl : w = G 0 0 - 1 := by omega
              refine lv_iinc (v := nI (v + 1)) (lv' := [(2, .int (nI (v + 1))), (0, .ref (b 0)), (1, .int (nI (fb_sm (fun z_ => fb_ct (sClF (G 0) z_) (G 0 0 - 1)) v + fb_ct (sClF (G 0) v) (G 0 0 - 1)))), (3, .int (nI (G 0 0 - 1)))]) hz.1 hz.2.1 dX6_clashes_60 hl (k := 2) rfl (nI_add _ 1) (by decide) rfl (fun ls hl => ?_)
              refine lv_goto (tgt := 4) hz.1 hz.2.1 dX6_clashes_63 (by decide) ?_
              exact ih4 (v + 1) (by omega) (by omega) ls (lv_sub hl [1, 2, 0] rfl)
            · have n1 := sNote_lt (G 0) v
              have n2 := sNote_lt (G 0) w
              refine lv_iload_n hz.1 hz.2.1 dX6_clashes_24 rfl (lv_at hl 1 rfl) ?_
              refine lv_aload_n hz.1 hz.2.1 dX6_clashes_25 rfl (lv_at hl 0 rfl) ?_
              refine lv_iload_n hz.1 hz.2.1 dX6_clashes_26 rfl (lv_at hl 2 rfl) ?_
              refine rdV (A := wA (mw b k I J G)) (As := [.int (nI v)]) (rest := [.int (nI (fb_sm (fun z_ => fb_ct (sClF (G 0) z_) (G 0 0 - 1)) v + fb_ct (sClF (G 0) v) w))]) hz okYT (c6_noteOf l_ D k b I J G v hf (by omega)) (cwV 1 hz.2.2.2.2 gX6_clashes_X6_noteOf rfl rfl rfl (by decide +kernel) ⟨Nat.le_of_ble_eq_true rfl, Nat.le_of_ble_eq_true rfl⟩) hK trivial hP hD hS 0 6 rfl rfl rfl rfl hl.1 rfl (Nat.le_of_ble_eq_true rfl) dX6_clashes_27 ⟨Nat.zero_le _, Nat.zero_le _⟩ ?_
              refine lv_aload_n hz.1 hz.2.1 dX6_clashes_30 rfl (lv_at hl 0 rfl) ?_
              refine lv_iload_n hz.1 hz.2.1 dX6_clashes_31 rfl (lv_at hl 3 rfl) ?_
              refine rdV (A := wA (mw b k I J G)) (As := [.int (nI w)]) (rest := [.int (nI (sNote (G 0) v)), .int (nI (fb_sm (fun z_ => fb_ct (sClF (G 0) z_) (G 0 0 - 1)) v + fb_ct (sClF (G 0) v) w))]) hz okYT (c6_noteOf l_ D k b I J G w hf (by omega)) (cwV 1 hz.2.2.2.2 gX6_clashes_X6_noteOf rfl rfl rfl (by decide +kernel) ⟨Nat.le_of_ble_eq_true rfl, Nat.le_of_ble_eq_true rfl⟩) hK trivial hP hD hS 0 6 rfl rfl rfl rfl hl.1 rfl (Nat.le_of_ble_eq_true rfl) dX6_clashes_32 ⟨Nat.zero_le _, Nat.zero_le _⟩ ?_
              refine jne (tgt := 51) hz dX6_clashes_35 (by decide) (by omega) (by omega) (fun c_35 => ?_) (fun c_35 => ?_)
              · refine lv_iconst (v := nI 0) hz.1 hz.2.1 dX6_clashes_51 (by decide) ?_
                refine lv_iadd hz.1 hz.2.1 dX6_clashes_52 ?_
                refine toe (z := nI (fb_sm (fun z_ => fb_ct (sClF (G 0) z_) (G 0 0 - 1)) v + fb_ct (sClF (G 0) v) (w + 1))) (by rw [nI_add, fb_ct_succ]; simp [sClF, hw1, c_9, c_21, c_35, Nat.add_assoc]) ?_
                refine lv_istore_n (lv' := [(1, .int (nI (fb_sm (fun z_ => fb_ct (sClF (G 0) z_) (G 0 0 - 1)) v + fb_ct (sClF (G 0) v) (w + 1)))), (0, .ref (b 0)), (2, .int (nI v)), (3, .int (nI w))]) hz.1 hz.2.1 dX6_clashes_53 rfl hl (by decide) rfl (fun ls hl => ?_)
                refine lv_iinc (v := nI (w + 1)) (lv' := [(3, .int (nI (w + 1))), (1, .int (nI (fb_sm (fun z_ => fb_ct (sClF (G 0) z_) (G 0 0 - 1)) v + fb_ct (sClF (G 0) v) (w + 1)))), (0, .ref (b 0)), (2, .int (nI v))]) hz.1 hz.2.1 dX6_clashes_54 hl (k := 3) rfl (nI_add _ 1) (by decide) rfl (fun ls hl => ?_)
                refine lv_goto (tgt := 16) hz.1 hz.2.1 dX6_clashes_57 (by decide) ?_
                exact ih16 (w + 1) (by omega) (by omega) (by omega) ls (lv_sub hl [2, 1, 3, 0] rfl)
              · refine lv_aload_n hz.1 hz.2.1 dX6_clashes_38 rfl (lv_at hl 0 rfl) ?_
                refine lv_iload_n hz.1 hz.2.1 dX6_clashes_39 rfl (lv_at hl 2 rfl) ?_
                refine lv_iload_n hz.1 hz.2.1 dX6_clashes_40 rfl (lv_at hl 3 rfl) ?_
                refine rdV (A := wA (mw b k I J G)) (As := [.int (nI v), .int (nI w)]) (rest := [.int (nI (fb_sm (fun z_ => fb_ct (sClF (G 0) z_) (G 0 0 - 1)) v + fb_ct (sClF (G 0) v) w))]) hz okYT (c6_together l_ D k b I J G v w hf (by omega) (by omega)) (cwV 2 hz.2.2.2.2 gX6_clashes_X6_together rfl rfl rfl (by decide +kernel) ⟨Nat.le_of_ble_eq_true rfl, Nat.le_of_ble_eq_true rfl⟩) hK trivial hP hD hS 0 6 rfl rfl rfl rfl hl.1 rfl (Nat.le_of_ble_eq_true rfl) dX6_clashes_41 ⟨Nat.zero_le _, Nat.zero_le _⟩ ?_
                refine zeq (tgt := 51) hz dX6_clashes_44 (by decide) (fun c_44 => ?_) (fun c_44 => ?_)
                · refine lv_iconst (v := nI 0) hz.1 hz.2.1 dX6_clashes_51 (by decide) ?_
                  refine lv_iadd hz.1 hz.2.1 dX6_clashes_52 ?_
                  refine toe (z := nI (fb_sm (fun z_ => fb_ct (sClF (G 0) z_) (G 0 0 - 1)) v + fb_ct (sClF (G 0) v) (w + 1))) (by rw [nI_add, fb_ct_succ]; simp [sClF, hw1, c_9, c_21, c_35, c_44, Nat.add_assoc]) ?_
                  refine lv_istore_n (lv' := [(1, .int (nI (fb_sm (fun z_ => fb_ct (sClF (G 0) z_) (G 0 0 - 1)) v + fb_ct (sClF (G 0) v) (w + 1)))), (0, .ref (b 0)), (2, .int (nI v)), (3, .int (nI w))]) hz.1 hz.2.1 dX6_clashes_53 rfl hl (by decide) rfl (fun ls hl => ?_)
                  refine lv_iinc (v := nI (w + 1)) (lv' := [(3, .int (nI (w + 1))), (1, .int (nI (fb_sm (fun z_ => fb_ct (sClF (G 0) z_) (G 0 0 - 1)) v + fb_ct (sClF (G 0) v) (w + 1)))), (0, .ref (b 0)), (2, .int (nI v))]) hz.1 hz.2.1 dX6_clashes_54 hl (k := 3) rfl (nI_add _ 1) (by decide) rfl (fun ls hl => ?_)
                  refine lv_goto (tgt := 16) hz.1 hz.2.1 dX6_clashes_57 (by decide) ?_
                  exact ih16 (w + 1) (by omega) (by omega) (by omega) ls (lv_sub hl [2, 1, 3, 0] rfl)
                · refine lv_iconst (v := nI 1) hz.1 hz.2.1 dX6_clashes_47 (by decide) ?_
                  refine lv_goto (tgt := 52) hz.1 hz.2.1 dX6_clashes_48 (by decide) ?_
                  refine lv_iadd hz.1 hz.2.1 dX6_clashes_52 ?_
                  refine toe (z := nI (fb_sm (fun z_ => fb_ct (sClF (G 0) z_) (G 0 0 - 1)) v + fb_ct (sClF (G 0) v) (w + 1))) (by rw [nI_add, fb_ct_succ]; simp [sClF, hw1, c_9, c_21, c_35, c_44, Nat.add_assoc]) ?_
                  refine lv_istore_n (lv' := [(1, .int (nI (fb_sm (fun z_ => fb_ct (sClF (G 0) z_) (G 0 0 - 1)) v + fb_ct (sClF (G 0) v) (w + 1)))), (0, .ref (b 0)), (2, .int (nI v)), (3, .int (nI w))]) hz.1 hz.2.1 dX6_clashes_53 rfl hl (by decide) rfl (fun ls hl => ?_)
                  refine lv_iinc (v := nI (w + 1)) (lv' := [(3, .int (nI (w + 1))), (1, .int (nI (fb_sm (fun z_ => fb_ct (sClF (G 0) z_) (G 0 0 - 1)) v + fb_ct (sClF (G 0) v) (w + 1)))), (0, .ref (b 0)), (2, .int (nI v))]) hz.1 hz.2.1 dX6_clashes_54 hl (k := 3) rfl (nI_add _ 1) (by decide) rfl (fun ls hl => ?_)
                  refine lv_goto (tgt := 16) hz.1 hz.2.1 dX6_clashes_57 (by decide) ?_
                  exact ih16 (w + 1) (by omega) (by omega) (by omega) ls (lv_sub hl [2, 1, 3, 0] rfl)
        exact lp_16 _ (v + 1) (by omega) (by omega) (Nat.lt_succ_self _) ls (lv_sub hl [1, 2, 3, 0] rfl)
  exact lp_4 _ 0 (by omega) (Nat.lt_succ_self _) ls (lv_sub hl [2, 1, 0] rfl)

theorem hinX6_isWindy : ∀ w ∈ wsX60, w ∈ wsX6_isWindy := fun _ h => List.mem_cons_of_mem _ (List.mem_append_right _ h)
set_option maxHeartbeats 4000000 in
set_option maxRecDepth 100000 in
theorem c6_isWindy (l_ : Launch) (D : va_G) (k : Nat → ClassId) (b I J : Nat → Nat) (G : Nat → Nat → Nat) (mn w : Nat) (hf : Wf (G 0)) (hm : mn < 60) (hw : w < 8) : Met l_ yX6_isWindy wsX6_isWindy ({ frames := 0, cells := 0, slots := 0, locals := 0 }) (va_Pc [.ref (b 0), .int (nI mn), .int (nI w)] (wH YT D k (mw b k I J G))) (QcRead (bI (sWindy (G 0) mn w))) 0 0 (fun _ => False) := by
  refine my_entry (cc := cX6_isWindy) (maxL := 5) (ret := some .boolean) (by decide) rfl (Nat.le_of_ble_eq_true rfl) ?_
  intro p_ e_ s_ m_ bl_ me_ c_ hz hr hlk hB ls hl
  obtain ⟨hP, hK, hD0, -⟩ := hB
  have hD := wA.self hD0
  have hS : va_S (wA (mw b k I J G)) s_.heap s_.heap [] := va_S.rf
  have hl : lv_has ls 5 [(0, .ref (b 0)), (1, .int (nI mn)), (2, .int (nI w))] := hl
  have f0 := hf.n2
  have f1 := hf.n9
  have f2 := hf.fr
  have f3 := hf.gd
  have f5 := hf.wc
  refine lv_iconst (v := nI 0) hz.1 hz.2.1 dX6_isWindy_0 (by decide) ?_
  refine lv_istore_n (lv' := [(3, .int (nI 0)), (0, .ref (b 0)), (1, .int (nI mn)), (2, .int (nI w))]) hz.1 hz.2.1 dX6_isWindy_1 rfl hl (by decide) rfl (fun ls hl => ?_)
  refine lv_iconst (v := nI 0) hz.1 hz.2.1 dX6_isWindy_2 (by decide) ?_
  refine lv_istore (lv' := [(4, .int (nI 0)), (3, .int (nI 0)), (0, .ref (b 0)), (1, .int (nI mn)), (2, .int (nI w))]) hz.1 hz.2.1 dX6_isWindy_3 hl (by decide) rfl (fun ls hl => ?_)
  have lp_5 : ∀ (fu : Nat) (i : Nat), (i ≤ G 0 19) → G 0 19 - i < fu → ∀ ls : Array Slot, lv_has ls 5 [(0, .ref (b 0)), (1, .int (nI mn)), (2, .int (nI w)), (3, .int (bI (sAny (sWdF (G 0) mn w) i))), (4, .int (nI i))] → W p_ l_ e_ ({ frames := 0, cells := 0, slots := 0, locals := 0 }) s_ m_ [.ref (b 0), .int (nI mn), .int (nI w)].toArray bl_ me_ c_ s_.heap [] 0 0 (MQ bl_ (QcRead (bI (sWindy (G 0) mn w))) [.ref (b 0), .int (nI mn), .int (nI w)].toArray s_ 0 0 (fun _ => False)) (F0 m_ 5 ls []) := by
    intro fu
    induction fu with
    | zero => intro i hi hm; exact absurd hm (Nat.not_lt_zero _)
    | succ fu ih5 =>
      intro i hi hm ls hl
      refine lv_iload hz.1 hz.2.1 dX6_isWindy_5 (lv_at hl 4 rfl) ?_
      refine lv_aload_n hz.1 hz.2.1 dX6_isWindy_7 rfl (lv_at hl 0 rfl) ?_
      refine rg hz hinX6_isWindy hK hP 0 rfl rfl 0 (by decide) (List.mem_of_getElem? (i := 1) rfl) rfl (v := .ref (b 1)) rfl dX6_isWindy_8 ?_
      refine lv_bipush (v := nI 19) hz.1 hz.2.1 dX6_isWindy_11 (by decide) ?_
      refine rald hz hK hP 1 0 rfl rfl (i := 19) (by omega) (by decide) (v := nI (G 0 19)) rfl dX6_isWindy_13 ?_
      refine jge (tgt := 67) hz dX6_isWindy_14 (by decide) (by omega) (by omega) (fun c_14 => ?_) (fun c_14 => ?_)
      · obtain rfl : i = G 0 19 := by omega
        refine lv_iload_n hz.1 hz.2.1 dX6_isWindy_67 rfl (lv_at hl 3 rfl) ?_
        exact rd_zret hz hr hlk dX6_isWindy_68 (rfl)
      · have hwi := hf.wi c_14
        refine lv_iload_n hz.1 hz.2.1 dX6_isWindy_17 rfl (lv_at hl 3 rfl) ?_
        refine zne (tgt := 55) hz dX6_isWindy_18 (by decide) (fun c_18 => ?_) (fun c_18 => ?_)
        · refine lv_iconst (v := nI 1) hz.1 hz.2.1 dX6_isWindy_55 (by decide) ?_
          refine lv_goto (tgt := 60) hz.1 hz.2.1 dX6_isWindy_56 (by decide) ?_
          refine toe (z := bI (sAny (sWdF (G 0) mn w) (i + 1))) (bI_1 (by simp [sAny, sWdF, c_18])) ?_
          refine lv_istore_n (lv' := [(3, .int (bI (sAny (sWdF (G 0) mn w) (i + 1)))), (0, .ref (b 0)), (1, .int (nI mn)), (2, .int (nI w)), (4, .int (nI i))]) hz.1 hz.2.1 dX6_isWindy_60 rfl hl (by decide) rfl (fun ls hl => ?_)
          refine lv_iinc (v := nI (i + 1)) (lv' := [(4, .int (nI (i + 1))), (3, .int (bI (sAny (sWdF (G 0) mn w) (i + 1)))), (0, .ref (b 0)), (1, .int (nI mn)), (2, .int (nI w))]) hz.1 hz.2.1 dX6_isWindy_61 hl (k := 4) rfl (nI_add _ 1) (by decide) rfl (fun ls hl => ?_)
          refine lv_goto (tgt := 5) hz.1 hz.2.1 dX6_isWindy_64 (by decide) ?_
          exact ih5 (i + 1) (by omega) (by omega) ls (lv_sub hl [2, 3, 4, 1, 0] rfl)
        · refine lv_aload_n hz.1 hz.2.1 dX6_isWindy_21 rfl (lv_at hl 0 rfl) ?_
          refine rg hz hinX6_isWindy hK hP 0 rfl rfl 0 (by decide) (List.mem_of_getElem? (i := 1) rfl) rfl (v := .ref (b 1)) rfl dX6_isWindy_22 ?_
          refine lv_bipush (v := nI 20) hz.1 hz.2.1 dX6_isWindy_25 (by decide) ?_
          refine lv_iconst (v := nI 2) hz.1 hz.2.1 dX6_isWindy_27 (by decide) ?_
          refine lv_iload hz.1 hz.2.1 dX6_isWindy_28 (lv_at hl 4 rfl) ?_
          refine lv_imul hz.1 hz.2.1 dX6_isWindy_30 ?_
          refine toe (z := nI (2 * i)) (pk_mul _ _) ?_
          refine lv_iadd hz.1 hz.2.1 dX6_isWindy_31 ?_
          refine toe (z := nI (20 + (2 * i))) (nI_add _ _) ?_
          refine rald hz hK hP 1 0 rfl rfl (i := (20 + (2 * i))) (by omega) (by decide) (v := nI (G 0 (20 + (2 * i)))) rfl dX6_isWindy_32 ?_
          refine lv_iload_n hz.1 hz.2.1 dX6_isWindy_33 rfl (lv_at hl 1 rfl) ?_
          refine jne (tgt := 59) hz dX6_isWindy_34 (by decide) (by omega) (by omega) (fun c_34 => ?_) (fun c_34 => ?_)
          · refine lv_iconst (v := nI 0) hz.1 hz.2.1 dX6_isWindy_59 (by decide) ?_
            refine toe (z := bI (sAny (sWdF (G 0) mn w) (i + 1))) (bI_0 (by simp [sAny, sWdF, c_18, c_34])) ?_
            refine lv_istore_n (lv' := [(3, .int (bI (sAny (sWdF (G 0) mn w) (i + 1)))), (0, .ref (b 0)), (1, .int (nI mn)), (2, .int (nI w)), (4, .int (nI i))]) hz.1 hz.2.1 dX6_isWindy_60 rfl hl (by decide) rfl (fun ls hl => ?_)
            refine lv_iinc (v := nI (i + 1)) (lv' := [(4, .int (nI (i + 1))), (3, .int (bI (sAny (sWdF (G 0) mn w) (i + 1)))), (0, .ref (b 0)), (1, .int (nI mn)), (2, .int (nI w))]) hz.1 hz.2.1 dX6_isWindy_61 hl (k := 4) rfl (nI_add _ 1) (by decide) rfl (fun ls hl => ?_)
            refine lv_goto (tgt := 5) hz.1 hz.2.1 dX6_isWindy_64 (by decide) ?_
            exact ih5 (i + 1) (by omega) (by omega) ls (lv_sub hl [2, 3, 4, 1, 0] rfl)
          · refine lv_aload_n hz.1 hz.2.1 dX6_isWindy_37 rfl (lv_at hl 0 rfl) ?_
            refine rg hz hinX6_isWindy hK hP 0 rfl rfl 0 (by decide) (List.mem_of_getElem? (i := 1) rfl) rfl (v := .ref (b 1)) rfl dX6_isWindy_38 ?_
            refine lv_bipush (v := nI 20) hz.1 hz.2.1 dX6_isWindy_41 (by decide) ?_
            refine lv_iconst (v := nI 2) hz.1 hz.2.1 dX6_isWindy_43 (by decide) ?_
            refine lv_iload hz.1 hz.2.1 dX6_isWindy_44 (lv_at hl 4 rfl) ?_
            refine lv_imul hz.1 hz.2.1 dX6_isWindy_46 ?_
            refine toe (z := nI (2 * i)) (pk_mul _ _) ?_
            refine lv_iadd hz.1 hz.2.1 dX6_isWindy_47 ?_
            refine toe (z := nI (20 + (2 * i))) (nI_add _ _) ?_
            refine lv_iconst (v := nI 1) hz.1 hz.2.1 dX6_isWindy_48 (by decide) ?_
            refine lv_iadd hz.1 hz.2.1 dX6_isWindy_49 ?_
            refine toe (z := nI ((20 + (2 * i)) + 1)) (nI_add _ _) ?_
            refine rald hz hK hP 1 0 rfl rfl (i := ((20 + (2 * i)) + 1)) (by omega) (by decide) (v := nI (G 0 ((20 + (2 * i)) + 1))) rfl dX6_isWindy_50 ?_
            refine lv_iload_n hz.1 hz.2.1 dX6_isWindy_51 rfl (lv_at hl 2 rfl) ?_
            refine jne (tgt := 59) hz dX6_isWindy_52 (by decide) (by omega) (by omega) (fun c_52 => ?_) (fun c_52 => ?_)
            · refine lv_iconst (v := nI 0) hz.1 hz.2.1 dX6_isWindy_59 (by decide) ?_
              refine toe (z := bI (sAny (sWdF (G 0) mn w) (i + 1))) (bI_0 (by simp [sAny, sWdF, c_18, c_34, c_52])) ?_
              refine lv_istore_n (lv' := [(3, .int (bI (sAny (sWdF (G 0) mn w) (i + 1)))), (0, .ref (b 0)), (1, .int (nI mn)), (2, .int (nI w)), (4, .int (nI i))]) hz.1 hz.2.1 dX6_isWindy_60 rfl hl (by decide) rfl (fun ls hl => ?_)
              refine lv_iinc (v := nI (i + 1)) (lv' := [(4, .int (nI (i + 1))), (3, .int (bI (sAny (sWdF (G 0) mn w) (i + 1)))), (0, .ref (b 0)), (1, .int (nI mn)), (2, .int (nI w))]) hz.1 hz.2.1 dX6_isWindy_61 hl (k := 4) rfl (nI_add _ 1) (by decide) rfl (fun ls hl => ?_)
              refine lv_goto (tgt := 5) hz.1 hz.2.1 dX6_isWindy_64 (by decide) ?_
              exact ih5 (i + 1) (by omega) (by omega) ls (lv_sub hl [2, 3, 4, 1, 0] rfl)
            · refine lv_iconst (v := nI 1) hz.1 hz.2.1 dX6_isWindy_55 (by decide) ?_
              refine lv_goto (tgt := 60) hz.1 hz.2.1 dX6_isWindy_56 (by decide) ?_
              refine toe (z := bI (sAny (sWdF (G 0) mn w) (i + 1))) (bI_1 (by simp [sAny, sWdF, c_18, c_34, c_52])) ?_
              refine lv_istore_n (lv' := [(3, .int (bI (sAny (sWdF (G 0) mn w) (i + 1)))), (0, .ref (b 0)), (1, .int (nI mn)), (2, .int (nI w)), (4, .int (nI i))]) hz.1 hz.2.1 dX6_isWindy_60 rfl hl (by decide) rfl (fun ls hl => ?_)
              refine lv_iinc (v := nI (i + 1)) (lv' := [(4, .int (nI (i + 1))), (3, .int (bI (sAny (sWdF (G 0) mn w) (i + 1)))), (0, .ref (b 0)), (1, .int (nI mn)), (2, .int (nI w))]) hz.1 hz.2.1 dX6_isWindy_61 hl (k := 4) rfl (nI_add _ 1) (by decide) rfl (fun ls hl => ?_)
              refine lv_goto (tgt := 5) hz.1 hz.2.1 dX6_isWindy_64 (by decide) ?_
              exact ih5 (i + 1) (by omega) (by omega) ls (lv_sub hl [2, 3, 4, 1, 0] rfl)
  exact lp_5 _ 0 (by omega) (Nat.lt_succ_self _) ls (lv_sub hl [2, 3, 4, 1, 0] rfl)

theorem hinX6_noticed : ∀ w ∈ wsX60, w ∈ wsX6_noticed := fun _ h => List.mem_cons_of_mem _ (List.mem_append_right _ h)
set_option maxHeartbeats 4000000 in
set_option maxRecDepth 100000 in
theorem c6_noticed (l_ : Launch) (D : va_G) (k : Nat → ClassId) (b I J : Nat → Nat) (G : Nat → Nat → Nat) (mn w : Nat) (hf : Wf (G 0)) (hm : mn < 60) (hw : w < 8) : Met l_ yX6_noticed wsX6_noticed ({ frames := 2, cells := 0, slots := 0, locals := 45 }) (va_Pc [.ref (b 0), .int (nI mn), .int (nI w)] (wH YT D k (mw b k I J G))) (QcRead (nI (sNoticed (G 0) mn w))) 0 0 (fun _ => False) := by
  refine my_entry (cc := cX6_noticed) (maxL := 6) (ret := some .int) (by decide) rfl (Nat.le_of_ble_eq_true rfl) ?_
  intro p_ e_ s_ m_ bl_ me_ c_ hz hr hlk hB ls hl
  obtain ⟨hP, hK, hD0, -⟩ := hB
  have hD := wA.self hD0
  have hS : va_S (wA (mw b k I J G)) s_.heap s_.heap [] := va_S.rf
  have hl : lv_has ls 6 [(0, .ref (b 0)), (1, .int (nI mn)), (2, .int (nI w))] := hl
  have f0 := hf.n2
  have f1 := hf.n9
  have f2 := hf.fr
  have f3 := hf.gd
  refine lv_aload_n hz.1 hz.2.1 dX6_noticed_0 rfl (lv_at hl 0 rfl) ?_
  refine lv_iload_n hz.1 hz.2.1 dX6_noticed_1 rfl (lv_at hl 1 rfl) ?_
  refine lv_iload_n hz.1 hz.2.1 dX6_noticed_2 rfl (lv_at hl 2 rfl) ?_
  refine rdV (A := wA (mw b k I J G)) (As := [.int (nI mn), .int (nI w)]) (rest := []) hz okYT (c6_isWindy l_ D k b I J G mn w hf (by omega) (by omega)) (cwV 2 hz.2.2.2.2 gX6_noticed_X6_isWindy rfl rfl rfl (by decide +kernel) ⟨Nat.le_of_ble_eq_true rfl, Nat.le_of_ble_eq_true rfl⟩) hK trivial hP hD hS 0 6 rfl rfl rfl rfl hl.1 rfl (Nat.le_of_ble_eq_true rfl) dX6_noticed_3 ⟨Nat.zero_le _, Nat.zero_le _⟩ ?_
  refine lv_istore_n (lv' := [(3, .int (bI (sWindy (G 0) mn w))), (0, .ref (b 0)), (1, .int (nI mn)), (2, .int (nI w))]) hz.1 hz.2.1 dX6_noticed_6 rfl hl (by decide) rfl (fun ls hl => ?_)
  refine lv_iconst (v := nI 0) hz.1 hz.2.1 dX6_noticed_7 (by decide) ?_
  refine lv_istore (lv' := [(4, .int (nI 0)), (3, .int (bI (sWindy (G 0) mn w))), (0, .ref (b 0)), (1, .int (nI mn)), (2, .int (nI w))]) hz.1 hz.2.1 dX6_noticed_8 hl (by decide) rfl (fun ls hl => ?_)
  refine lv_iconst (v := nI 0) hz.1 hz.2.1 dX6_noticed_10 (by decide) ?_
  refine lv_istore (lv' := [(5, .int (nI 0)), (4, .int (nI 0)), (3, .int (bI (sWindy (G 0) mn w))), (0, .ref (b 0)), (1, .int (nI mn)), (2, .int (nI w))]) hz.1 hz.2.1 dX6_noticed_11 hl (by decide) rfl (fun ls hl => ?_)
  have lp_13 : ∀ (fu : Nat) (p : Nat), (p ≤ G 0 0) → G 0 0 - p < fu → ∀ ls : Array Slot, lv_has ls 6 [(0, .ref (b 0)), (1, .int (nI mn)), (2, .int (nI w)), (3, .int (bI (sWindy (G 0) mn w))), (4, .int (nI (fb_ct (sNtF (G 0) mn w) p))), (5, .int (nI p))] → W p_ l_ e_ ({ frames := 2, cells := 0, slots := 0, locals := 45 }) s_ m_ [.ref (b 0), .int (nI mn), .int (nI w)].toArray bl_ me_ c_ s_.heap [] 0 0 (MQ bl_ (QcRead (nI (sNoticed (G 0) mn w))) [.ref (b 0), .int (nI mn), .int (nI w)].toArray s_ 0 0 (fun _ => False)) (F0 m_ 13 ls []) := by
    intro fu
    induction fu with
    | zero => intro p hp hm; exact absurd hm (Nat.not_lt_zero _)
    | succ fu ih13 =>
      intro p hp hm ls hl
      refine lv_iload hz.1 hz.2.1 dX6_noticed_13 (lv_at hl 5 rfl) ?_
      refine lv_aload_n hz.1 hz.2.1 dX6_noticed_15 rfl (lv_at hl 0 rfl) ?_
      refine rdV (A := wA (mw b k I J G)) (As := []) (rest := [.int (nI p)]) hz okYT (c6_line l_ D k b I J G  ) (cwV 0 hz.2.2.2.2 gX6_noticed_X6_line rfl rfl rfl (by decide +kernel) ⟨Nat.le_of_ble_eq_true rfl, Nat.le_of_ble_eq_true rfl⟩) hK trivial hP hD hS 0 6 rfl rfl rfl rfl hl.1 rfl (Nat.le_of_ble_eq_true rfl) dX6_noticed_16 ⟨Nat.zero_le _, Nat.zero_le _⟩ ?_
      refine jge (tgt := 73) hz dX6_noticed_19 (by decide) (by omega) (by omega) (fun c_19 => ?_) (fun c_19 => ?_)
      · obtain rfl : p = G 0 0 := by omega
        refine lv_iload hz.1 hz.2.1 dX6_noticed_73 (lv_at hl 4 rfl) ?_
        exact rd_iret hz hr hlk dX6_noticed_75 (rfl)
      · refine lv_iload hz.1 hz.2.1 dX6_noticed_22 (lv_at hl 4 rfl) ?_
        refine lv_aload_n hz.1 hz.2.1 dX6_noticed_24 rfl (lv_at hl 0 rfl) ?_
        refine lv_iload hz.1 hz.2.1 dX6_noticed_25 (lv_at hl 5 rfl) ?_
        refine rdV (A := wA (mw b k I J G)) (As := [.int (nI p)]) (rest := [.int (nI (fb_ct (sNtF (G 0) mn w) p))]) hz okYT (c6_isGuarded l_ D k b I J G p hf (by omega)) (cwV 1 hz.2.2.2.2 gX6_noticed_X6_isGuarded rfl rfl rfl (by decide +kernel) ⟨Nat.le_of_ble_eq_true rfl, Nat.le_of_ble_eq_true rfl⟩) hK trivial hP hD hS 0 6 rfl rfl rfl rfl hl.1 rfl (Nat.le_of_ble_eq_true rfl) dX6_noticed_27 ⟨Nat.zero_le _, Nat.zero_le _⟩ ?_
        refine zeq (tgt := 63) hz dX6_noticed_30 (by decide) (fun c_30 => ?_) (fun c_30 => ?_)
        · refine lv_iconst (v := nI 0) hz.1 hz.2.1 dX6_noticed_63 (by decide) ?_
          refine lv_iadd hz.1 hz.2.1 dX6_noticed_64 ?_
          refine toe (z := nI (fb_ct (sNtF (G 0) mn w) (p + 1))) (by rw [nI_add, fb_ct_succ]; simp [sNtF, c_19, c_30]) ?_
          refine lv_istore (lv' := [(4, .int (nI (fb_ct (sNtF (G 0) mn w) (p + 1)))), (0, .ref (b 0)), (1, .int (nI mn)), (2, .int (nI w)), (3, .int (bI (sWindy (G 0) mn w))), (5, .int (nI p))]) hz.1 hz.2.1 dX6_noticed_65 hl (by decide) rfl (fun ls hl => ?_)
          refine lv_iinc (v := nI (p + 1)) (lv' := [(5, .int (nI (p + 1))), (4, .int (nI (fb_ct (sNtF (G 0) mn w) (p + 1)))), (0, .ref (b 0)), (1, .int (nI mn)), (2, .int (nI w)), (3, .int (bI (sWindy (G 0) mn w)))]) hz.1 hz.2.1 dX6_noticed_67 hl (k := 5) rfl (nI_add _ 1) (by decide) rfl (fun ls hl => ?_)
          refine lv_goto (tgt := 13) hz.1 hz.2.1 dX6_noticed_70 (by decide) ?_
          exact ih13 (p + 1) (by omega) (by omega) ls (lv_sub hl [2, 3, 4, 5, 1, 0] rfl)
        · refine lv_aload_n hz.1 hz.2.1 dX6_noticed_33 rfl (lv_at hl 0 rfl) ?_
          refine lv_iload hz.1 hz.2.1 dX6_noticed_34 (lv_at hl 5 rfl) ?_
          refine lv_iload_n hz.1 hz.2.1 dX6_noticed_36 rfl (lv_at hl 2 rfl) ?_
          refine lv_iconst (v := nI 2) hz.1 hz.2.1 dX6_noticed_37 (by decide) ?_
          refine rdV (A := wA (mw b k I J G)) (As := [.int (nI p), .int (nI w), .int (nI 2)]) (rest := [.int (nI (fb_ct (sNtF (G 0) mn w) p))]) hz okYT (c6_hears l_ D k b I J G p w 2 hf (by omega) (by omega) (by omega) (by omega)) (cwV 3 hz.2.2.2.2 gX6_noticed_X6_hears rfl rfl rfl (by decide +kernel) ⟨Nat.le_of_ble_eq_true rfl, Nat.le_of_ble_eq_true rfl⟩) hK trivial hP hD hS 0 6 rfl rfl rfl rfl hl.1 rfl (Nat.le_of_ble_eq_true rfl) dX6_noticed_38 ⟨Nat.zero_le _, Nat.zero_le _⟩ ?_
          refine zeq (tgt := 63) hz dX6_noticed_41 (by decide) (fun c_41 => ?_) (fun c_41 => ?_)
          · refine lv_iconst (v := nI 0) hz.1 hz.2.1 dX6_noticed_63 (by decide) ?_
            refine lv_iadd hz.1 hz.2.1 dX6_noticed_64 ?_
            refine toe (z := nI (fb_ct (sNtF (G 0) mn w) (p + 1))) (by rw [nI_add, fb_ct_succ]; simp [sNtF, c_19, c_30, c_41]) ?_
            refine lv_istore (lv' := [(4, .int (nI (fb_ct (sNtF (G 0) mn w) (p + 1)))), (0, .ref (b 0)), (1, .int (nI mn)), (2, .int (nI w)), (3, .int (bI (sWindy (G 0) mn w))), (5, .int (nI p))]) hz.1 hz.2.1 dX6_noticed_65 hl (by decide) rfl (fun ls hl => ?_)
            refine lv_iinc (v := nI (p + 1)) (lv' := [(5, .int (nI (p + 1))), (4, .int (nI (fb_ct (sNtF (G 0) mn w) (p + 1)))), (0, .ref (b 0)), (1, .int (nI mn)), (2, .int (nI w)), (3, .int (bI (sWindy (G 0) mn w)))]) hz.1 hz.2.1 dX6_noticed_67 hl (k := 5) rfl (nI_add _ 1) (by decide) rfl (fun ls hl => ?_)
            refine lv_goto (tgt := 13) hz.1 hz.2.1 dX6_noticed_70 (by decide) ?_
            exact ih13 (p + 1) (by omega) (by omega) ls (lv_sub hl [2, 3, 4, 5, 1, 0] rfl)
          · refine lv_iload_n hz.1 hz.2.1 dX6_noticed_44 rfl (lv_at hl 3 rfl) ?_
            refine zeq (tgt := 59) hz dX6_noticed_45 (by decide) (fun c_45 => ?_) (fun c_45 => ?_)
            · refine lv_iconst (v := nI 1) hz.1 hz.2.1 dX6_noticed_59 (by decide) ?_
              refine lv_goto (tgt := 64) hz.1 hz.2.1 dX6_noticed_60 (by decide) ?_
              refine lv_iadd hz.1 hz.2.1 dX6_noticed_64 ?_
              refine toe (z := nI (fb_ct (sNtF (G 0) mn w) (p + 1))) (by rw [nI_add, fb_ct_succ]; simp [sNtF, c_19, c_30, c_41, c_45]) ?_
              refine lv_istore (lv' := [(4, .int (nI (fb_ct (sNtF (G 0) mn w) (p + 1)))), (0, .ref (b 0)), (1, .int (nI mn)), (2, .int (nI w)), (3, .int (bI (sWindy (G 0) mn w))), (5, .int (nI p))]) hz.1 hz.2.1 dX6_noticed_65 hl (by decide) rfl (fun ls hl => ?_)
              refine lv_iinc (v := nI (p + 1)) (lv' := [(5, .int (nI (p + 1))), (4, .int (nI (fb_ct (sNtF (G 0) mn w) (p + 1)))), (0, .ref (b 0)), (1, .int (nI mn)), (2, .int (nI w)), (3, .int (bI (sWindy (G 0) mn w)))]) hz.1 hz.2.1 dX6_noticed_67 hl (k := 5) rfl (nI_add _ 1) (by decide) rfl (fun ls hl => ?_)
              refine lv_goto (tgt := 13) hz.1 hz.2.1 dX6_noticed_70 (by decide) ?_
              exact ih13 (p + 1) (by omega) (by omega) ls (lv_sub hl [2, 3, 4, 5, 1, 0] rfl)
            · refine lv_aload_n hz.1 hz.2.1 dX6_noticed_48 rfl (lv_at hl 0 rfl) ?_
              refine lv_iload hz.1 hz.2.1 dX6_noticed_49 (lv_at hl 5 rfl) ?_
              refine lv_iload_n hz.1 hz.2.1 dX6_noticed_51 rfl (lv_at hl 2 rfl) ?_
              refine lv_iconst (v := nI 1) hz.1 hz.2.1 dX6_noticed_52 (by decide) ?_
              refine rdV (A := wA (mw b k I J G)) (As := [.int (nI p), .int (nI w), .int (nI 1)]) (rest := [.int (nI (fb_ct (sNtF (G 0) mn w) p))]) hz okYT (c6_hears l_ D k b I J G p w 1 hf (by omega) (by omega) (by omega) (by omega)) (cwV 3 hz.2.2.2.2 gX6_noticed_X6_hears rfl rfl rfl (by decide +kernel) ⟨Nat.le_of_ble_eq_true rfl, Nat.le_of_ble_eq_true rfl⟩) hK trivial hP hD hS 0 6 rfl rfl rfl rfl hl.1 rfl (Nat.le_of_ble_eq_true rfl) dX6_noticed_53 ⟨Nat.zero_le _, Nat.zero_le _⟩ ?_
              refine zne (tgt := 63) hz dX6_noticed_56 (by decide) (fun c_56 => ?_) (fun c_56 => ?_)
              · refine lv_iconst (v := nI 0) hz.1 hz.2.1 dX6_noticed_63 (by decide) ?_
                refine lv_iadd hz.1 hz.2.1 dX6_noticed_64 ?_
                refine toe (z := nI (fb_ct (sNtF (G 0) mn w) (p + 1))) (by rw [nI_add, fb_ct_succ]; simp [sNtF, c_19, c_30, c_41, c_45, c_56]) ?_
                refine lv_istore (lv' := [(4, .int (nI (fb_ct (sNtF (G 0) mn w) (p + 1)))), (0, .ref (b 0)), (1, .int (nI mn)), (2, .int (nI w)), (3, .int (bI (sWindy (G 0) mn w))), (5, .int (nI p))]) hz.1 hz.2.1 dX6_noticed_65 hl (by decide) rfl (fun ls hl => ?_)
                refine lv_iinc (v := nI (p + 1)) (lv' := [(5, .int (nI (p + 1))), (4, .int (nI (fb_ct (sNtF (G 0) mn w) (p + 1)))), (0, .ref (b 0)), (1, .int (nI mn)), (2, .int (nI w)), (3, .int (bI (sWindy (G 0) mn w)))]) hz.1 hz.2.1 dX6_noticed_67 hl (k := 5) rfl (nI_add _ 1) (by decide) rfl (fun ls hl => ?_)
                refine lv_goto (tgt := 13) hz.1 hz.2.1 dX6_noticed_70 (by decide) ?_
                exact ih13 (p + 1) (by omega) (by omega) ls (lv_sub hl [2, 3, 4, 5, 1, 0] rfl)
              · refine lv_iconst (v := nI 1) hz.1 hz.2.1 dX6_noticed_59 (by decide) ?_
                refine lv_goto (tgt := 64) hz.1 hz.2.1 dX6_noticed_60 (by decide) ?_
                refine lv_iadd hz.1 hz.2.1 dX6_noticed_64 ?_
                refine toe (z := nI (fb_ct (sNtF (G 0) mn w) (p + 1))) (by rw [nI_add, fb_ct_succ]; simp [sNtF, c_19, c_30, c_41, c_45, c_56]) ?_
                refine lv_istore (lv' := [(4, .int (nI (fb_ct (sNtF (G 0) mn w) (p + 1)))), (0, .ref (b 0)), (1, .int (nI mn)), (2, .int (nI w)), (3, .int (bI (sWindy (G 0) mn w))), (5, .int (nI p))]) hz.1 hz.2.1 dX6_noticed_65 hl (by decide) rfl (fun ls hl => ?_)
                refine lv_iinc (v := nI (p + 1)) (lv' := [(5, .int (nI (p + 1))), (4, .int (nI (fb_ct (sNtF (G 0) mn w) (p + 1)))), (0, .ref (b 0)), (1, .int (nI mn)), (2, .int (nI w)), (3, .int (bI (sWindy (G 0) mn w)))]) hz.1 hz.2.1 dX6_noticed_67 hl (k := 5) rfl (nI_add _ 1) (by decide) rfl (fun ls hl => ?_)
                refine lv_goto (tgt := 13) hz.1 hz.2.1 dX6_noticed_70 (by decide) ?_
                exact ih13 (p + 1) (by omega) (by omega) ls (lv_sub hl [2, 3, 4, 5, 1, 0] rfl)
  exact lp_13 _ 0 (by omega) (Nat.lt_succ_self _) ls (lv_sub hl [3, 4, 5, 2, 1, 0] rfl)

theorem hinX6_slip : ∀ w ∈ wsX60, w ∈ wsX6_slip := fun _ h => List.mem_cons_of_mem _ (List.mem_append_right _ h)
set_option maxHeartbeats 4000000 in
set_option maxRecDepth 100000 in
theorem c6_slip_bad (l_ : Launch) (D : va_G) (k : Nat → ClassId) (b I J : Nat → Nat) (G : Nat → Nat → Nat) (x : Int32) (hb : wIn x 0 1 = false) : Met l_ yX6_slip wsX6_slip ({ frames := 1, cells := 0, slots := 0, locals := 25 }) (va_Pc [.ref (b 0), .int x] (wH YT D k (mw b k I J G))) (va_Qi (fun (r : Int32) (u : Unit) => r = -10) (fun (u : Unit) (t_ : State) => va_P D vwCl ((fun (_ : Unit) => mw b k I J (gset G 3 (sRef (G 3) 0))) u) t_.heap) (wA (mw b k I J G))) 0 0 (wA (mw b k I J G)) := by
  refine my_entry (cc := cX6_slip) (maxL := 7) (ret := some .int) (by decide) rfl (Nat.le_of_ble_eq_true rfl) ?_
  intro p_ e_ s_ m_ bl_ me_ c_ hz hr hlk hB ls hl
  obtain ⟨hP, hK, hD0, -⟩ := hB
  have hD := wA.self hD0
  have hS : va_S (wA (mw b k I J G)) s_.heap s_.heap [] := va_S.rf
  have hl : lv_has ls 7 [(0, .ref (b 0)), (1, .int x)] := hl
  refine lv_iload_n hz.1 hz.2.1 dX6_slip_0 rfl (lv_at hl 1 rfl) ?_
  refine lv_i2l (v := x.toInt64) hz.1 hz.2.1 dX6_slip_1 (rfl) ?_
  refine lv_lconst (v := lN 0) hz.1 hz.2.1 dX6_slip_2 (by decide) ?_
  refine lv_lconst (v := lN 1) hz.1 hz.2.1 dX6_slip_3 (by decide) ?_
  refine rdS (As := [.long x.toInt64, .long (lN 0), .long (lN 1)]) (rest := []) hz (c6_in l_ x 0 1 (by omega) (by omega)) rfl (va_cwS 3 hz.2.2.2.2 gX6_slip_X6_in rfl rfl rfl (by decide +kernel) ⟨Nat.le_of_ble_eq_true rfl, Nat.le_of_ble_eq_true rfl⟩) rfl hl.1 rfl (Nat.le_of_ble_eq_true rfl) dX6_slip_4 ⟨Nat.zero_le _, Nat.zero_le _⟩ ?_
  refine zne (tgt := 17) hz dX6_slip_7 (by decide) (fun c_7 => ?_) (fun c_7 => ?_)
  · simp [c_7] at hb
  · refine lv_aload_n hz.1 hz.2.1 dX6_slip_10 rfl (lv_at hl 0 rfl) ?_
    refine lv_bipush (v := (-10)) hz.1 hz.2.1 dX6_slip_11 (by decide) ?_
    refine wrV (A := wA (mw b k I J G)) (As := [.int (-10)]) (rest := []) hz okYT (c6_bad l_ D k b I J G (-10) ) (cwV 1 hz.2.2.2.2 gX6_slip_X6_bad rfl rfl rfl (by decide +kernel) ⟨Nat.le_of_ble_eq_true rfl, Nat.le_of_ble_eq_true rfl⟩) hK trivial hP hD hS 0 6 rfl rfl rfl rfl hl.1 rfl (Nat.le_of_ble_eq_true rfl) dX6_slip_13 ⟨Nat.zero_le _, Nat.zero_le _⟩ (fun r u H locs hp hP hS _ => ?_)
    obtain rfl : r = -10 := hp
    have hP : va_P D vwCl (mw b k I J (gset G 3 (sRef (G 3) 0))) H := hP
    have hD := mw_D (I' := I) (J' := J) (G' := gset G 3 (sRef (G 3) 0)) hD
    exact wr_iret hz hr hlk dX6_slip_16 hS (()) hP (rfl)

set_option maxHeartbeats 4000000 in
set_option maxRecDepth 100000 in
theorem c6_slip_ok (l_ : Launch) (D : va_G) (k : Nat → ClassId) (b I J : Nat → Nat) (G : Nat → Nat → Nat) (wh : Nat) (hf : Wf (G 0)) (h1 : wh ≤ 1) : Met l_ yX6_slip wsX6_slip ({ frames := 3, cells := 0, slots := 0, locals := 70 }) (va_Pc [.ref (b 0), .int (nI wh)] (wH YT D k (mw b k I J G))) (QcRead (sSlipA (G 0) wh)) 0 0 (fun _ => False) := by
  refine my_entry (cc := cX6_slip) (maxL := 7) (ret := some .int) (by decide) rfl (Nat.le_of_ble_eq_true rfl) ?_
  intro p_ e_ s_ m_ bl_ me_ c_ hz hr hlk hB ls hl
  obtain ⟨hP, hK, hD0, -⟩ := hB
  have hD := wA.self hD0
  have hS : va_S (wA (mw b k I J G)) s_.heap s_.heap [] := va_S.rf
  have hl : lv_has ls 7 [(0, .ref (b 0)), (1, .int (nI wh))] := hl
  have f0 := hf.n2
  have f1 := hf.n9
  have f2 := hf.fr
  have f3 := hf.gd
  refine lv_iload_n hz.1 hz.2.1 dX6_slip_0 rfl (lv_at hl 1 rfl) ?_
  refine lv_i2l (v := (nI wh).toInt64) hz.1 hz.2.1 dX6_slip_1 (rfl) ?_
  refine lv_lconst (v := lN 0) hz.1 hz.2.1 dX6_slip_2 (by decide) ?_
  refine lv_lconst (v := lN 1) hz.1 hz.2.1 dX6_slip_3 (by decide) ?_
  refine rdS (As := [.long ((nI wh).toInt64), .long (lN 0), .long (lN 1)]) (rest := []) hz (c6_in l_ (nI wh) 0 1 (by omega) (by omega)) rfl (va_cwS 3 hz.2.2.2.2 gX6_slip_X6_in rfl rfl rfl (by decide +kernel) ⟨Nat.le_of_ble_eq_true rfl, Nat.le_of_ble_eq_true rfl⟩) rfl hl.1 rfl (Nat.le_of_ble_eq_true rfl) dX6_slip_4 ⟨Nat.zero_le _, Nat.zero_le _⟩ ?_
  refine zne (tgt := 17) hz dX6_slip_7 (by decide) (fun c_7 => ?_) (fun c_7 => ?_)
  · refine lv_bipush (v := nI 100) hz.1 hz.2.1 dX6_slip_17 (by decide) ?_
    refine lv_istore_n (lv' := [(2, .int (nI 100)), (0, .ref (b 0)), (1, .int (nI wh))]) hz.1 hz.2.1 dX6_slip_19 rfl hl (by decide) rfl (fun ls hl => ?_)
    refine lv_iconst (v := (-1)) hz.1 hz.2.1 dX6_slip_20 (by decide) ?_
    refine lv_istore_n (lv' := [(3, .int (-1)), (2, .int (nI 100)), (0, .ref (b 0)), (1, .int (nI wh))]) hz.1 hz.2.1 dX6_slip_21 rfl hl (by decide) rfl (fun ls hl => ?_)
    refine lv_iconst (v := nI 0) hz.1 hz.2.1 dX6_slip_22 (by decide) ?_
    refine lv_istore (lv' := [(4, .int (nI 0)), (3, .int (-1)), (2, .int (nI 100)), (0, .ref (b 0)), (1, .int (nI wh))]) hz.1 hz.2.1 dX6_slip_23 hl (by decide) rfl (fun ls hl => ?_)
    have lp_25 : ∀ (fu : Nat) (m : Nat), (m ≤ 60) → 60 - m < fu → ∀ ls : Array Slot, lv_has ls 7 [(0, .ref (b 0)), (1, .int (nI wh)), (2, .int (nI ((sSlM (sSlC (G 0)) (G 0 0 - 1) m).1))), (3, .int (oI ((sSlM (sSlC (G 0)) (G 0 0 - 1) m).2))), (4, .int (nI m))] → W p_ l_ e_ ({ frames := 3, cells := 0, slots := 0, locals := 70 }) s_ m_ [.ref (b 0), .int (nI wh)].toArray bl_ me_ c_ s_.heap [] 0 0 (MQ bl_ (QcRead (sSlipA (G 0) wh)) [.ref (b 0), .int (nI wh)].toArray s_ 0 0 (fun _ => False)) (F0 m_ 25 ls []) := by
      intro fu
      induction fu with
      | zero => intro m hm1 hm; exact absurd hm (Nat.not_lt_zero _)
      | succ fu ih25 =>
        intro m hm1 hm ls hl
        refine lv_iload hz.1 hz.2.1 dX6_slip_25 (lv_at hl 4 rfl) ?_
        refine lv_bipush (v := nI 60) hz.1 hz.2.1 dX6_slip_27 (by decide) ?_
        refine jge (tgt := 112) hz dX6_slip_29 (by decide) (by omega) (by omega) (fun c_29 => ?_) (fun c_29 => ?_)
        · obtain rfl : m = 60 := by omega
          have hj := sSlM_lt (c := sSlC (G 0)) (n := (G 0 0 - 1)) (by omega) 60 (by omega)
          have hj2 : ∀ j, (sSlip (G 0)).2 = some j → j < 2147483648 := fun j q => by have := hj j q; omega
          refine lv_iload_n hz.1 hz.2.1 dX6_slip_112 rfl (lv_at hl 1 rfl) ?_
          refine lv_iconst (v := nI 1) hz.1 hz.2.1 dX6_slip_113 (by decide) ?_
          refine jeq (tgt := 122) hz dX6_slip_114 (by decide) (by omega) (by omega) (fun c_114 => ?_) (fun c_114 => ?_)
          · refine lv_iload_n hz.1 hz.2.1 dX6_slip_122 rfl (lv_at hl 3 rfl) ?_
            refine lv_goto (tgt := 127) hz.1 hz.2.1 dX6_slip_123 (by decide) ?_
            exact rd_iret hz hr hlk dX6_slip_127 (by rw [sSlipA, if_pos (Or.inl c_114)]; rfl)
          · refine lv_iload_n hz.1 hz.2.1 dX6_slip_117 rfl (lv_at hl 3 rfl) ?_
            refine lv_iconst (v := (-1)) hz.1 hz.2.1 dX6_slip_118 (by decide) ?_
            refine lv_icmp_ne (tgt := 126) hz.1 hz.2.1 dX6_slip_119 (by decide) (fun c_119 => ?_) (fun c_119 => ?_)
            · refine lv_iload_n hz.1 hz.2.1 dX6_slip_126 rfl (lv_at hl 2 rfl) ?_
              exact rd_iret hz hr hlk dX6_slip_127 (by rw [sSlipA, if_neg (fun q => q.elim c_114 (fun q => c_119 (by rw [show (sSlM (sSlC (G 0)) (G 0 0 - 1) 60).2 = none from q]; rfl)))]; rfl)
            · refine lv_iload_n hz.1 hz.2.1 dX6_slip_122 rfl (lv_at hl 3 rfl) ?_
              refine lv_goto (tgt := 127) hz.1 hz.2.1 dX6_slip_123 (by decide) ?_
              exact rd_iret hz hr hlk dX6_slip_127 (by rw [sSlipA, if_pos (Or.inr ((oI_none hj2).mp c_119))]; rfl)
        · refine lv_iconst (v := nI 0) hz.1 hz.2.1 dX6_slip_32 (by decide) ?_
          refine lv_istore (lv' := [(5, .int (nI 0)), (0, .ref (b 0)), (1, .int (nI wh)), (2, .int (nI ((sSlM (sSlC (G 0)) (G 0 0 - 1) m).1))), (3, .int (oI ((sSlM (sSlC (G 0)) (G 0 0 - 1) m).2))), (4, .int (nI m))]) hz.1 hz.2.1 dX6_slip_33 hl (by decide) rfl (fun ls hl => ?_)
          have lp_35 : ∀ (fu : Nat) (w : Nat), (w ≤ (G 0 0 - 1)) → (G 0 0 - 1) - w < fu → ∀ ls : Array Slot, lv_has ls 7 [(0, .ref (b 0)), (1, .int (nI wh)), (2, .int (nI ((sSlW (sSlC (G 0) m) m (sSlM (sSlC (G 0)) (G 0 0 - 1) m) w).1))), (3, .int (oI ((sSlW (sSlC (G 0) m) m (sSlM (sSlC (G 0)) (G 0 0 - 1) m) w).2))), (4, .int (nI m)), (5, .int (nI w))] → W p_ l_ e_ ({ frames := 3, cells := 0, slots := 0, locals := 70 }) s_ m_ [.ref (b 0), .int (nI wh)].toArray bl_ me_ c_ s_.heap [] 0 0 (MQ bl_ (QcRead (sSlipA (G 0) wh)) [.ref (b 0), .int (nI wh)].toArray s_ 0 0 (fun _ => False)) (F0 m_ 35 ls []) := by
            intro fu
            induction fu with
            | zero => intro w hw hm; exact absurd hm (Nat.not_lt_zero _)
            | succ fu ih35 =>
              intro w hw hm ls hl
              refine lv_iload hz.1 hz.2.1 dX6_slip_35 (lv_at hl 5 rfl) ?_
              refine lv_aload_n hz.1 hz.2.1 dX6_slip_37 rfl (lv_at hl 0 rfl) ?_
              refine rdV (A := wA (mw b k I J G)) (As := []) (rest := [.int (nI w)]) hz okYT (c6_wires l_ D k b I J G  (by omega)) (cwV 0 hz.2.2.2.2 gX6_slip_X6_wires rfl rfl rfl (by decide +kernel) ⟨Nat.le_of_ble_eq_true rfl, Nat.le_of_ble_eq_true rfl⟩) hK trivial hP hD hS 0 6 rfl rfl rfl rfl hl.1 rfl (Nat.le_of_ble_eq_true rfl) dX6_slip_38 ⟨Nat.zero_le _, Nat.zero_le _⟩ ?_
              refine jge (tgt := 106) hz dX6_slip_41 (by decide) (by omega) (by omega) (fun c_41 => ?_) (fun c_41 => ?_)
              · obtain rfl : w = G 0 0 - 1 := by omega
                refine lv_iinc (v := nI (m + 1)) (lv' := [(4, .int (nI (m + 1))), (0, .ref (b 0)), (1, .int (nI wh)), (2, .int (nI ((sSlW (sSlC (G 0) m) m (sSlM (sSlC (G 0)) (G 0 0 - 1) m) (G 0 0 - 1)).1))), (3, .int (oI ((sSlW (sSlC (G 0) m) m (sSlM (sSlC (G 0)) (G 0 0 - 1) m) (G 0 0 - 1)).2))), (5, .int (nI (G 0 0 - 1)))]) hz.1 hz.2.1 dX6_slip_106 hl (k := 4) rfl (nI_add _ 1) (by decide) rfl (fun ls hl => ?_)
                refine lv_goto (tgt := 25) hz.1 hz.2.1 dX6_slip_109 (by decide) ?_
                exact ih25 (m + 1) (by omega) (by omega) ls (lv_sub hl [1, 2, 3, 4, 0] rfl)
              · have l1 := sSlC_le hf m w
                have l2 := sSlW_le (sSlC (G 0) m) m (sSlM (sSlC (G 0)) (G 0 0 - 1) m) w
                have l3 := sSlM_le (sSlC (G 0)) (G 0 0 - 1) m
                refine lv_aload_n hz.1 hz.2.1 dX6_slip_44 rfl (lv_at hl 0 rfl) ?_
                refine lv_iload hz.1 hz.2.1 dX6_slip_45 (lv_at hl 5 rfl) ?_
                refine rdV (A := wA (mw b k I J G)) (As := [.int (nI w)]) (rest := []) hz okYT (c6_isCut l_ D k b I J G w hf (by omega)) (cwV 1 hz.2.2.2.2 gX6_slip_X6_isCut rfl rfl rfl (by decide +kernel) ⟨Nat.le_of_ble_eq_true rfl, Nat.le_of_ble_eq_true rfl⟩) hK trivial hP hD hS 0 6 rfl rfl rfl rfl hl.1 rfl (Nat.le_of_ble_eq_true rfl) dX6_slip_47 ⟨Nat.zero_le _, Nat.zero_le _⟩ ?_
                refine zeq (tgt := 58) hz dX6_slip_50 (by decide) (fun c_50 => ?_) (fun c_50 => ?_)
                · refine lv_aload_n hz.1 hz.2.1 dX6_slip_58 rfl (lv_at hl 0 rfl) ?_
                  refine lv_iload hz.1 hz.2.1 dX6_slip_59 (lv_at hl 4 rfl) ?_
                  refine lv_iload hz.1 hz.2.1 dX6_slip_61 (lv_at hl 5 rfl) ?_
                  refine rdV (A := wA (mw b k I J G)) (As := [.int (nI m), .int (nI w)]) (rest := []) hz okYT (c6_noticed l_ D k b I J G m w hf (by omega) (by omega)) (cwV 2 hz.2.2.2.2 gX6_slip_X6_noticed rfl rfl rfl (by decide +kernel) ⟨Nat.le_of_ble_eq_true rfl, Nat.le_of_ble_eq_true rfl⟩) hK trivial hP hD hS 0 6 rfl rfl rfl rfl hl.1 rfl (Nat.le_of_ble_eq_true rfl) dX6_slip_63 ⟨Nat.zero_le _, Nat.zero_le _⟩ ?_
                  refine toe (z := nI (sSlC (G 0) m w)) (by rw [sSlC, if_neg (of_decide_eq_false c_50)]) ?_
                  refine lv_istore (lv' := [(6, .int (nI (sSlC (G 0) m w))), (0, .ref (b 0)), (1, .int (nI wh)), (2, .int (nI ((sSlW (sSlC (G 0) m) m (sSlM (sSlC (G 0)) (G 0 0 - 1) m) w).1))), (3, .int (oI ((sSlW (sSlC (G 0) m) m (sSlM (sSlC (G 0)) (G 0 0 - 1) m) w).2))), (4, .int (nI m)), (5, .int (nI w))]) hz.1 hz.2.1 dX6_slip_66 hl (by decide) rfl (fun ls hl => ?_)
                  refine lv_iload hz.1 hz.2.1 dX6_slip_68 (lv_at hl 0 rfl) ?_
                  refine lv_iload_n hz.1 hz.2.1 dX6_slip_70 rfl (lv_at hl 3 rfl) ?_
                  refine jge (tgt := 85) hz dX6_slip_71 (by decide) (by omega) (by omega) (fun c_71 => ?_) (fun c_71 => ?_)
                  · refine lv_iload_n hz.1 hz.2.1 dX6_slip_85 rfl (lv_at hl 4 rfl) ?_
                    refine toe (z := oI ((sSlW (sSlC (G 0) m) m (sSlM (sSlC (G 0)) (G 0 0 - 1) m) (w + 1)).2)) (by rw [sSlW, if_neg c_71]) ?_
                    refine lv_istore_n (lv' := [(3, .int (oI ((sSlW (sSlC (G 0) m) m (sSlM (sSlC (G 0)) (G 0 0 - 1) m) (w + 1)).2))), (6, .int (nI (sSlC (G 0) m w))), (0, .ref (b 0)), (1, .int (nI wh)), (2, .int (nI ((sSlW (sSlC (G 0) m) m (sSlM (sSlC (G 0)) (G 0 0 - 1) m) w).1))), (4, .int (nI m)), (5, .int (nI w))]) hz.1 hz.2.1 dX6_slip_86 rfl hl (by decide) rfl (fun ls hl => ?_)
                    refine lv_iload hz.1 hz.2.1 dX6_slip_87 (lv_at hl 1 rfl) ?_
                    refine lv_iload_n hz.1 hz.2.1 dX6_slip_89 rfl (lv_at hl 4 rfl) ?_
                    refine jge (tgt := 98) hz dX6_slip_90 (by decide) (by omega) (by omega) (fun c_90 => ?_) (fun c_90 => ?_)
                    · refine lv_iload_n hz.1 hz.2.1 dX6_slip_98 rfl (lv_at hl 4 rfl) ?_
                      refine toe (z := nI ((sSlW (sSlC (G 0) m) m (sSlM (sSlC (G 0)) (G 0 0 - 1) m) (w + 1)).1)) (by rw [sSlW, if_neg c_90]) ?_
                      refine lv_istore_n (lv' := [(2, .int (nI ((sSlW (sSlC (G 0) m) m (sSlM (sSlC (G 0)) (G 0 0 - 1) m) (w + 1)).1))), (3, .int (oI ((sSlW (sSlC (G 0) m) m (sSlM (sSlC (G 0)) (G 0 0 - 1) m) (w + 1)).2))), (6, .int (nI (sSlC (G 0) m w))), (0, .ref (b 0)), (1, .int (nI wh)), (4, .int (nI m)), (5, .int (nI w))]) hz.1 hz.2.1 dX6_slip_99 rfl hl (by decide) rfl (fun ls hl => ?_)
                      refine lv_iinc (v := nI (w + 1)) (lv' := [(5, .int (nI (w + 1))), (2, .int (nI ((sSlW (sSlC (G 0) m) m (sSlM (sSlC (G 0)) (G 0 0 - 1) m) (w + 1)).1))), (3, .int (oI ((sSlW (sSlC (G 0) m) m (sSlM (sSlC (G 0)) (G 0 0 - 1) m) (w + 1)).2))), (6, .int (nI (sSlC (G 0) m w))), (0, .ref (b 0)), (1, .int (nI wh)), (4, .int (nI m))]) hz.1 hz.2.1 dX6_slip_100 hl (k := 6) rfl (nI_add _ 1) (by decide) rfl (fun ls hl => ?_)
                      refine lv_goto (tgt := 35) hz.1 hz.2.1 dX6_slip_103 (by decide) ?_
                      exact ih35 (w + 1) (by omega) (by omega) ls (lv_sub hl [4, 5, 1, 2, 6, 0] rfl)
                    · exfalso; omega
                  · refine lv_bipush (v := nI 100) hz.1 hz.2.1 dX6_slip_74 (by decide) ?_
                    refine lv_iload hz.1 hz.2.1 dX6_slip_76 (lv_at hl 5 rfl) ?_
                    refine lv_imul hz.1 hz.2.1 dX6_slip_78 ?_
                    refine toe (z := nI (100 * m)) (pk_mul _ _) ?_
                    refine lv_iload hz.1 hz.2.1 dX6_slip_79 (lv_at hl 6 rfl) ?_
                    refine lv_iadd hz.1 hz.2.1 dX6_slip_81 ?_
                    refine toe (z := nI ((100 * m) + w)) (nI_add _ _) ?_
                    refine lv_goto (tgt := 86) hz.1 hz.2.1 dX6_slip_82 (by decide) ?_
                    refine toe (z := oI ((sSlW (sSlC (G 0) m) m (sSlM (sSlC (G 0)) (G 0 0 - 1) m) (w + 1)).2)) (by rw [sSlW, if_pos c_71]; rfl) ?_
                    refine lv_istore_n (lv' := [(3, .int (oI ((sSlW (sSlC (G 0) m) m (sSlM (sSlC (G 0)) (G 0 0 - 1) m) (w + 1)).2))), (6, .int (nI (sSlC (G 0) m w))), (0, .ref (b 0)), (1, .int (nI wh)), (2, .int (nI ((sSlW (sSlC (G 0) m) m (sSlM (sSlC (G 0)) (G 0 0 - 1) m) w).1))), (4, .int (nI m)), (5, .int (nI w))]) hz.1 hz.2.1 dX6_slip_86 rfl hl (by decide) rfl (fun ls hl => ?_)
                    refine lv_iload hz.1 hz.2.1 dX6_slip_87 (lv_at hl 1 rfl) ?_
                    refine lv_iload_n hz.1 hz.2.1 dX6_slip_89 rfl (lv_at hl 4 rfl) ?_
                    refine jge (tgt := 98) hz dX6_slip_90 (by decide) (by omega) (by omega) (fun c_90 => ?_) (fun c_90 => ?_)
                    · exfalso; omega
                    · refine lv_iload hz.1 hz.2.1 dX6_slip_93 (lv_at hl 1 rfl) ?_
                      refine lv_goto (tgt := 99) hz.1 hz.2.1 dX6_slip_95 (by decide) ?_
                      refine toe (z := nI ((sSlW (sSlC (G 0) m) m (sSlM (sSlC (G 0)) (G 0 0 - 1) m) (w + 1)).1)) (by rw [sSlW, if_pos c_90]) ?_
                      refine lv_istore_n (lv' := [(2, .int (nI ((sSlW (sSlC (G 0) m) m (sSlM (sSlC (G 0)) (G 0 0 - 1) m) (w + 1)).1))), (3, .int (oI ((sSlW (sSlC (G 0) m) m (sSlM (sSlC (G 0)) (G 0 0 - 1) m) (w + 1)).2))), (6, .int (nI (sSlC (G 0) m w))), (0, .ref (b 0)), (1, .int (nI wh)), (4, .int (nI m)), (5, .int (nI w))]) hz.1 hz.2.1 dX6_slip_99 rfl hl (by decide) rfl (fun ls hl => ?_)
                      refine lv_iinc (v := nI (w + 1)) (lv' := [(5, .int (nI (w + 1))), (2, .int (nI ((sSlW (sSlC (G 0) m) m (sSlM (sSlC (G 0)) (G 0 0 - 1) m) (w + 1)).1))), (3, .int (oI ((sSlW (sSlC (G 0) m) m (sSlM (sSlC (G 0)) (G 0 0 - 1) m) (w + 1)).2))), (6, .int (nI (sSlC (G 0) m w))), (0, .ref (b 0)), (1, .int (nI wh)), (4, .int (nI m))]) hz.1 hz.2.1 dX6_slip_100 hl (k := 6) rfl (nI_add _ 1) (by decide) rfl (fun ls hl => ?_)
                      refine lv_goto (tgt := 35) hz.1 hz.2.1 dX6_slip_103 (by decide) ?_
                      exact ih35 (w + 1) (by omega) (by omega) ls (lv_sub hl [4, 5, 1, 2, 6, 0] rfl)
                · refine lv_bipush (v := nI 100) hz.1 hz.2.1 dX6_slip_53 (by decide) ?_
                  refine lv_goto (tgt := 66) hz.1 hz.2.1 dX6_slip_55 (by decide) ?_
                  refine toe (z := nI (sSlC (G 0) m w)) (by rw [sSlC, if_pos (of_decide_eq_true c_50)]) ?_
                  refine lv_istore (lv' := [(6, .int (nI (sSlC (G 0) m w))), (0, .ref (b 0)), (1, .int (nI wh)), (2, .int (nI ((sSlW (sSlC (G 0) m) m (sSlM (sSlC (G 0)) (G 0 0 - 1) m) w).1))), (3, .int (oI ((sSlW (sSlC (G 0) m) m (sSlM (sSlC (G 0)) (G 0 0 - 1) m) w).2))), (4, .int (nI m)), (5, .int (nI w))]) hz.1 hz.2.1 dX6_slip_66 hl (by decide) rfl (fun ls hl => ?_)
                  refine lv_iload hz.1 hz.2.1 dX6_slip_68 (lv_at hl 0 rfl) ?_
                  refine lv_iload_n hz.1 hz.2.1 dX6_slip_70 rfl (lv_at hl 3 rfl) ?_
                  refine jge (tgt := 85) hz dX6_slip_71 (by decide) (by omega) (by omega) (fun c_71 => ?_) (fun c_71 => ?_)
                  · refine lv_iload_n hz.1 hz.2.1 dX6_slip_85 rfl (lv_at hl 4 rfl) ?_
                    refine toe (z := oI ((sSlW (sSlC (G 0) m) m (sSlM (sSlC (G 0)) (G 0 0 - 1) m) (w + 1)).2)) (by rw [sSlW, if_neg c_71]) ?_
                    refine lv_istore_n (lv' := [(3, .int (oI ((sSlW (sSlC (G 0) m) m (sSlM (sSlC (G 0)) (G 0 0 - 1) m) (w + 1)).2))), (6, .int (nI (sSlC (G 0) m w))), (0, .ref (b 0)), (1, .int (nI wh)), (2, .int (nI ((sSlW (sSlC (G 0) m) m (sSlM (sSlC (G 0)) (G 0 0 - 1) m) w).1))), (4, .int (nI m)), (5, .int (nI w))]) hz.1 hz.2.1 dX6_slip_86 rfl hl (by decide) rfl (fun ls hl => ?_)
                    refine lv_iload hz.1 hz.2.1 dX6_slip_87 (lv_at hl 1 rfl) ?_
                    refine lv_iload_n hz.1 hz.2.1 dX6_slip_89 rfl (lv_at hl 4 rfl) ?_
                    refine jge (tgt := 98) hz dX6_slip_90 (by decide) (by omega) (by omega) (fun c_90 => ?_) (fun c_90 => ?_)
                    · refine lv_iload_n hz.1 hz.2.1 dX6_slip_98 rfl (lv_at hl 4 rfl) ?_
                      refine toe (z := nI ((sSlW (sSlC (G 0) m) m (sSlM (sSlC (G 0)) (G 0 0 - 1) m) (w + 1)).1)) (by rw [sSlW, if_neg c_90]) ?_
                      refine lv_istore_n (lv' := [(2, .int (nI ((sSlW (sSlC (G 0) m) m (sSlM (sSlC (G 0)) (G 0 0 - 1) m) (w + 1)).1))), (3, .int (oI ((sSlW (sSlC (G 0) m) m (sSlM (sSlC (G 0)) (G 0 0 - 1) m) (w + 1)).2))), (6, .int (nI (sSlC (G 0) m w))), (0, .ref (b 0)), (1, .int (nI wh)), (4, .int (nI m)), (5, .int (nI w))]) hz.1 hz.2.1 dX6_slip_99 rfl hl (by decide) rfl (fun ls hl => ?_)
                      refine lv_iinc (v := nI (w + 1)) (lv' := [(5, .int (nI (w + 1))), (2, .int (nI ((sSlW (sSlC (G 0) m) m (sSlM (sSlC (G 0)) (G 0 0 - 1) m) (w + 1)).1))), (3, .int (oI ((sSlW (sSlC (G 0) m) m (sSlM (sSlC (G 0)) (G 0 0 - 1) m) (w + 1)).2))), (6, .int (nI (sSlC (G 0) m w))), (0, .ref (b 0)), (1, .int (nI wh)), (4, .int (nI m))]) hz.1 hz.2.1 dX6_slip_100 hl (k := 6) rfl (nI_add _ 1) (by decide) rfl (fun ls hl => ?_)
                      refine lv_goto (tgt := 35) hz.1 hz.2.1 dX6_slip_103 (by decide) ?_
                      exact ih35 (w + 1) (by omega) (by omega) ls (lv_sub hl [4, 5, 1, 2, 6, 0] rfl)
                    · exfalso; omega
                  · refine lv_bipush (v := nI 100) hz.1 hz.2.1 dX6_slip_74 (by decide) ?_
                    refine lv_iload hz.1 hz.2.1 dX6_slip_76 (lv_at hl 5 rfl) ?_
                    refine lv_imul hz.1 hz.2.1 dX6_slip_78 ?_
                    refine toe (z := nI (100 * m)) (pk_mul _ _) ?_
                    refine lv_iload hz.1 hz.2.1 dX6_slip_79 (lv_at hl 6 rfl) ?_
                    refine lv_iadd hz.1 hz.2.1 dX6_slip_81 ?_
                    refine toe (z := nI ((100 * m) + w)) (nI_add _ _) ?_
                    refine lv_goto (tgt := 86) hz.1 hz.2.1 dX6_slip_82 (by decide) ?_
                    refine toe (z := oI ((sSlW (sSlC (G 0) m) m (sSlM (sSlC (G 0)) (G 0 0 - 1) m) (w + 1)).2)) (by rw [sSlW, if_pos c_71]; rfl) ?_
                    refine lv_istore_n (lv' := [(3, .int (oI ((sSlW (sSlC (G 0) m) m (sSlM (sSlC (G 0)) (G 0 0 - 1) m) (w + 1)).2))), (6, .int (nI (sSlC (G 0) m w))), (0, .ref (b 0)), (1, .int (nI wh)), (2, .int (nI ((sSlW (sSlC (G 0) m) m (sSlM (sSlC (G 0)) (G 0 0 - 1) m) w).1))), (4, .int (nI m)), (5, .int (nI w))]) hz.1 hz.2.1 dX6_slip_86 rfl hl (by decide) rfl (fun ls hl => ?_)
                    refine lv_iload hz.1 hz.2.1 dX6_slip_87 (lv_at hl 1 rfl) ?_
                    refine lv_iload_n hz.1 hz.2.1 dX6_slip_89 rfl (lv_at hl 4 rfl) ?_
                    refine jge (tgt := 98) hz dX6_slip_90 (by decide) (by omega) (by omega) (fun c_90 => ?_) (fun c_90 => ?_)
                    · exfalso; omega
                    · refine lv_iload hz.1 hz.2.1 dX6_slip_93 (lv_at hl 1 rfl) ?_
                      refine lv_goto (tgt := 99) hz.1 hz.2.1 dX6_slip_95 (by decide) ?_
                      refine toe (z := nI ((sSlW (sSlC (G 0) m) m (sSlM (sSlC (G 0)) (G 0 0 - 1) m) (w + 1)).1)) (by rw [sSlW, if_pos c_90]) ?_
                      refine lv_istore_n (lv' := [(2, .int (nI ((sSlW (sSlC (G 0) m) m (sSlM (sSlC (G 0)) (G 0 0 - 1) m) (w + 1)).1))), (3, .int (oI ((sSlW (sSlC (G 0) m) m (sSlM (sSlC (G 0)) (G 0 0 - 1) m) (w + 1)).2))), (6, .int (nI (sSlC (G 0) m w))), (0, .ref (b 0)), (1, .int (nI wh)), (4, .int (nI m)), (5, .int (nI w))]) hz.1 hz.2.1 dX6_slip_99 rfl hl (by decide) rfl (fun ls hl => ?_)
                      refine lv_iinc (v := nI (w + 1)) (lv' := [(5, .int (nI (w + 1))), (2, .int (nI ((sSlW (sSlC (G 0) m) m (sSlM (sSlC (G 0)) (G 0 0 - 1) m) (w + 1)).1))), (3, .int (oI ((sSlW (sSlC (G 0) m) m (sSlM (sSlC (G 0)) (G 0 0 - 1) m) (w + 1)).2))), (6, .int (nI (sSlC (G 0) m w))), (0, .ref (b 0)), (1, .int (nI wh)), (4, .int (nI m))]) hz.1 hz.2.1 dX6_slip_100 hl (k := 6) rfl (nI_add _ 1) (by decide) rfl (fun ls hl => ?_)
                      refine lv_goto (tgt := 35) hz.1 hz.2.1 dX6_slip_103 (by decide) ?_
                      exact ih35 (w + 1) (by omega) (by omega) ls (lv_sub hl [4, 5, 1, 2, 6, 0] rfl)
          exact lp_35 _ 0 (by omega) (Nat.lt_succ_self _) ls (lv_sub hl [1, 2, 3, 4, 5, 0] rfl)
    exact lp_25 _ 0 (by omega) (Nat.lt_succ_self _) ls (lv_sub hl [3, 4, 2, 1, 0] rfl)
  · exact absurd ((wIn_ok (by omega) (by omega) (by omega)).symm.trans c_7) (by decide)

set_option maxHeartbeats 4000000 in
set_option maxRecDepth 100000 in
theorem c6_choose (l_ : Launch) (n kk : Nat) (hn : n < 10) (hk : kk < 10) : Met l_ yX6_choose wsX6_choose ({ frames := 0, cells := 0, slots := 0, locals := 0 }) (va_Pc [.int (nI n), .int (nI kk)] (fun _ => True)) (k2_QcV (.long (lN (sCh n kk)))) 0 0 (fun _ => False) := by
  refine my_entry (cc := cX6_choose) (maxL := 5) (ret := some .long) (by decide) rfl (Nat.le_of_ble_eq_true rfl) ?_
  intro p_ e_ s_ m_ bl_ me_ c_ hz hr hlk hB ls hl
  have hl : lv_has ls 5 [(0, .int (nI n)), (1, .int (nI kk))] := hl
  refine lv_iload_n hz.1 hz.2.1 dX6_choose_0 rfl (lv_at hl 1 rfl) ?_
  refine lv_iload_n hz.1 hz.2.1 dX6_choose_1 rfl (lv_at hl 0 rfl) ?_
  refine jle (tgt := 9) hz dX6_choose_2 (by decide) (by omega) (by omega) (fun c_2 => ?_) (fun c_2 => ?_)
  · refine lv_lconst (v := lN 1) hz.1 hz.2.1 dX6_choose_9 (by decide) ?_
    refine toeL (z := lN (sCv n kk 0)) (by rw [sCv, if_neg c_2, sCh_0]) ?_
    refine lv_lstore_n (lv' := [(2, .long (lN (sCv n kk 0))), (0, .int (nI n)), (1, .int (nI kk))]) hz.1 hz.2.1 dX6_choose_10 rfl hl (by decide) rfl (fun ls hl => ?_)
    refine lv_iconst (v := nI 0) hz.1 hz.2.1 dX6_choose_11 (by decide) ?_
    refine lv_istore (lv' := [(4, .int (nI 0)), (2, .long (lN (sCv n kk 0))), (0, .int (nI n)), (1, .int (nI kk))]) hz.1 hz.2.1 dX6_choose_12 hl (by decide) rfl (fun ls hl => ?_)
    have lp_14 : ∀ (fu : Nat) (j : Nat), (j ≤ kk) → kk - j < fu → ∀ ls : Array Slot, lv_has ls 5 [(0, .int (nI n)), (1, .int (nI kk)), (2, .long (lN (sCv n kk j))), (4, .int (nI j))] → W p_ l_ e_ ({ frames := 0, cells := 0, slots := 0, locals := 0 }) s_ m_ [.int (nI n), .int (nI kk)].toArray bl_ me_ c_ s_.heap [] 0 0 (MQ bl_ (k2_QcV (.long (lN (sCh n kk)))) [.int (nI n), .int (nI kk)].toArray s_ 0 0 (fun _ => False)) (F0 m_ 14 ls []) := by
      intro fu
      induction fu with
      | zero => intro j hj hm; exact absurd hm (Nat.not_lt_zero _)
      | succ fu ih14 =>
        intro j hj hm ls hl
        refine lv_iload hz.1 hz.2.1 dX6_choose_14 (lv_at hl 3 rfl) ?_
        refine lv_iload_n hz.1 hz.2.1 dX6_choose_16 rfl (lv_at hl 1 rfl) ?_
        refine jge (tgt := 46) hz dX6_choose_17 (by decide) (by omega) (by omega) (fun c_17 => ?_) (fun c_17 => ?_)
        · obtain rfl : j = kk := by omega
          refine lv_lload_n hz.1 hz.2.1 dX6_choose_46 rfl (lv_at hl 2 rfl) ?_
          exact rd_lret hz hr hlk dX6_choose_47 (by rw [sCv_end hn hk])
        · have v1 := sCv_lt (k := kk) (j := j) hn (by omega)
          refine lv_lload_n hz.1 hz.2.1 dX6_choose_20 rfl (lv_at hl 2 rfl) ?_
          refine lv_lconst (v := lN 0) hz.1 hz.2.1 dX6_choose_21 (by decide) ?_
          refine W.lcmp hz.1 hz.2.1 dX6_choose_22 ?_
          refine lcle (tgt := 46) hz dX6_choose_23 (by decide) (by omega) (by omega) (fun c_23 => ?_) (fun c_23 => ?_)
          · refine lv_lload_n hz.1 hz.2.1 dX6_choose_46 rfl (lv_at hl 2 rfl) ?_
            exact rd_lret hz hr hlk dX6_choose_47 (by rw [sCv_zero hn hk hj c_23, show sCv n kk j = 0 by omega])
          · have hkn : ¬ n < kk := fun q => by rw [sCv, if_pos q] at c_23; omega
            have e0 : sCv n kk j = sCh n j := if_neg hkn
            have e1 : sCv n kk (j + 1) = sCh n (j + 1) := if_neg hkn
            have e2 : sCv n kk j * (n - j) ≤ 1000 * 10 := Nat.mul_le_mul (by omega) (by omega)
            refine lv_lload_n hz.1 hz.2.1 dX6_choose_26 rfl (lv_at hl 2 rfl) ?_
            refine lv_iload_n hz.1 hz.2.1 dX6_choose_27 rfl (lv_at hl 0 rfl) ?_
            refine lv_iload hz.1 hz.2.1 dX6_choose_28 (lv_at hl 3 rfl) ?_
            refine lv_isub hz.1 hz.2.1 dX6_choose_30 ?_
            refine toe (z := nI (n - j)) (pk_sub (by omega)) ?_
            refine lv_i2l (v := lN (n - j)) hz.1 hz.2.1 dX6_choose_31 (nI_l (by omega)) ?_
            refine lv_lmul hz.1 hz.2.1 dX6_choose_32 ?_
            refine toeL (z := lN ((sCv n kk j) * (n - j))) (lN_mul _ _) ?_
            refine lv_iload hz.1 hz.2.1 dX6_choose_33 (lv_at hl 3 rfl) ?_
            refine lv_iconst (v := nI 1) hz.1 hz.2.1 dX6_choose_35 (by decide) ?_
            refine lv_iadd hz.1 hz.2.1 dX6_choose_36 ?_
            refine toe (z := nI (j + 1)) (nI_add _ _) ?_
            refine lv_i2l (v := lN (j + 1)) hz.1 hz.2.1 dX6_choose_37 (nI_l (by omega)) ?_
            refine lv_ldiv hz.1 hz.2.1 dX6_choose_38 (lN_ne0 (by omega) (by omega)) ?_
            refine toeL (z := lN (sCv n kk (j + 1))) (by rw [pk_lDiv (by omega) (by omega) (by omega), e0, e1, sCh_step n hn j (by omega)]) ?_
            refine lv_lstore_n (lv' := [(2, .long (lN (sCv n kk (j + 1)))), (0, .int (nI n)), (1, .int (nI kk)), (4, .int (nI j))]) hz.1 hz.2.1 dX6_choose_39 rfl hl (by decide) rfl (fun ls hl => ?_)
            refine lv_iinc (v := nI (j + 1)) (lv' := [(4, .int (nI (j + 1))), (2, .long (lN (sCv n kk (j + 1)))), (0, .int (nI n)), (1, .int (nI kk))]) hz.1 hz.2.1 dX6_choose_40 hl (k := 3) rfl (nI_add _ 1) (by decide) rfl (fun ls hl => ?_)
            refine lv_goto (tgt := 14) hz.1 hz.2.1 dX6_choose_43 (by decide) ?_
            exact ih14 (j + 1) (by omega) (by omega) ls (lv_sub hl [2, 3, 1, 0] rfl)
    exact lp_14 _ 0 (by omega) (Nat.lt_succ_self _) ls (lv_sub hl [2, 3, 1, 0] rfl)
  · refine lv_lconst (v := lN 0) hz.1 hz.2.1 dX6_choose_5 (by decide) ?_
    refine lv_goto (tgt := 10) hz.1 hz.2.1 dX6_choose_6 (by decide) ?_
    refine toeL (z := lN (sCv n kk 0)) (by rw [sCv, if_pos c_2]) ?_
    refine lv_lstore_n (lv' := [(2, .long (lN (sCv n kk 0))), (0, .int (nI n)), (1, .int (nI kk))]) hz.1 hz.2.1 dX6_choose_10 rfl hl (by decide) rfl (fun ls hl => ?_)
    refine lv_iconst (v := nI 0) hz.1 hz.2.1 dX6_choose_11 (by decide) ?_
    refine lv_istore (lv' := [(4, .int (nI 0)), (2, .long (lN (sCv n kk 0))), (0, .int (nI n)), (1, .int (nI kk))]) hz.1 hz.2.1 dX6_choose_12 hl (by decide) rfl (fun ls hl => ?_)
    have lp_14 : ∀ (fu : Nat) (j : Nat), (j ≤ kk) → kk - j < fu → ∀ ls : Array Slot, lv_has ls 5 [(0, .int (nI n)), (1, .int (nI kk)), (2, .long (lN (sCv n kk j))), (4, .int (nI j))] → W p_ l_ e_ ({ frames := 0, cells := 0, slots := 0, locals := 0 }) s_ m_ [.int (nI n), .int (nI kk)].toArray bl_ me_ c_ s_.heap [] 0 0 (MQ bl_ (k2_QcV (.long (lN (sCh n kk)))) [.int (nI n), .int (nI kk)].toArray s_ 0 0 (fun _ => False)) (F0 m_ 14 ls []) := by
      intro fu
      induction fu with
      | zero => intro j hj hm; exact absurd hm (Nat.not_lt_zero _)
      | succ fu ih14 =>
        intro j hj hm ls hl
        refine lv_iload hz.1 hz.2.1 dX6_choose_14 (lv_at hl 3 rfl) ?_
        refine lv_iload_n hz.1 hz.2.1 dX6_choose_16 rfl (lv_at hl 1 rfl) ?_
        refine jge (tgt := 46) hz dX6_choose_17 (by decide) (by omega) (by omega) (fun c_17 => ?_) (fun c_17 => ?_)
        · obtain rfl : j = kk := by omega
          refine lv_lload_n hz.1 hz.2.1 dX6_choose_46 rfl (lv_at hl 2 rfl) ?_
          exact rd_lret hz hr hlk dX6_choose_47 (by rw [sCv_end hn hk])
        · have v1 := sCv_lt (k := kk) (j := j) hn (by omega)
          refine lv_lload_n hz.1 hz.2.1 dX6_choose_20 rfl (lv_at hl 2 rfl) ?_
          refine lv_lconst (v := lN 0) hz.1 hz.2.1 dX6_choose_21 (by decide) ?_
          refine W.lcmp hz.1 hz.2.1 dX6_choose_22 ?_
          refine lcle (tgt := 46) hz dX6_choose_23 (by decide) (by omega) (by omega) (fun c_23 => ?_) (fun c_23 => ?_)
          · refine lv_lload_n hz.1 hz.2.1 dX6_choose_46 rfl (lv_at hl 2 rfl) ?_
            exact rd_lret hz hr hlk dX6_choose_47 (by rw [sCv_zero hn hk hj c_23, show sCv n kk j = 0 by omega])
          · have hkn : ¬ n < kk := fun q => by rw [sCv, if_pos q] at c_23; omega
            have e0 : sCv n kk j = sCh n j := if_neg hkn
            have e1 : sCv n kk (j + 1) = sCh n (j + 1) := if_neg hkn
            have e2 : sCv n kk j * (n - j) ≤ 1000 * 10 := Nat.mul_le_mul (by omega) (by omega)
            refine lv_lload_n hz.1 hz.2.1 dX6_choose_26 rfl (lv_at hl 2 rfl) ?_
            refine lv_iload_n hz.1 hz.2.1 dX6_choose_27 rfl (lv_at hl 0 rfl) ?_
            refine lv_iload hz.1 hz.2.1 dX6_choose_28 (lv_at hl 3 rfl) ?_
            refine lv_isub hz.1 hz.2.1 dX6_choose_30 ?_
            refine toe (z := nI (n - j)) (pk_sub (by omega)) ?_
            refine lv_i2l (v := lN (n - j)) hz.1 hz.2.1 dX6_choose_31 (nI_l (by omega)) ?_
            refine lv_lmul hz.1 hz.2.1 dX6_choose_32 ?_
            refine toeL (z := lN ((sCv n kk j) * (n - j))) (lN_mul _ _) ?_
            refine lv_iload hz.1 hz.2.1 dX6_choose_33 (lv_at hl 3 rfl) ?_
            refine lv_iconst (v := nI 1) hz.1 hz.2.1 dX6_choose_35 (by decide) ?_
            refine lv_iadd hz.1 hz.2.1 dX6_choose_36 ?_
            refine toe (z := nI (j + 1)) (nI_add _ _) ?_
            refine lv_i2l (v := lN (j + 1)) hz.1 hz.2.1 dX6_choose_37 (nI_l (by omega)) ?_
            refine lv_ldiv hz.1 hz.2.1 dX6_choose_38 (lN_ne0 (by omega) (by omega)) ?_
            refine toeL (z := lN (sCv n kk (j + 1))) (by rw [pk_lDiv (by omega) (by omega) (by omega), e0, e1, sCh_step n hn j (by omega)]) ?_
            refine lv_lstore_n (lv' := [(2, .long (lN (sCv n kk (j + 1)))), (0, .int (nI n)), (1, .int (nI kk)), (4, .int (nI j))]) hz.1 hz.2.1 dX6_choose_39 rfl hl (by decide) rfl (fun ls hl => ?_)
            refine lv_iinc (v := nI (j + 1)) (lv' := [(4, .int (nI (j + 1))), (2, .long (lN (sCv n kk (j + 1)))), (0, .int (nI n)), (1, .int (nI kk))]) hz.1 hz.2.1 dX6_choose_40 hl (k := 3) rfl (nI_add _ 1) (by decide) rfl (fun ls hl => ?_)
            refine lv_goto (tgt := 14) hz.1 hz.2.1 dX6_choose_43 (by decide) ?_
            exact ih14 (j + 1) (by omega) (by omega) ls (lv_sub hl [2, 3, 1, 0] rfl)
    exact lp_14 _ 0 (by omega) (Nat.lt_succ_self _) ls (lv_sub hl [2, 3, 1, 0] rfl)

theorem hinX6_deaf : ∀ w ∈ wsX60, w ∈ wsX6_deaf := fun _ h => List.mem_cons_of_mem _ (List.mem_append_right _ h)
set_option maxHeartbeats 4000000 in
set_option maxRecDepth 100000 in
theorem c6_deaf (l_ : Launch) (D : va_G) (k : Nat → ClassId) (b I J : Nat → Nat) (G : Nat → Nat → Nat) (kk w st : Nat) (hf : Wf (G 0)) (hk : kk < 10) (hw : w < 8) (hs : st ≤ 3) : Met l_ yX6_deaf wsX6_deaf ({ frames := 2, cells := 0, slots := 0, locals := 45 }) (va_Pc [.ref (b 0), .int (nI kk), .int (nI w), .int (nI st)] (wH YT D k (mw b k I J G))) (k2_QcV (.long (lN (sCh (sDfN (G 0) w st) kk)))) 0 0 (fun _ => False) := by
  refine my_entry (cc := cX6_deaf) (maxL := 6) (ret := some .long) (by decide) rfl (Nat.le_of_ble_eq_true rfl) ?_
  intro p_ e_ s_ m_ bl_ me_ c_ hz hr hlk hB ls hl
  obtain ⟨hP, hK, hD0, -⟩ := hB
  have hD := wA.self hD0
  have hS : va_S (wA (mw b k I J G)) s_.heap s_.heap [] := va_S.rf
  have hl : lv_has ls 6 [(0, .ref (b 0)), (1, .int (nI kk)), (2, .int (nI w)), (3, .int (nI st))] := hl
  have f0 := hf.n2
  have f1 := hf.n9
  have f2 := hf.fr
  have f3 := hf.gd
  have h7 := sStr_in hs
  refine lv_iconst (v := nI 0) hz.1 hz.2.1 dX6_deaf_0 (by decide) ?_
  refine lv_istore (lv' := [(4, .int (nI 0)), (0, .ref (b 0)), (1, .int (nI kk)), (2, .int (nI w)), (3, .int (nI st))]) hz.1 hz.2.1 dX6_deaf_1 hl (by decide) rfl (fun ls hl => ?_)
  refine lv_iconst (v := nI 0) hz.1 hz.2.1 dX6_deaf_3 (by decide) ?_
  refine lv_istore (lv' := [(5, .int (nI 0)), (4, .int (nI 0)), (0, .ref (b 0)), (1, .int (nI kk)), (2, .int (nI w)), (3, .int (nI st))]) hz.1 hz.2.1 dX6_deaf_4 hl (by decide) rfl (fun ls hl => ?_)
  have lp_6 : ∀ (fu : Nat) (p : Nat), (p ≤ G 0 0) → G 0 0 - p < fu → ∀ ls : Array Slot, lv_has ls 6 [(0, .ref (b 0)), (1, .int (nI kk)), (2, .int (nI w)), (3, .int (nI st)), (4, .int (nI (fb_ct (fun z_ => !sHears (G 0) z_ w (sStr st)) p))), (5, .int (nI p))] → W p_ l_ e_ ({ frames := 2, cells := 0, slots := 0, locals := 45 }) s_ m_ [.ref (b 0), .int (nI kk), .int (nI w), .int (nI st)].toArray bl_ me_ c_ s_.heap [] 0 0 (MQ bl_ (k2_QcV (.long (lN (sCh (sDfN (G 0) w st) kk)))) [.ref (b 0), .int (nI kk), .int (nI w), .int (nI st)].toArray s_ 0 0 (fun _ => False)) (F0 m_ 6 ls []) := by
    intro fu
    induction fu with
    | zero => intro p hp hm; exact absurd hm (Nat.not_lt_zero _)
    | succ fu ih6 =>
      intro p hp hm ls hl
      refine lv_iload hz.1 hz.2.1 dX6_deaf_6 (lv_at hl 5 rfl) ?_
      refine lv_aload_n hz.1 hz.2.1 dX6_deaf_8 rfl (lv_at hl 0 rfl) ?_
      refine rdV (A := wA (mw b k I J G)) (As := []) (rest := [.int (nI p)]) hz okYT (c6_line l_ D k b I J G  ) (cwV 0 hz.2.2.2.2 gX6_deaf_X6_line rfl rfl rfl (by decide +kernel) ⟨Nat.le_of_ble_eq_true rfl, Nat.le_of_ble_eq_true rfl⟩) hK trivial hP hD hS 0 6 rfl rfl rfl rfl hl.1 rfl (Nat.le_of_ble_eq_true rfl) dX6_deaf_9 ⟨Nat.zero_le _, Nat.zero_le _⟩ ?_
      refine jge (tgt := 45) hz dX6_deaf_12 (by decide) (by omega) (by omega) (fun c_12 => ?_) (fun c_12 => ?_)
      · obtain rfl : p = G 0 0 := by omega
        have hc := fb_ct_le (fun z_ => !sHears (G 0) z_ w (sStr st)) (G 0 0)
        refine lv_iload hz.1 hz.2.1 dX6_deaf_45 (lv_at hl 4 rfl) ?_
        refine lv_iload_n hz.1 hz.2.1 dX6_deaf_47 rfl (lv_at hl 1 rfl) ?_
        refine rdSl (As := [.int (nI (fb_ct (fun z_ => !sHears (G 0) z_ w (sStr st)) (G 0 0))), .int (nI kk)]) (rest := []) hz (c6_choose l_ (fb_ct (fun z_ => !sHears (G 0) z_ w (sStr st)) (G 0 0)) kk (by omega) (by omega)) rfl (va_cwS 2 hz.2.2.2.2 gX6_deaf_X6_choose rfl rfl rfl (by decide +kernel) ⟨Nat.le_of_ble_eq_true rfl, Nat.le_of_ble_eq_true rfl⟩) rfl hl.1 rfl (Nat.le_of_ble_eq_true rfl) dX6_deaf_48 ⟨Nat.zero_le _, Nat.zero_le _⟩ ?_
        exact rd_lret hz hr hlk dX6_deaf_51 (rfl)
      · refine lv_iload hz.1 hz.2.1 dX6_deaf_15 (lv_at hl 4 rfl) ?_
        refine lv_aload_n hz.1 hz.2.1 dX6_deaf_17 rfl (lv_at hl 0 rfl) ?_
        refine lv_iload hz.1 hz.2.1 dX6_deaf_18 (lv_at hl 5 rfl) ?_
        refine lv_iload_n hz.1 hz.2.1 dX6_deaf_20 rfl (lv_at hl 2 rfl) ?_
        refine lv_iload_n hz.1 hz.2.1 dX6_deaf_21 rfl (lv_at hl 3 rfl) ?_
        refine rdS (As := [.int (nI st)]) (rest := [.int (nI w), .int (nI p), .ref (b 0), .int (nI (fb_ct (fun z_ => !sHears (G 0) z_ w (sStr st)) p))]) hz (c6_strength l_ st (by omega)) rfl (va_cwS 1 hz.2.2.2.2 gX6_deaf_X6_strength rfl rfl rfl (by decide +kernel) ⟨Nat.le_of_ble_eq_true rfl, Nat.le_of_ble_eq_true rfl⟩) rfl hl.1 rfl (Nat.le_of_ble_eq_true rfl) dX6_deaf_22 ⟨Nat.zero_le _, Nat.zero_le _⟩ ?_
        refine rdV (A := wA (mw b k I J G)) (As := [.int (nI p), .int (nI w), .int (nI (sStr st))]) (rest := [.int (nI (fb_ct (fun z_ => !sHears (G 0) z_ w (sStr st)) p))]) hz okYT (c6_hears l_ D k b I J G p w (sStr st) hf (by omega) (by omega) (by omega) (by omega)) (cwV 3 hz.2.2.2.2 gX6_deaf_X6_hears rfl rfl rfl (by decide +kernel) ⟨Nat.le_of_ble_eq_true rfl, Nat.le_of_ble_eq_true rfl⟩) hK trivial hP hD hS 0 6 rfl rfl rfl rfl hl.1 rfl (Nat.le_of_ble_eq_true rfl) dX6_deaf_25 ⟨Nat.zero_le _, Nat.zero_le _⟩ ?_
        refine zeq (tgt := 35) hz dX6_deaf_28 (by decide) (fun c_28 => ?_) (fun c_28 => ?_)
        · refine lv_iconst (v := nI 1) hz.1 hz.2.1 dX6_deaf_35 (by decide) ?_
          refine lv_iadd hz.1 hz.2.1 dX6_deaf_36 ?_
          refine toe (z := nI (fb_ct (fun z_ => !sHears (G 0) z_ w (sStr st)) (p + 1))) (by rw [nI_add, fb_ct_succ]; simp [c_12, c_28]) ?_
          refine lv_istore (lv' := [(4, .int (nI (fb_ct (fun z_ => !sHears (G 0) z_ w (sStr st)) (p + 1)))), (0, .ref (b 0)), (1, .int (nI kk)), (2, .int (nI w)), (3, .int (nI st)), (5, .int (nI p))]) hz.1 hz.2.1 dX6_deaf_37 hl (by decide) rfl (fun ls hl => ?_)
          refine lv_iinc (v := nI (p + 1)) (lv' := [(5, .int (nI (p + 1))), (4, .int (nI (fb_ct (fun z_ => !sHears (G 0) z_ w (sStr st)) (p + 1)))), (0, .ref (b 0)), (1, .int (nI kk)), (2, .int (nI w)), (3, .int (nI st))]) hz.1 hz.2.1 dX6_deaf_39 hl (k := 5) rfl (nI_add _ 1) (by decide) rfl (fun ls hl => ?_)
          refine lv_goto (tgt := 6) hz.1 hz.2.1 dX6_deaf_42 (by decide) ?_
          exact ih6 (p + 1) (by omega) (by omega) ls (lv_sub hl [2, 3, 4, 5, 1, 0] rfl)
        · refine lv_iconst (v := nI 0) hz.1 hz.2.1 dX6_deaf_31 (by decide) ?_
          refine lv_goto (tgt := 36) hz.1 hz.2.1 dX6_deaf_32 (by decide) ?_
          refine lv_iadd hz.1 hz.2.1 dX6_deaf_36 ?_
          refine toe (z := nI (fb_ct (fun z_ => !sHears (G 0) z_ w (sStr st)) (p + 1))) (by rw [nI_add, fb_ct_succ]; simp [c_12, c_28]) ?_
          refine lv_istore (lv' := [(4, .int (nI (fb_ct (fun z_ => !sHears (G 0) z_ w (sStr st)) (p + 1)))), (0, .ref (b 0)), (1, .int (nI kk)), (2, .int (nI w)), (3, .int (nI st)), (5, .int (nI p))]) hz.1 hz.2.1 dX6_deaf_37 hl (by decide) rfl (fun ls hl => ?_)
          refine lv_iinc (v := nI (p + 1)) (lv' := [(5, .int (nI (p + 1))), (4, .int (nI (fb_ct (fun z_ => !sHears (G 0) z_ w (sStr st)) (p + 1)))), (0, .ref (b 0)), (1, .int (nI kk)), (2, .int (nI w)), (3, .int (nI st))]) hz.1 hz.2.1 dX6_deaf_39 hl (k := 5) rfl (nI_add _ 1) (by decide) rfl (fun ls hl => ?_)
          refine lv_goto (tgt := 6) hz.1 hz.2.1 dX6_deaf_42 (by decide) ?_
          exact ih6 (p + 1) (by omega) (by omega) ls (lv_sub hl [2, 3, 4, 5, 1, 0] rfl)
  exact lp_6 _ 0 (by omega) (Nat.lt_succ_self _) ls (lv_sub hl [2, 3, 4, 5, 1, 0] rfl)

theorem hinX6_tell : ∀ w ∈ wsX60, w ∈ wsX6_tell := fun _ h => List.mem_cons_of_mem _ (List.mem_append_right _ h)
set_option maxHeartbeats 4000000 in
set_option maxRecDepth 100000 in
theorem c6_tell (l_ : Launch) (D : va_G) (k : Nat → ClassId) (b I J : Nat → Nat) (G : Nat → Nat → Nat) (ov un : Nat) (h1 : ov < 1000000) (h2 : 0 < un) (h3 : un < 1000000) : Met l_ yX6_tell wsX6_tell ({ frames := 0, cells := 0, slots := 0, locals := 0 }) (va_Pc [.ref (b 0), .long (lN ov), .long (lN un)] (wH YT D k (mw b k I J G))) (va_Qi (fun (r : Int32) (u : Unit) => r = nI 1) (fun (u : Unit) (t_ : State) => va_P D vwCl ((fun (_ : Unit) => mw b k I (nset (nset J 0 (ov / Nat.gcd ov un)) 1 (un / Nat.gcd ov un)) G) u) t_.heap) (wA (mw b k I J G))) 0 0 (wA (mw b k I J G)) := by
  refine my_entry (cc := cX6_tell) (maxL := 11) (ret := some .int) (by decide) rfl (Nat.le_of_ble_eq_true rfl) ?_
  intro p_ e_ s_ m_ bl_ me_ c_ hz hr hlk hB ls hl
  obtain ⟨hP, hK, hD0, -⟩ := hB
  have hD := wA.self hD0
  have hS : va_S (wA (mw b k I J G)) s_.heap s_.heap [] := va_S.rf
  have hl : lv_has ls 11 [(0, .ref (b 0)), (1, .long (lN ov)), (3, .long (lN un))] := hl
  refine lv_lload_n hz.1 hz.2.1 dX6_tell_0 rfl (lv_at hl 1 rfl) ?_
  refine lv_lstore (lv' := [(5, .long (lN ov)), (0, .ref (b 0)), (1, .long (lN ov)), (3, .long (lN un))]) hz.1 hz.2.1 dX6_tell_1 hl (by decide) rfl (fun ls hl => ?_)
  refine lv_lload_n hz.1 hz.2.1 dX6_tell_3 rfl (lv_at hl 3 rfl) ?_
  refine lv_lstore (lv' := [(7, .long (lN un)), (5, .long (lN ov)), (0, .ref (b 0)), (1, .long (lN ov)), (3, .long (lN un))]) hz.1 hz.2.1 dX6_tell_4 hl (by decide) rfl (fun ls hl => ?_)
  have lp_6 : ∀ (fu : Nat) (a : Nat) (c : Nat), (Nat.gcd a c = Nat.gcd ov un) → (a < 1000000) → (c < 1000000) → c < fu → ∀ ls : Array Slot, lv_has ls 11 [(0, .ref (b 0)), (1, .long (lN ov)), (3, .long (lN un)), (5, .long (lN a)), (7, .long (lN c))] → W p_ l_ e_ ({ frames := 0, cells := 0, slots := 0, locals := 0 }) s_ m_ [.ref (b 0), .long (lN ov), .long (lN un)].toArray bl_ me_ c_ s_.heap [] 0 0 (MQ bl_ (va_Qi (fun (r : Int32) (u : Unit) => r = nI 1) (fun (u : Unit) (t_ : State) => va_P D vwCl ((fun (_ : Unit) => mw b k I (nset (nset J 0 (ov / Nat.gcd ov un)) 1 (un / Nat.gcd ov un)) G) u) t_.heap) (wA (mw b k I J G))) [.ref (b 0), .long (lN ov), .long (lN un)].toArray s_ 0 0 (wA (mw b k I J G))) (F0 m_ 6 ls []) := by
    intro fu
    induction fu with
    | zero => intro a c hg ha hc hm; exact absurd hm (Nat.not_lt_zero _)
    | succ fu ih6 =>
      intro a c hg ha hc hm ls hl
      refine lv_lload hz.1 hz.2.1 dX6_tell_6 (lv_at hl 4 rfl) ?_
      refine lv_lconst (v := lN 0) hz.1 hz.2.1 dX6_tell_8 (by decide) ?_
      refine W.lcmp hz.1 hz.2.1 dX6_tell_9 ?_
      refine lceq (tgt := 31) hz dX6_tell_10 (by decide) (by omega) (by omega) (fun c_10 => ?_) (fun c_10 => ?_)
      · subst c_10
        rw [Nat.gcd_zero_right] at hg
        subst hg
        have hpos : 0 < Nat.gcd ov un := Nat.gcd_pos_of_pos_right _ h2
        refine lv_aload_n hz.1 hz.2.1 dX6_tell_31 rfl (lv_at hl 0 rfl) ?_
        refine lv_lload_n hz.1 hz.2.1 dX6_tell_32 rfl (lv_at hl 1 rfl) ?_
        refine lv_lload hz.1 hz.2.1 dX6_tell_33 (lv_at hl 3 rfl) ?_
        refine lv_ldiv hz.1 hz.2.1 dX6_tell_35 (lN_ne0 (by omega) (by omega)) ?_
        refine toeL (z := lN (ov / (Nat.gcd ov un))) (pk_lDiv (by omega) (by omega) (by omega)) ?_
        refine rput (v := .long (lN (ov / (Nat.gcd ov un)))) (ty := .long) hz hinX6_tell tyX6 tyX6_ok nmX6 hK hP hD hS 0 rfl rfl 4 (by decide) (List.mem_of_getElem? (i := 1) rfl) rfl rfl (by decide +kernel) rfl rfl (Nat.le_of_ble_eq_true rfl) dX6_tell_36 (fun H locs hP hS => ?_)
        have hP : va_P D vwCl (mw b k I (nset J 0 (ov / (Nat.gcd ov un))) G) H := hP
        have hD := mw_D (I' := I) (J' := nset J 0 (ov / (Nat.gcd ov un))) (G' := G) hD
        refine lv_aload_n hz.1 hz.2.1 dX6_tell_39 rfl (lv_at hl 0 rfl) ?_
        refine lv_lload_n hz.1 hz.2.1 dX6_tell_40 rfl (lv_at hl 2 rfl) ?_
        refine lv_lload hz.1 hz.2.1 dX6_tell_41 (lv_at hl 3 rfl) ?_
        refine lv_ldiv hz.1 hz.2.1 dX6_tell_43 (lN_ne0 (by omega) (by omega)) ?_
        refine toeL (z := lN (un / (Nat.gcd ov un))) (pk_lDiv (by omega) (by omega) (by omega)) ?_
        refine rput (v := .long (lN (un / (Nat.gcd ov un)))) (ty := .long) hz hinX6_tell tyX6 tyX6_ok nmX6 hK hP hD hS 0 rfl rfl 5 (by decide) (List.mem_of_getElem? (i := 2) rfl) rfl rfl (by decide +kernel) rfl rfl (Nat.le_of_ble_eq_true rfl) dX6_tell_44 (fun H locs hP hS => ?_)
        have hP : va_P D vwCl (mw b k I (nset (nset J 0 (ov / (Nat.gcd ov un))) 1 (un / (Nat.gcd ov un))) G) H := hP
        have hD := mw_D (I' := I) (J' := nset (nset J 0 (ov / (Nat.gcd ov un))) 1 (un / (Nat.gcd ov un))) (G' := G) hD
        refine lv_iconst (v := nI 1) hz.1 hz.2.1 dX6_tell_47 (by decide) ?_
        exact wr_iret hz hr hlk dX6_tell_48 hS (()) hP (rfl)
      · have hm2 := Nat.mod_lt a (Nat.pos_of_ne_zero c_10)
        refine lv_lload hz.1 hz.2.1 dX6_tell_13 (lv_at hl 3 rfl) ?_
        refine lv_lload hz.1 hz.2.1 dX6_tell_15 (lv_at hl 4 rfl) ?_
        refine lv_lrem hz.1 hz.2.1 dX6_tell_17 (lN_ne0 (by omega) (by omega)) ?_
        refine toeL (z := lN (a % c)) (pk_lRem (by omega) (by omega) (by omega)) ?_
        refine lv_lstore (lv' := [(9, .long (lN (a % c))), (0, .ref (b 0)), (1, .long (lN ov)), (3, .long (lN un)), (5, .long (lN a)), (7, .long (lN c))]) hz.1 hz.2.1 dX6_tell_18 hl (by decide) rfl (fun ls hl => ?_)
        refine lv_lload hz.1 hz.2.1 dX6_tell_20 (lv_at hl 5 rfl) ?_
        refine lv_lstore (lv' := [(5, .long (lN c)), (9, .long (lN (a % c))), (0, .ref (b 0)), (1, .long (lN ov)), (3, .long (lN un)), (7, .long (lN c))]) hz.1 hz.2.1 dX6_tell_22 hl (by decide) rfl (fun ls hl => ?_)
        refine lv_lload hz.1 hz.2.1 dX6_tell_24 (lv_at hl 1 rfl) ?_
        refine lv_lstore (lv' := [(7, .long (lN (a % c))), (5, .long (lN c)), (9, .long (lN (a % c))), (0, .ref (b 0)), (1, .long (lN ov)), (3, .long (lN un))]) hz.1 hz.2.1 dX6_tell_26 hl (by decide) rfl (fun ls hl => ?_)
        refine lv_goto (tgt := 6) hz.1 hz.2.1 dX6_tell_28 (by decide) ?_
        exact ih6 c (a % c) (gcd_step.trans hg) (hc) (by omega) (by omega) ls (lv_sub hl [3, 4, 5, 1, 0] rfl)
  exact lp_6 _ ov un (rfl) (h1) (h3) (Nat.lt_succ_self _) ls (lv_sub hl [2, 3, 4, 1, 0] rfl)
