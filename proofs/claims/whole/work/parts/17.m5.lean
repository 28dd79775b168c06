theorem hinX6_lot : ∀ w ∈ wsX60, w ∈ wsX6_lot := fun _ h => List.mem_cons_of_mem _ (List.mem_append_right _ h)
set_option maxHeartbeats 4000000 in
set_option maxRecDepth 100000 in
theorem c6_lot_bad (l_ : Launch) (D : va_G) (k : Nat → ClassId) (b I J : Nat → Nat) (G : Nat → Nat → Nat) (x1 x2 x3 : Int32) (hf : Wf (G 0)) (hb : (wIn x1 1 (G 0 0) && wIn x2 0 (G 0 0 - 1 - 1) && wIn x3 0 3) = false) : Met l_ yX6_lot wsX6_lot ({ frames := 2, cells := 0, slots := 0, locals := 46 }) (va_Pc [.ref (b 0), .int x1, .int x2, .int x3] (wH YT D k (mw b k I J G))) (va_Qi (fun (r : Int32) (u : Unit) => r = -2) (fun (u : Unit) (t_ : State) => va_P D vwCl ((fun (_ : Unit) => mw b k I J (gset G 3 (sRef (G 3) 0))) u) t_.heap) (wA (mw b k I J G))) 0 0 (wA (mw b k I J G)) := by
  refine my_entry (cc := cX6_lot) (maxL := 4) (ret := some .int) (by decide) rfl (Nat.le_of_ble_eq_true rfl) ?_
  intro p_ e_ s_ m_ bl_ me_ c_ hz hr hlk hB ls hl
  obtain ⟨hP, hK, hD0, -⟩ := hB
  have hD := wA.self hD0
  have hS : va_S (wA (mw b k I J G)) s_.heap s_.heap [] := va_S.rf
  have hl : lv_has ls 4 [(0, .ref (b 0)), (1, .int x1), (2, .int x2), (3, .int x3)] := hl
  have f0 := hf.n2
  have f1 := hf.n9
  have f2 := hf.fr
  have f3 := hf.gd
  refine lv_iload_n hz.1 hz.2.1 dX6_lot_0 rfl (lv_at hl 1 rfl) ?_
  refine lv_i2l (v := x1.toInt64) hz.1 hz.2.1 dX6_lot_1 (rfl) ?_
  refine lv_lconst (v := lN 1) hz.1 hz.2.1 dX6_lot_2 (by decide) ?_
  refine lv_aload_n hz.1 hz.2.1 dX6_lot_3 rfl (lv_at hl 0 rfl) ?_
  refine rdV (A := wA (mw b k I J G)) (As := []) (rest := [.long (lN 1), .long x1.toInt64]) hz okYT (c6_line l_ D k b I J G  ) (cwV 0 hz.2.2.2.2 gX6_lot_X6_line rfl rfl rfl (by decide +kernel) ⟨Nat.le_of_ble_eq_true rfl, Nat.le_of_ble_eq_true rfl⟩) hK trivial hP hD hS 0 6 rfl rfl rfl rfl hl.1 rfl (Nat.le_of_ble_eq_true rfl) dX6_lot_4 ⟨Nat.zero_le _, Nat.zero_le _⟩ ?_
  refine lv_i2l (v := lN ((G 0) 0)) hz.1 hz.2.1 dX6_lot_7 (nI_l (by omega)) ?_
  refine rdS (As := [.long x1.toInt64, .long (lN 1), .long (lN ((G 0) 0))]) (rest := []) hz (c6_in l_ x1 1 ((G 0) 0) (by omega) (by omega)) rfl (va_cwS 3 hz.2.2.2.2 gX6_lot_X6_in rfl rfl rfl (by decide +kernel) ⟨Nat.le_of_ble_eq_true rfl, Nat.le_of_ble_eq_true rfl⟩) rfl hl.1 rfl (Nat.le_of_ble_eq_true rfl) dX6_lot_8 ⟨Nat.zero_le _, Nat.zero_le _⟩ ?_
  refine zeq (tgt := 29) hz dX6_lot_11 (by decide) (fun c_11 => ?_) (fun c_11 => ?_)
  · refine lv_aload_n hz.1 hz.2.1 dX6_lot_29 rfl (lv_at hl 0 rfl) ?_
    refine lv_bipush (v := (-2)) hz.1 hz.2.1 dX6_lot_30 (by decide) ?_
    refine wrV (A := wA (mw b k I J G)) (As := [.int (-2)]) (rest := []) hz okYT (c6_bad l_ D k b I J G (-2) ) (cwV 1 hz.2.2.2.2 gX6_lot_X6_bad rfl rfl rfl (by decide +kernel) ⟨Nat.le_of_ble_eq_true rfl, Nat.le_of_ble_eq_true rfl⟩) hK trivial hP hD hS 0 6 rfl rfl rfl rfl hl.1 rfl (Nat.le_of_ble_eq_true rfl) dX6_lot_32 ⟨Nat.zero_le _, Nat.zero_le _⟩ (fun r u H locs hp hP hS _ => ?_)
    obtain rfl : r = -2 := hp
    have hP : va_P D vwCl (mw b k I J (gset G 3 (sRef (G 3) 0))) H := hP
    have hD := mw_D (I' := I) (J' := J) (G' := gset G 3 (sRef (G 3) 0)) hD
    exact wr_iret hz hr hlk dX6_lot_35 hS (()) hP (rfl)
  · refine lv_aload_n hz.1 hz.2.1 dX6_lot_14 rfl (lv_at hl 0 rfl) ?_
    refine lv_iload_n hz.1 hz.2.1 dX6_lot_15 rfl (lv_at hl 2 rfl) ?_
    refine rdV (A := wA (mw b k I J G)) (As := [.int x2]) (rest := []) hz okYT (c6_isWire l_ D k b I J G x2 hf) (cwV 1 hz.2.2.2.2 gX6_lot_X6_isWire rfl rfl rfl (by decide +kernel) ⟨Nat.le_of_ble_eq_true rfl, Nat.le_of_ble_eq_true rfl⟩) hK trivial hP hD hS 0 6 rfl rfl rfl rfl hl.1 rfl (Nat.le_of_ble_eq_true rfl) dX6_lot_16 ⟨Nat.zero_le _, Nat.zero_le _⟩ ?_
    refine zeq (tgt := 29) hz dX6_lot_19 (by decide) (fun c_19 => ?_) (fun c_19 => ?_)
    · refine lv_aload_n hz.1 hz.2.1 dX6_lot_29 rfl (lv_at hl 0 rfl) ?_
      refine lv_bipush (v := (-2)) hz.1 hz.2.1 dX6_lot_30 (by decide) ?_
      refine wrV (A := wA (mw b k I J G)) (As := [.int (-2)]) (rest := []) hz okYT (c6_bad l_ D k b I J G (-2) ) (cwV 1 hz.2.2.2.2 gX6_lot_X6_bad rfl rfl rfl (by decide +kernel) ⟨Nat.le_of_ble_eq_true rfl, Nat.le_of_ble_eq_true rfl⟩) hK trivial hP hD hS 0 6 rfl rfl rfl rfl hl.1 rfl (Nat.le_of_ble_eq_true rfl) dX6_lot_32 ⟨Nat.zero_le _, Nat.zero_le _⟩ (fun r u H locs hp hP hS _ => ?_)
      obtain rfl : r = -2 := hp
      have hP : va_P D vwCl (mw b k I J (gset G 3 (sRef (G 3) 0))) H := hP
      have hD := mw_D (I' := I) (J' := J) (G' := gset G 3 (sRef (G 3) 0)) hD
      exact wr_iret hz hr hlk dX6_lot_35 hS (()) hP (rfl)
    · refine lv_iload_n hz.1 hz.2.1 dX6_lot_22 rfl (lv_at hl 3 rfl) ?_
      refine rdS (As := [.int x3]) (rest := []) hz (c6_isStep l_ x3 ) rfl (va_cwS 1 hz.2.2.2.2 gX6_lot_X6_isStep rfl rfl rfl (by decide +kernel) ⟨Nat.le_of_ble_eq_true rfl, Nat.le_of_ble_eq_true rfl⟩) rfl hl.1 rfl (Nat.le_of_ble_eq_true rfl) dX6_lot_23 ⟨Nat.zero_le _, Nat.zero_le _⟩ ?_
      refine zne (tgt := 36) hz dX6_lot_26 (by decide) (fun c_26 => ?_) (fun c_26 => ?_)
      · simp [c_11, c_19, c_26] at hb
      · refine lv_aload_n hz.1 hz.2.1 dX6_lot_29 rfl (lv_at hl 0 rfl) ?_
        refine lv_bipush (v := (-2)) hz.1 hz.2.1 dX6_lot_30 (by decide) ?_
        refine wrV (A := wA (mw b k I J G)) (As := [.int (-2)]) (rest := []) hz okYT (c6_bad l_ D k b I J G (-2) ) (cwV 1 hz.2.2.2.2 gX6_lot_X6_bad rfl rfl rfl (by decide +kernel) ⟨Nat.le_of_ble_eq_true rfl, Nat.le_of_ble_eq_true rfl⟩) hK trivial hP hD hS 0 6 rfl rfl rfl rfl hl.1 rfl (Nat.le_of_ble_eq_true rfl) dX6_lot_32 ⟨Nat.zero_le _, Nat.zero_le _⟩ (fun r u H locs hp hP hS _ => ?_)
        obtain rfl : r = -2 := hp
        have hP : va_P D vwCl (mw b k I J (gset G 3 (sRef (G 3) 0))) H := hP
        have hD := mw_D (I' := I) (J' := J) (G' := gset G 3 (sRef (G 3) 0)) hD
        exact wr_iret hz hr hlk dX6_lot_35 hS (()) hP (rfl)

set_option maxHeartbeats 4000000 in
set_option maxRecDepth 100000 in
theorem c6_lot_ok (l_ : Launch) (D : va_G) (k : Nat → ClassId) (b I J : Nat → Nat) (G : Nat → Nat → Nat) (kk w st : Nat) (hf : Wf (G 0)) (h1 : 1 ≤ kk) (h2 : kk ≤ G 0 0) (h3 : w < G 0 0 - 1) (h4 : st ≤ 3) : Met l_ yX6_lot wsX6_lot ({ frames := 3, cells := 0, slots := 0, locals := 70 }) (va_Pc [.ref (b 0), .int (nI kk), .int (nI w), .int (nI st)] (wH YT D k (mw b k I J G))) (va_Qi (fun (r : Int32) (u : Unit) => r = nI 1) (fun (u : Unit) (t_ : State) => va_P D vwCl ((fun (_ : Unit) => mw b k I (nset (nset J 0 ((sCh (sDfN (G 0) w st) kk) / Nat.gcd (sCh (sDfN (G 0) w st) kk) (sCh (G 0 0) kk))) 1 ((sCh (G 0 0) kk) / Nat.gcd (sCh (sDfN (G 0) w st) kk) (sCh (G 0 0) kk))) G) u) t_.heap) (wA (mw b k I J G))) 0 0 (wA (mw b k I J G)) := by
  refine my_entry (cc := cX6_lot) (maxL := 4) (ret := some .int) (by decide) rfl (Nat.le_of_ble_eq_true rfl) ?_
  intro p_ e_ s_ m_ bl_ me_ c_ hz hr hlk hB ls hl
  obtain ⟨hP, hK, hD0, -⟩ := hB
  have hD := wA.self hD0
  have hS : va_S (wA (mw b k I J G)) s_.heap s_.heap [] := va_S.rf
  have hl : lv_has ls 4 [(0, .ref (b 0)), (1, .int (nI kk)), (2, .int (nI w)), (3, .int (nI st))] := hl
  have f0 := hf.n2
  have f1 := hf.n9
  have f2 := hf.fr
  have f3 := hf.gd
  have d1 := sCh_lt (sDfN (G 0) w st) (sDfN_lt hf w st) kk (by omega)
  have d2 := sCh_pos (G 0 0) (by omega) kk h2
  refine lv_iload_n hz.1 hz.2.1 dX6_lot_0 rfl (lv_at hl 1 rfl) ?_
  refine lv_i2l (v := (nI kk).toInt64) hz.1 hz.2.1 dX6_lot_1 (rfl) ?_
  refine lv_lconst (v := lN 1) hz.1 hz.2.1 dX6_lot_2 (by decide) ?_
  refine lv_aload_n hz.1 hz.2.1 dX6_lot_3 rfl (lv_at hl 0 rfl) ?_
  refine rdV (A := wA (mw b k I J G)) (As := []) (rest := [.long (lN 1), .long ((nI kk).toInt64)]) hz okYT (c6_line l_ D k b I J G  ) (cwV 0 hz.2.2.2.2 gX6_lot_X6_line rfl rfl rfl (by decide +kernel) ⟨Nat.le_of_ble_eq_true rfl, Nat.le_of_ble_eq_true rfl⟩) hK trivial hP hD hS 0 6 rfl rfl rfl rfl hl.1 rfl (Nat.le_of_ble_eq_true rfl) dX6_lot_4 ⟨Nat.zero_le _, Nat.zero_le _⟩ ?_
  refine lv_i2l (v := lN ((G 0) 0)) hz.1 hz.2.1 dX6_lot_7 (nI_l (by omega)) ?_
  refine rdS (As := [.long ((nI kk).toInt64), .long (lN 1), .long (lN ((G 0) 0))]) (rest := []) hz (c6_in l_ (nI kk) 1 ((G 0) 0) (by omega) (by omega)) rfl (va_cwS 3 hz.2.2.2.2 gX6_lot_X6_in rfl rfl rfl (by decide +kernel) ⟨Nat.le_of_ble_eq_true rfl, Nat.le_of_ble_eq_true rfl⟩) rfl hl.1 rfl (Nat.le_of_ble_eq_true rfl) dX6_lot_8 ⟨Nat.zero_le _, Nat.zero_le _⟩ ?_
  refine zeq (tgt := 29) hz dX6_lot_11 (by decide) (fun c_11 => ?_) (fun c_11 => ?_)
  · exact absurd ((wIn_ok (by omega) (by omega) (by omega)).symm.trans c_11) (by decide)
  · refine lv_aload_n hz.1 hz.2.1 dX6_lot_14 rfl (lv_at hl 0 rfl) ?_
    refine lv_iload_n hz.1 hz.2.1 dX6_lot_15 rfl (lv_at hl 2 rfl) ?_
    refine rdV (A := wA (mw b k I J G)) (As := [.int (nI w)]) (rest := []) hz okYT (c6_isWire l_ D k b I J G (nI w) hf) (cwV 1 hz.2.2.2.2 gX6_lot_X6_isWire rfl rfl rfl (by decide +kernel) ⟨Nat.le_of_ble_eq_true rfl, Nat.le_of_ble_eq_true rfl⟩) hK trivial hP hD hS 0 6 rfl rfl rfl rfl hl.1 rfl (Nat.le_of_ble_eq_true rfl) dX6_lot_16 ⟨Nat.zero_le _, Nat.zero_le _⟩ ?_
    refine zeq (tgt := 29) hz dX6_lot_19 (by decide) (fun c_19 => ?_) (fun c_19 => ?_)
    · exact absurd ((wIn_ok (by omega) (by omega) (by omega)).symm.trans c_19) (by decide)
    · refine lv_iload_n hz.1 hz.2.1 dX6_lot_22 rfl (lv_at hl 3 rfl) ?_
      refine rdS (As := [.int (nI st)]) (rest := []) hz (c6_isStep l_ (nI st) ) rfl (va_cwS 1 hz.2.2.2.2 gX6_lot_X6_isStep rfl rfl rfl (by decide +kernel) ⟨Nat.le_of_ble_eq_true rfl, Nat.le_of_ble_eq_true rfl⟩) rfl hl.1 rfl (Nat.le_of_ble_eq_true rfl) dX6_lot_23 ⟨Nat.zero_le _, Nat.zero_le _⟩ ?_
      refine zne (tgt := 36) hz dX6_lot_26 (by decide) (fun c_26 => ?_) (fun c_26 => ?_)
      · refine lv_aload_n hz.1 hz.2.1 dX6_lot_36 rfl (lv_at hl 0 rfl) ?_
        refine lv_aload_n hz.1 hz.2.1 dX6_lot_37 rfl (lv_at hl 0 rfl) ?_
        refine lv_iload_n hz.1 hz.2.1 dX6_lot_38 rfl (lv_at hl 1 rfl) ?_
        refine lv_iload_n hz.1 hz.2.1 dX6_lot_39 rfl (lv_at hl 2 rfl) ?_
        refine lv_iload_n hz.1 hz.2.1 dX6_lot_40 rfl (lv_at hl 3 rfl) ?_
        refine rdVl (A := wA (mw b k I J G)) (As := [.int (nI kk), .int (nI w), .int (nI st)]) (rest := [.ref (b 0)]) hz okYT (c6_deaf l_ D k b I J G kk w st hf (by omega) (by omega) (by omega)) (cwV 3 hz.2.2.2.2 gX6_lot_X6_deaf rfl rfl rfl (by decide +kernel) ⟨Nat.le_of_ble_eq_true rfl, Nat.le_of_ble_eq_true rfl⟩) hK trivial hP hD hS 0 6 rfl rfl rfl rfl hl.1 rfl (Nat.le_of_ble_eq_true rfl) dX6_lot_41 ⟨Nat.zero_le _, Nat.zero_le _⟩ ?_
        refine lv_aload_n hz.1 hz.2.1 dX6_lot_44 rfl (lv_at hl 0 rfl) ?_
        refine rdV (A := wA (mw b k I J G)) (As := []) (rest := [.long (lN (sCh (sDfN (G 0) w st) kk)), .ref (b 0)]) hz okYT (c6_line l_ D k b I J G  ) (cwV 0 hz.2.2.2.2 gX6_lot_X6_line rfl rfl rfl (by decide +kernel) ⟨Nat.le_of_ble_eq_true rfl, Nat.le_of_ble_eq_true rfl⟩) hK trivial hP hD hS 0 6 rfl rfl rfl rfl hl.1 rfl (Nat.le_of_ble_eq_true rfl) dX6_lot_45 ⟨Nat.zero_le _, Nat.zero_le _⟩ ?_
        refine lv_iload_n hz.1 hz.2.1 dX6_lot_48 rfl (lv_at hl 1 rfl) ?_
        refine rdSl (As := [.int (nI ((G 0) 0)), .int (nI kk)]) (rest := [.long (lN (sCh (sDfN (G 0) w st) kk)), .ref (b 0)]) hz (c6_choose l_ ((G 0) 0) kk (by omega) (by omega)) rfl (va_cwS 2 hz.2.2.2.2 gX6_lot_X6_choose rfl rfl rfl (by decide +kernel) ⟨Nat.le_of_ble_eq_true rfl, Nat.le_of_ble_eq_true rfl⟩) rfl hl.1 rfl (Nat.le_of_ble_eq_true rfl) dX6_lot_49 ⟨Nat.zero_le _, Nat.zero_le _⟩ ?_
        refine wrV (A := wA (mw b k I J G)) (As := [.long (lN (sCh (sDfN (G 0) w st) kk)), .long (lN (sCh ((G 0) 0) kk))]) (rest := []) hz okYT (c6_tell l_ D k b I J G (sCh (sDfN (G 0) w st) kk) (sCh ((G 0) 0) kk) (by omega) (by omega) (by omega)) (cwV 2 hz.2.2.2.2 gX6_lot_X6_tell rfl rfl rfl (by decide +kernel) ⟨Nat.le_of_ble_eq_true rfl, Nat.le_of_ble_eq_true rfl⟩) hK trivial hP hD hS 0 6 rfl rfl rfl rfl hl.1 rfl (Nat.le_of_ble_eq_true rfl) dX6_lot_52 ⟨Nat.zero_le _, Nat.zero_le _⟩ (fun r u H locs hp hP hS _ => ?_)
        obtain rfl : r = nI 1 := hp
        have hP : va_P D vwCl (mw b k I (nset (nset J 0 ((sCh (sDfN (G 0) w st) kk) / Nat.gcd (sCh (sDfN (G 0) w st) kk) (sCh ((G 0) 0) kk))) 1 ((sCh ((G 0) 0) kk) / Nat.gcd (sCh (sDfN (G 0) w st) kk) (sCh ((G 0) 0) kk))) G) H := hP
        have hD := mw_D (I' := I) (J' := nset (nset J 0 ((sCh (sDfN (G 0) w st) kk) / Nat.gcd (sCh (sDfN (G 0) w st) kk) (sCh ((G 0) 0) kk))) 1 ((sCh ((G 0) 0) kk) / Nat.gcd (sCh (sDfN (G 0) w st) kk) (sCh ((G 0) 0) kk))) (G' := G) hD
        exact wr_iret hz hr hlk dX6_lot_55 hS (()) hP (rfl)
      · exact absurd ((wIn_ok (by omega) (by omega) (by omega)).symm.trans c_26) (by decide)

theorem hinX6_surest : ∀ w ∈ wsX60, w ∈ wsX6_surest := fun _ h => List.mem_cons_of_mem _ (List.mem_append_right _ h)
set_option maxHeartbeats 4000000 in
set_option maxRecDepth 100000 in
theorem c6_surest_bad (l_ : Launch) (D : va_G) (k : Nat → ClassId) (b I J : Nat → Nat) (G : Nat → Nat → Nat) (x1 x2 : Int32) (hf : Wf (G 0)) (hb : (wIn x1 1 (G 0 0) && wIn x2 0 3) = false) : Met l_ yX6_surest wsX6_surest ({ frames := 2, cells := 0, slots := 0, locals := 45 }) (va_Pc [.ref (b 0), .int x1, .int x2] (wH YT D k (mw b k I J G))) (va_Qi (fun (r : Int32) (u : Unit) => r = -2) (fun (u : Unit) (t_ : State) => va_P D vwCl ((fun (_ : Unit) => mw b k I J (gset G 3 (sRef (G 3) 0))) u) t_.heap) (wA (mw b k I J G))) 0 0 (wA (mw b k I J G)) := by
  refine my_entry (cc := cX6_surest) (maxL := 9) (ret := some .int) (by decide) rfl (Nat.le_of_ble_eq_true rfl) ?_
  intro p_ e_ s_ m_ bl_ me_ c_ hz hr hlk hB ls hl
  obtain ⟨hP, hK, hD0, -⟩ := hB
  have hD := wA.self hD0
  have hS : va_S (wA (mw b k I J G)) s_.heap s_.heap [] := va_S.rf
  have hl : lv_has ls 9 [(0, .ref (b 0)), (1, .int x1), (2, .int x2)] := hl
  have f0 := hf.n2
  have f1 := hf.n9
  have f2 := hf.fr
  have f3 := hf.gd
  refine lv_iload_n hz.1 hz.2.1 dX6_surest_0 rfl (lv_at hl 1 rfl) ?_
  refine lv_i2l (v := x1.toInt64) hz.1 hz.2.1 dX6_surest_1 (rfl) ?_
  refine lv_lconst (v := lN 1) hz.1 hz.2.1 dX6_surest_2 (by decide) ?_
  refine lv_aload_n hz.1 hz.2.1 dX6_surest_3 rfl (lv_at hl 0 rfl) ?_
  refine rdV (A := wA (mw b k I J G)) (As := []) (rest := [.long (lN 1), .long x1.toInt64]) hz okYT (c6_line l_ D k b I J G  ) (cwV 0 hz.2.2.2.2 gX6_surest_X6_line rfl rfl rfl (by decide +kernel) ⟨Nat.le_of_ble_eq_true rfl, Nat.le_of_ble_eq_true rfl⟩) hK trivial hP hD hS 0 6 rfl rfl rfl rfl hl.1 rfl (Nat.le_of_ble_eq_true rfl) dX6_surest_4 ⟨Nat.zero_le _, Nat.zero_le _⟩ ?_
  refine lv_i2l (v := lN ((G 0) 0)) hz.1 hz.2.1 dX6_surest_7 (nI_l (by omega)) ?_
  refine rdS (As := [.long x1.toInt64, .long (lN 1), .long (lN ((G 0) 0))]) (rest := []) hz (c6_in l_ x1 1 ((G 0) 0) (by omega) (by omega)) rfl (va_cwS 3 hz.2.2.2.2 gX6_surest_X6_in rfl rfl rfl (by decide +kernel) ⟨Nat.le_of_ble_eq_true rfl, Nat.le_of_ble_eq_true rfl⟩) rfl hl.1 rfl (Nat.le_of_ble_eq_true rfl) dX6_surest_8 ⟨Nat.zero_le _, Nat.zero_le _⟩ ?_
  refine zeq (tgt := 21) hz dX6_surest_11 (by decide) (fun c_11 => ?_) (fun c_11 => ?_)
  · refine lv_aload_n hz.1 hz.2.1 dX6_surest_21 rfl (lv_at hl 0 rfl) ?_
    refine lv_bipush (v := (-2)) hz.1 hz.2.1 dX6_surest_22 (by decide) ?_
    refine wrV (A := wA (mw b k I J G)) (As := [.int (-2)]) (rest := []) hz okYT (c6_bad l_ D k b I J G (-2) ) (cwV 1 hz.2.2.2.2 gX6_surest_X6_bad rfl rfl rfl (by decide +kernel) ⟨Nat.le_of_ble_eq_true rfl, Nat.le_of_ble_eq_true rfl⟩) hK trivial hP hD hS 0 6 rfl rfl rfl rfl hl.1 rfl (Nat.le_of_ble_eq_true rfl) dX6_surest_24 ⟨Nat.zero_le _, Nat.zero_le _⟩ (fun r u H locs hp hP hS _ => ?_)
    obtain rfl : r = -2 := hp
    have hP : va_P D vwCl (mw b k I J (gset G 3 (sRef (G 3) 0))) H := hP
    have hD := mw_D (I' := I) (J' := J) (G' := gset G 3 (sRef (G 3) 0)) hD
    exact wr_iret hz hr hlk dX6_surest_27 hS (()) hP (rfl)
  · refine lv_iload_n hz.1 hz.2.1 dX6_surest_14 rfl (lv_at hl 2 rfl) ?_
    refine rdS (As := [.int x2]) (rest := []) hz (c6_isStep l_ x2 ) rfl (va_cwS 1 hz.2.2.2.2 gX6_surest_X6_isStep rfl rfl rfl (by decide +kernel) ⟨Nat.le_of_ble_eq_true rfl, Nat.le_of_ble_eq_true rfl⟩) rfl hl.1 rfl (Nat.le_of_ble_eq_true rfl) dX6_surest_15 ⟨Nat.zero_le _, Nat.zero_le _⟩ ?_
    refine zne (tgt := 28) hz dX6_surest_18 (by decide) (fun c_18 => ?_) (fun c_18 => ?_)
    · simp [c_11, c_18] at hb
    · refine lv_aload_n hz.1 hz.2.1 dX6_surest_21 rfl (lv_at hl 0 rfl) ?_
      refine lv_bipush (v := (-2)) hz.1 hz.2.1 dX6_surest_22 (by decide) ?_
      refine wrV (A := wA (mw b k I J G)) (As := [.int (-2)]) (rest := []) hz okYT (c6_bad l_ D k b I J G (-2) ) (cwV 1 hz.2.2.2.2 gX6_surest_X6_bad rfl rfl rfl (by decide +kernel) ⟨Nat.le_of_ble_eq_true rfl, Nat.le_of_ble_eq_true rfl⟩) hK trivial hP hD hS 0 6 rfl rfl rfl rfl hl.1 rfl (Nat.le_of_ble_eq_true rfl) dX6_surest_24 ⟨Nat.zero_le _, Nat.zero_le _⟩ (fun r u H locs hp hP hS _ => ?_)
      obtain rfl : r = -2 := hp
      have hP : va_P D vwCl (mw b k I J (gset G 3 (sRef (G 3) 0))) H := hP
      have hD := mw_D (I' := I) (J' := J) (G' := gset G 3 (sRef (G 3) 0)) hD
      exact wr_iret hz hr hlk dX6_surest_27 hS (()) hP (rfl)

set_option maxHeartbeats 4000000 in
set_option maxRecDepth 100000 in
theorem c6_surest_none (l_ : Launch) (D : va_G) (k : Nat → ClassId) (b I J : Nat → Nat) (G : Nat → Nat → Nat) (kk stp : Nat) (hf : Wf (G 0)) (h1 : 1 ≤ kk) (h2 : kk ≤ G 0 0) (h4 : stp ≤ 3) (hb : (sSu (sSuF (G 0) kk stp) (G 0 0 - 1)).1 = none) : Met l_ yX6_surest wsX6_surest ({ frames := 3, cells := 0, slots := 0, locals := 70 }) (va_Pc [.ref (b 0), .int (nI kk), .int (nI stp)] (wH YT D k (mw b k I J G))) (QcRead (-1)) 0 0 (fun _ => False) := by
  refine my_entry (cc := cX6_surest) (maxL := 9) (ret := some .int) (by decide) rfl (Nat.le_of_ble_eq_true rfl) ?_
  intro p_ e_ s_ m_ bl_ me_ c_ hz hr hlk hB ls hl
  obtain ⟨hP, hK, hD0, -⟩ := hB
  have hD := wA.self hD0
  have hS : va_S (wA (mw b k I J G)) s_.heap s_.heap [] := va_S.rf
  have hl : lv_has ls 9 [(0, .ref (b 0)), (1, .int (nI kk)), (2, .int (nI stp))] := hl
  have f0 := hf.n2
  have f1 := hf.n9
  have f2 := hf.fr
  have f3 := hf.gd
  have d2 := sCh_pos (G 0 0) (by omega) kk h2
  refine lv_iload_n hz.1 hz.2.1 dX6_surest_0 rfl (lv_at hl 1 rfl) ?_
  refine lv_i2l (v := (nI kk).toInt64) hz.1 hz.2.1 dX6_surest_1 (rfl) ?_
  refine lv_lconst (v := lN 1) hz.1 hz.2.1 dX6_surest_2 (by decide) ?_
  refine lv_aload_n hz.1 hz.2.1 dX6_surest_3 rfl (lv_at hl 0 rfl) ?_
  refine rdV (A := wA (mw b k I J G)) (As := []) (rest := [.long (lN 1), .long ((nI kk).toInt64)]) hz okYT (c6_line l_ D k b I J G  ) (cwV 0 hz.2.2.2.2 gX6_surest_X6_line rfl rfl rfl (by decide +kernel) ⟨Nat.le_of_ble_eq_true rfl, Nat.le_of_ble_eq_true rfl⟩) hK trivial hP hD hS 0 6 rfl rfl rfl rfl hl.1 rfl (Nat.le_of_ble_eq_true rfl) dX6_surest_4 ⟨Nat.zero_le _, Nat.zero_le _⟩ ?_
  refine lv_i2l (v := lN ((G 0) 0)) hz.1 hz.2.1 dX6_surest_7 (nI_l (by omega)) ?_
  refine rdS (As := [.long ((nI kk).toInt64), .long (lN 1), .long (lN ((G 0) 0))]) (rest := []) hz (c6_in l_ (nI kk) 1 ((G 0) 0) (by omega) (by omega)) rfl (va_cwS 3 hz.2.2.2.2 gX6_surest_X6_in rfl rfl rfl (by decide +kernel) ⟨Nat.le_of_ble_eq_true rfl, Nat.le_of_ble_eq_true rfl⟩) rfl hl.1 rfl (Nat.le_of_ble_eq_true rfl) dX6_surest_8 ⟨Nat.zero_le _, Nat.zero_le _⟩ ?_
  refine zeq (tgt := 21) hz dX6_surest_11 (by decide) (fun c_11 => ?_) (fun c_11 => ?_)
  · exact absurd ((wIn_ok (by omega) (by omega) (by omega)).symm.trans c_11) (by decide)
  · refine lv_iload_n hz.1 hz.2.1 dX6_surest_14 rfl (lv_at hl 2 rfl) ?_
    refine rdS (As := [.int (nI stp)]) (rest := []) hz (c6_isStep l_ (nI stp) ) rfl (va_cwS 1 hz.2.2.2.2 gX6_surest_X6_isStep rfl rfl rfl (by decide +kernel) ⟨Nat.le_of_ble_eq_true rfl, Nat.le_of_ble_eq_true rfl⟩) rfl hl.1 rfl (Nat.le_of_ble_eq_true rfl) dX6_surest_15 ⟨Nat.zero_le _, Nat.zero_le _⟩ ?_
    refine zne (tgt := 28) hz dX6_surest_18 (by decide) (fun c_18 => ?_) (fun c_18 => ?_)
    · refine lv_iconst (v := (-1)) hz.1 hz.2.1 dX6_surest_28 (by decide) ?_
      refine toe (z := oI none) (rfl) ?_
      refine lv_istore_n (lv' := [(3, .int (oI none)), (0, .ref (b 0)), (1, .int (nI kk)), (2, .int (nI stp))]) hz.1 hz.2.1 dX6_surest_29 rfl hl (by decide) rfl (fun ls hl => ?_)
      refine lv_ldc2 (own := RX6) (v := -1) hz.1 hz.2.1 hz.2.2.2.1 (hz.2.2.2.2 (.constantLong RX6 196 (-1)) (List.mem_of_getElem? (i := 1) rfl)) dX6_surest_30 ?_
      refine toeL (z := oL none) (rfl) ?_
      refine lv_lstore (lv' := [(4, .long (oL none)), (3, .int (oI none)), (0, .ref (b 0)), (1, .int (nI kk)), (2, .int (nI stp))]) hz.1 hz.2.1 dX6_surest_33 hl (by decide) rfl (fun ls hl => ?_)
      refine lv_iconst (v := nI 0) hz.1 hz.2.1 dX6_surest_35 (by decide) ?_
      refine lv_istore (lv' := [(6, .int (nI 0)), (4, .long (oL none)), (3, .int (oI none)), (0, .ref (b 0)), (1, .int (nI kk)), (2, .int (nI stp))]) hz.1 hz.2.1 dX6_surest_36 hl (by decide) rfl (fun ls hl => ?_)
      have lp_38 : ∀ (fu : Nat) (w : Nat), (w ≤ G 0 0 - 1) → G 0 0 - 1 - w < fu → ∀ ls : Array Slot, lv_has ls 9 [(0, .ref (b 0)), (1, .int (nI kk)), (2, .int (nI stp)), (3, .int (oI ((sSu (sSuF (G 0) kk stp) w).1))), (4, .long (oL ((sSu (sSuF (G 0) kk stp) w).2))), (6, .int (nI w))] → W p_ l_ e_ ({ frames := 3, cells := 0, slots := 0, locals := 70 }) s_ m_ [.ref (b 0), .int (nI kk), .int (nI stp)].toArray bl_ me_ c_ s_.heap [] 0 0 (MQ bl_ (QcRead (-1)) [.ref (b 0), .int (nI kk), .int (nI stp)].toArray s_ 0 0 (fun _ => False)) (F0 m_ 38 ls []) := by
        intro fu
        induction fu with
        | zero => intro w hw hm; exact absurd hm (Nat.not_lt_zero _)
        | succ fu ih38 =>
          intro w hw hm ls hl
          refine lv_iload hz.1 hz.2.1 dX6_surest_38 (lv_at hl 5 rfl) ?_
          refine lv_aload_n hz.1 hz.2.1 dX6_surest_40 rfl (lv_at hl 0 rfl) ?_
          refine rdV (A := wA (mw b k I J G)) (As := []) (rest := [.int (nI w)]) hz okYT (c6_wires l_ D k b I J G  (by omega)) (cwV 0 hz.2.2.2.2 gX6_surest_X6_wires rfl rfl rfl (by decide +kernel) ⟨Nat.le_of_ble_eq_true rfl, Nat.le_of_ble_eq_true rfl⟩) hK trivial hP hD hS 0 6 rfl rfl rfl rfl hl.1 rfl (Nat.le_of_ble_eq_true rfl) dX6_surest_41 ⟨Nat.zero_le _, Nat.zero_le _⟩ ?_
          refine jge (tgt := 110) hz dX6_surest_44 (by decide) (by omega) (by omega) (fun c_44 => ?_) (fun c_44 => ?_)
          · obtain rfl : w = G 0 0 - 1 := by omega
            refine lv_iload_n hz.1 hz.2.1 dX6_surest_110 rfl (lv_at hl 3 rfl) ?_
            refine lv_iconst (v := (-1)) hz.1 hz.2.1 dX6_surest_111 (by decide) ?_
            refine lv_icmp_ne (tgt := 119) hz.1 hz.2.1 dX6_surest_112 (by decide) (fun c_112 => ?_) (fun c_112 => ?_)
            · exact absurd (show oI (sSu (sSuF (G 0) kk stp) (G 0 0 - 1)).1 = -1 by rw [hb]; rfl) c_112
            · refine lv_iconst (v := nI 0) hz.1 hz.2.1 dX6_surest_115 (by decide) ?_
              refine lv_goto (tgt := 133) hz.1 hz.2.1 dX6_surest_116 (by decide) ?_
              refine lv_istore (lv' := [(6, .int (nI 0)), (0, .ref (b 0)), (1, .int (nI kk)), (2, .int (nI stp)), (3, .int (oI ((sSu (sSuF (G 0) kk stp) (G 0 0 - 1)).1))), (4, .long (oL ((sSu (sSuF (G 0) kk stp) (G 0 0 - 1)).2)))]) hz.1 hz.2.1 dX6_surest_133 hl (by decide) rfl (fun ls hl => ?_)
              refine lv_iload_n hz.1 hz.2.1 dX6_surest_135 rfl (lv_at hl 4 rfl) ?_
              exact rd_iret hz hr hlk dX6_surest_136 (by rw [hb]; rfl)
          · refine lv_aload_n hz.1 hz.2.1 dX6_surest_47 rfl (lv_at hl 0 rfl) ?_
            refine lv_iload hz.1 hz.2.1 dX6_surest_48 (lv_at hl 5 rfl) ?_
            refine rdV (A := wA (mw b k I J G)) (As := [.int (nI w)]) (rest := []) hz okYT (c6_isCut l_ D k b I J G w hf (by omega)) (cwV 1 hz.2.2.2.2 gX6_surest_X6_isCut rfl rfl rfl (by decide +kernel) ⟨Nat.le_of_ble_eq_true rfl, Nat.le_of_ble_eq_true rfl⟩) hK trivial hP hD hS 0 6 rfl rfl rfl rfl hl.1 rfl (Nat.le_of_ble_eq_true rfl) dX6_surest_50 ⟨Nat.zero_le _, Nat.zero_le _⟩ ?_
            refine zeq (tgt := 62) hz dX6_surest_53 (by decide) (fun c_53 => ?_) (fun c_53 => ?_)
            · refine lv_aload_n hz.1 hz.2.1 dX6_surest_62 rfl (lv_at hl 0 rfl) ?_
              refine lv_iload_n hz.1 hz.2.1 dX6_surest_63 rfl (lv_at hl 1 rfl) ?_
              refine lv_iload hz.1 hz.2.1 dX6_surest_64 (lv_at hl 5 rfl) ?_
              refine lv_iload_n hz.1 hz.2.1 dX6_surest_66 rfl (lv_at hl 2 rfl) ?_
              refine rdVl (A := wA (mw b k I J G)) (As := [.int (nI kk), .int (nI w), .int (nI stp)]) (rest := []) hz okYT (c6_deaf l_ D k b I J G kk w stp hf (by omega) (by omega) (by omega)) (cwV 3 hz.2.2.2.2 gX6_surest_X6_deaf rfl rfl rfl (by decide +kernel) ⟨Nat.le_of_ble_eq_true rfl, Nat.le_of_ble_eq_true rfl⟩) hK trivial hP hD hS 0 6 rfl rfl rfl rfl hl.1 rfl (Nat.le_of_ble_eq_true rfl) dX6_surest_67 ⟨Nat.zero_le _, Nat.zero_le _⟩ ?_
              refine toeL (z := oL (sSuF (G 0) kk stp w)) (by simp only [sSuF, if_neg (of_decide_eq_false c_53)]; rfl) ?_
              refine lv_lstore (lv' := [(7, .long (oL (sSuF (G 0) kk stp w))), (0, .ref (b 0)), (1, .int (nI kk)), (2, .int (nI stp)), (3, .int (oI ((sSu (sSuF (G 0) kk stp) w).1))), (4, .long (oL ((sSu (sSuF (G 0) kk stp) w).2))), (6, .int (nI w))]) hz.1 hz.2.1 dX6_surest_70 hl (by decide) rfl (fun ls hl => ?_)
              refine lv_lload hz.1 hz.2.1 dX6_surest_72 (lv_at hl 0 rfl) ?_
              refine lv_lload hz.1 hz.2.1 dX6_surest_74 (lv_at hl 5 rfl) ?_
              refine W.lcmp hz.1 hz.2.1 dX6_surest_76 ?_
              refine ocle (tgt := 85) hz dX6_surest_77 (by decide) (⟨fun j hj => by have := sSuF_lt hf (by omega) hj; omega, fun j hj => by have := sSu_lt (fun w j hj => sSuF_lt hf (by omega) hj) w j hj; omega⟩) (fun c_77 => ?_) (fun c_77 => ?_)
              · refine lv_iload_n hz.1 hz.2.1 dX6_surest_85 rfl (lv_at hl 4 rfl) ?_
                refine toe (z := oI ((sSu (sSuF (G 0) kk stp) (w + 1)).1)) (by rw [sSu, if_neg (by rw [c_77]; decide)]) ?_
                refine lv_istore_n (lv' := [(3, .int (oI ((sSu (sSuF (G 0) kk stp) (w + 1)).1))), (7, .long (oL (sSuF (G 0) kk stp w))), (0, .ref (b 0)), (1, .int (nI kk)), (2, .int (nI stp)), (4, .long (oL ((sSu (sSuF (G 0) kk stp) w).2))), (6, .int (nI w))]) hz.1 hz.2.1 dX6_surest_86 rfl hl (by decide) rfl (fun ls hl => ?_)
                refine lv_lload hz.1 hz.2.1 dX6_surest_87 (lv_at hl 1 rfl) ?_
                refine lv_lload hz.1 hz.2.1 dX6_surest_89 (lv_at hl 5 rfl) ?_
                refine W.lcmp hz.1 hz.2.1 dX6_surest_91 ?_
                refine ocle (tgt := 100) hz dX6_surest_92 (by decide) (⟨fun j hj => by have := sSuF_lt hf (by omega) hj; omega, fun j hj => by have := sSu_lt (fun w j hj => sSuF_lt hf (by omega) hj) w j hj; omega⟩) (fun c_92 => ?_) (fun c_92 => ?_)
                · refine lv_lload hz.1 hz.2.1 dX6_surest_100 (lv_at hl 5 rfl) ?_
                  refine toeL (z := oL ((sSu (sSuF (G 0) kk stp) (w + 1)).2)) (by rw [sSu, if_neg (by rw [c_92]; decide)]) ?_
                  refine lv_lstore (lv' := [(4, .long (oL ((sSu (sSuF (G 0) kk stp) (w + 1)).2))), (3, .int (oI ((sSu (sSuF (G 0) kk stp) (w + 1)).1))), (7, .long (oL (sSuF (G 0) kk stp w))), (0, .ref (b 0)), (1, .int (nI kk)), (2, .int (nI stp)), (6, .int (nI w))]) hz.1 hz.2.1 dX6_surest_102 hl (by decide) rfl (fun ls hl => ?_)
                  refine lv_iinc (v := nI (w + 1)) (lv' := [(6, .int (nI (w + 1))), (4, .long (oL ((sSu (sSuF (G 0) kk stp) (w + 1)).2))), (3, .int (oI ((sSu (sSuF (G 0) kk stp) (w + 1)).1))), (7, .long (oL (sSuF (G 0) kk stp w))), (0, .ref (b 0)), (1, .int (nI kk)), (2, .int (nI stp))]) hz.1 hz.2.1 dX6_surest_104 hl (k := 6) rfl (nI_add _ 1) (by decide) rfl (fun ls hl => ?_)
                  refine lv_goto (tgt := 38) hz.1 hz.2.1 dX6_surest_107 (by decide) ?_
                  exact ih38 (w + 1) (by omega) (by omega) ls (lv_sub hl [4, 5, 6, 2, 1, 0] rfl)
                · exact absurd (c_77.symm.trans c_92) (by decide)
              · refine lv_iload hz.1 hz.2.1 dX6_surest_80 (lv_at hl 6 rfl) ?_
                refine lv_goto (tgt := 86) hz.1 hz.2.1 dX6_surest_82 (by decide) ?_
                refine toe (z := oI ((sSu (sSuF (G 0) kk stp) (w + 1)).1)) (by rw [sSu, if_pos c_77]; rfl) ?_
                refine lv_istore_n (lv' := [(3, .int (oI ((sSu (sSuF (G 0) kk stp) (w + 1)).1))), (7, .long (oL (sSuF (G 0) kk stp w))), (0, .ref (b 0)), (1, .int (nI kk)), (2, .int (nI stp)), (4, .long (oL ((sSu (sSuF (G 0) kk stp) w).2))), (6, .int (nI w))]) hz.1 hz.2.1 dX6_surest_86 rfl hl (by decide) rfl (fun ls hl => ?_)
                refine lv_lload hz.1 hz.2.1 dX6_surest_87 (lv_at hl 1 rfl) ?_
                refine lv_lload hz.1 hz.2.1 dX6_surest_89 (lv_at hl 5 rfl) ?_
                refine W.lcmp hz.1 hz.2.1 dX6_surest_91 ?_
                refine ocle (tgt := 100) hz dX6_surest_92 (by decide) (⟨fun j hj => by have := sSuF_lt hf (by omega) hj; omega, fun j hj => by have := sSu_lt (fun w j hj => sSuF_lt hf (by omega) hj) w j hj; omega⟩) (fun c_92 => ?_) (fun c_92 => ?_)
                · exact absurd (c_77.symm.trans c_92) (by decide)
                · refine lv_lload hz.1 hz.2.1 dX6_surest_95 (lv_at hl 1 rfl) ?_
                  refine lv_goto (tgt := 102) hz.1 hz.2.1 dX6_surest_97 (by decide) ?_
                  refine toeL (z := oL ((sSu (sSuF (G 0) kk stp) (w + 1)).2)) (by rw [sSu, if_pos c_92]) ?_
                  refine lv_lstore (lv' := [(4, .long (oL ((sSu (sSuF (G 0) kk stp) (w + 1)).2))), (3, .int (oI ((sSu (sSuF (G 0) kk stp) (w + 1)).1))), (7, .long (oL (sSuF (G 0) kk stp w))), (0, .ref (b 0)), (1, .int (nI kk)), (2, .int (nI stp)), (6, .int (nI w))]) hz.1 hz.2.1 dX6_surest_102 hl (by decide) rfl (fun ls hl => ?_)
                  refine lv_iinc (v := nI (w + 1)) (lv' := [(6, .int (nI (w + 1))), (4, .long (oL ((sSu (sSuF (G 0) kk stp) (w + 1)).2))), (3, .int (oI ((sSu (sSuF (G 0) kk stp) (w + 1)).1))), (7, .long (oL (sSuF (G 0) kk stp w))), (0, .ref (b 0)), (1, .int (nI kk)), (2, .int (nI stp))]) hz.1 hz.2.1 dX6_surest_104 hl (k := 6) rfl (nI_add _ 1) (by decide) rfl (fun ls hl => ?_)
                  refine lv_goto (tgt := 38) hz.1 hz.2.1 dX6_surest_107 (by decide) ?_
                  exact ih38 (w + 1) (by omega) (by omega) ls (lv_sub hl [4, 5, 6, 2, 1, 0] rfl)
            · refine lv_ldc2 (own := RX6) (v := -1) hz.1 hz.2.1 hz.2.2.2.1 (hz.2.2.2.2 (.constantLong RX6 196 (-1)) (List.mem_of_getElem? (i := 1) rfl)) dX6_surest_56 ?_
              refine lv_goto (tgt := 70) hz.1 hz.2.1 dX6_surest_59 (by decide) ?_
              refine toeL (z := oL (sSuF (G 0) kk stp w)) (by simp only [sSuF, if_pos (of_decide_eq_true c_53)]; rfl) ?_
              refine lv_lstore (lv' := [(7, .long (oL (sSuF (G 0) kk stp w))), (0, .ref (b 0)), (1, .int (nI kk)), (2, .int (nI stp)), (3, .int (oI ((sSu (sSuF (G 0) kk stp) w).1))), (4, .long (oL ((sSu (sSuF (G 0) kk stp) w).2))), (6, .int (nI w))]) hz.1 hz.2.1 dX6_surest_70 hl (by decide) rfl (fun ls hl => ?_)
              refine lv_lload hz.1 hz.2.1 dX6_surest_72 (lv_at hl 0 rfl) ?_
              refine lv_lload hz.1 hz.2.1 dX6_surest_74 (lv_at hl 5 rfl) ?_
              refine W.lcmp hz.1 hz.2.1 dX6_surest_76 ?_
              refine ocle (tgt := 85) hz dX6_surest_77 (by decide) (⟨fun j hj => by have := sSuF_lt hf (by omega) hj; omega, fun j hj => by have := sSu_lt (fun w j hj => sSuF_lt hf (by omega) hj) w j hj; omega⟩) (fun c_77 => ?_) (fun c_77 => ?_)
              · refine lv_iload_n hz.1 hz.2.1 dX6_surest_85 rfl (lv_at hl 4 rfl) ?_
                refine toe (z := oI ((sSu (sSuF (G 0) kk stp) (w + 1)).1)) (by rw [sSu, if_neg (by rw [c_77]; decide)]) ?_
                refine lv_istore_n (lv' := [(3, .int (oI ((sSu (sSuF (G 0) kk stp) (w + 1)).1))), (7, .long (oL (sSuF (G 0) kk stp w))), (0, .ref (b 0)), (1, .int (nI kk)), (2, .int (nI stp)), (4, .long (oL ((sSu (sSuF (G 0) kk stp) w).2))), (6, .int (nI w))]) hz.1 hz.2.1 dX6_surest_86 rfl hl (by decide) rfl (fun ls hl => ?_)
                refine lv_lload hz.1 hz.2.1 dX6_surest_87 (lv_at hl 1 rfl) ?_
                refine lv_lload hz.1 hz.2.1 dX6_surest_89 (lv_at hl 5 rfl) ?_
                refine W.lcmp hz.1 hz.2.1 dX6_surest_91 ?_
                refine ocle (tgt := 100) hz dX6_surest_92 (by decide) (⟨fun j hj => by have := sSuF_lt hf (by omega) hj; omega, fun j hj => by have := sSu_lt (fun w j hj => sSuF_lt hf (by omega) hj) w j hj; omega⟩) (fun c_92 => ?_) (fun c_92 => ?_)
                · refine lv_lload hz.1 hz.2.1 dX6_surest_100 (lv_at hl 5 rfl) ?_
                  refine toeL (z := oL ((sSu (sSuF (G 0) kk stp) (w + 1)).2)) (by rw [sSu, if_neg (by rw [c_92]; decide)]) ?_
                  refine lv_lstore (lv' := [(4, .long (oL ((sSu (sSuF (G 0) kk stp) (w + 1)).2))), (3, .int (oI ((sSu (sSuF (G 0) kk stp) (w + 1)).1))), (7, .long (oL (sSuF (G 0) kk stp w))), (0, .ref (b 0)), (1, .int (nI kk)), (2, .int (nI stp)), (6, .int (nI w))]) hz.1 hz.2.1 dX6_surest_102 hl (by decide) rfl (fun ls hl => ?_)
                  refine lv_iinc (v := nI (w + 1)) (lv' := [(6, .int (nI (w + 1))), (4, .long (oL ((sSu (sSuF (G 0) kk stp) (w + 1)).2))), (3, .int (oI ((sSu (sSuF (G 0) kk stp) (w + 1)).1))), (7, .long (oL (sSuF (G 0) kk stp w))), (0, .ref (b 0)), (1, .int (nI kk)), (2, .int (nI stp))]) hz.1 hz.2.1 dX6_surest_104 hl (k := 6) rfl (nI_add _ 1) (by decide) rfl (fun ls hl => ?_)
                  refine lv_goto (tgt := 38) hz.1 hz.2.1 dX6_surest_107 (by decide) ?_
                  exact ih38 (w + 1) (by omega) (by omega) ls (lv_sub hl [4, 5, 6, 2, 1, 0] rfl)
                · exact absurd (c_77.symm.trans c_92) (by decide)
              · refine lv_iload hz.1 hz.2.1 dX6_surest_80 (lv_at hl 6 rfl) ?_
                refine lv_goto (tgt := 86) hz.1 hz.2.1 dX6_surest_82 (by decide) ?_
                refine toe (z := oI ((sSu (sSuF (G 0) kk stp) (w + 1)).1)) (by rw [sSu, if_pos c_77]; rfl) ?_
                refine lv_istore_n (lv' := [(3, .int (oI ((sSu (sSuF (G 0) kk stp) (w + 1)).1))), (7, .long (oL (sSuF (G 0) kk stp w))), (0, .ref (b 0)), (1, .int (nI kk)), (2, .int (nI stp)), (4, .long (oL ((sSu (sSuF (G 0) kk stp) w).2))), (6, .int (nI w))]) hz.1 hz.2.1 dX6_surest_86 rfl hl (by decide) rfl (fun ls hl => ?_)
                refine lv_lload hz.1 hz.2.1 dX6_surest_87 (lv_at hl 1 rfl) ?_
                refine lv_lload hz.1 hz.2.1 dX6_surest_89 (lv_at hl 5 rfl) ?_
                refine W.lcmp hz.1 hz.2.1 dX6_surest_91 ?_
                refine ocle (tgt := 100) hz dX6_surest_92 (by decide) (⟨fun j hj => by have := sSuF_lt hf (by omega) hj; omega, fun j hj => by have := sSu_lt (fun w j hj => sSuF_lt hf (by omega) hj) w j hj; omega⟩) (fun c_92 => ?_) (fun c_92 => ?_)
                · exact absurd (c_77.symm.trans c_92) (by decide)
                · refine lv_lload hz.1 hz.2.1 dX6_surest_95 (lv_at hl 1 rfl) ?_
                  refine lv_goto (tgt := 102) hz.1 hz.2.1 dX6_surest_97 (by decide) ?_
                  refine toeL (z := oL ((sSu (sSuF (G 0) kk stp) (w + 1)).2)) (by rw [sSu, if_pos c_92]) ?_
                  refine lv_lstore (lv' := [(4, .long (oL ((sSu (sSuF (G 0) kk stp) (w + 1)).2))), (3, .int (oI ((sSu (sSuF (G 0) kk stp) (w + 1)).1))), (7, .long (oL (sSuF (G 0) kk stp w))), (0, .ref (b 0)), (1, .int (nI kk)), (2, .int (nI stp)), (6, .int (nI w))]) hz.1 hz.2.1 dX6_surest_102 hl (by decide) rfl (fun ls hl => ?_)
                  refine lv_iinc (v := nI (w + 1)) (lv' := [(6, .int (nI (w + 1))), (4, .long (oL ((sSu (sSuF (G 0) kk stp) (w + 1)).2))), (3, .int (oI ((sSu (sSuF (G 0) kk stp) (w + 1)).1))), (7, .long (oL (sSuF (G 0) kk stp w))), (0, .ref (b 0)), (1, .int (nI kk)), (2, .int (nI stp))]) hz.1 hz.2.1 dX6_surest_104 hl (k := 6) rfl (nI_add _ 1) (by decide) rfl (fun ls hl => ?_)
                  refine lv_goto (tgt := 38) hz.1 hz.2.1 dX6_surest_107 (by decide) ?_
                  exact ih38 (w + 1) (by omega) (by omega) ls (lv_sub hl [4, 5, 6, 2, 1, 0] rfl)
      exact lp_38 _ 0 (by omega) (Nat.lt_succ_self _) ls (lv_sub hl [3, 4, 5, 2, 1, 0] rfl)
    · exact absurd ((wIn_ok (by omega) (by omega) (by omega)).symm.trans c_18) (by decide)

set_option maxHeartbeats 4000000 in
set_option maxRecDepth 100000 in
theorem c6_surest_some (l_ : Launch) (D : va_G) (k : Nat → ClassId) (b I J : Nat → Nat) (G : Nat → Nat → Nat) (kk stp : Nat) (jj dd : Nat) (hf : Wf (G 0)) (h1 : 1 ≤ kk) (h2 : kk ≤ G 0 0) (h4 : stp ≤ 3) (hb : sSu (sSuF (G 0) kk stp) (G 0 0 - 1) = (some jj, some dd)) (hjj : jj < 10) (hdd : dd < 1000) : Met l_ yX6_surest wsX6_surest ({ frames := 3, cells := 0, slots := 0, locals := 70 }) (va_Pc [.ref (b 0), .int (nI kk), .int (nI stp)] (wH YT D k (mw b k I J G))) (va_Qi (fun (r : Int32) (u : Unit) => r = nI jj) (fun (u : Unit) (t_ : State) => va_P D vwCl ((fun (_ : Unit) => mw b k I (nset (nset J 0 (dd / Nat.gcd dd (sCh (G 0 0) kk))) 1 ((sCh (G 0 0) kk) / Nat.gcd dd (sCh (G 0 0) kk))) G) u) t_.heap) (wA (mw b k I J G))) 0 0 (wA (mw b k I J G)) := by
  refine my_entry (cc := cX6_surest) (maxL := 9) (ret := some .int) (by decide) rfl (Nat.le_of_ble_eq_true rfl) ?_
  intro p_ e_ s_ m_ bl_ me_ c_ hz hr hlk hB ls hl
  obtain ⟨hP, hK, hD0, -⟩ := hB
  have hD := wA.self hD0
  have hS : va_S (wA (mw b k I J G)) s_.heap s_.heap [] := va_S.rf
  have hl : lv_has ls 9 [(0, .ref (b 0)), (1, .int (nI kk)), (2, .int (nI stp))] := hl
  have f0 := hf.n2
  have f1 := hf.n9
  have f2 := hf.fr
  have f3 := hf.gd
  have d2 := sCh_pos (G 0 0) (by omega) kk h2
  refine lv_iload_n hz.1 hz.2.1 dX6_surest_0 rfl (lv_at hl 1 rfl) ?_
  refine lv_i2l (v := (nI kk).toInt64) hz.1 hz.2.1 dX6_surest_1 (rfl) ?_
  refine lv_lconst (v := lN 1) hz.1 hz.2.1 dX6_surest_2 (by decide) ?_
  refine lv_aload_n hz.1 hz.2.1 dX6_surest_3 rfl (lv_at hl 0 rfl) ?_
  refine rdV (A := wA (mw b k I J G)) (As := []) (rest := [.long (lN 1), .long ((nI kk).toInt64)]) hz okYT (c6_line l_ D k b I J G  ) (cwV 0 hz.2.2.2.2 gX6_surest_X6_line rfl rfl rfl (by decide +kernel) ⟨Nat.le_of_ble_eq_true rfl, Nat.le_of_ble_eq_true rfl⟩) hK trivial hP hD hS 0 6 rfl rfl rfl rfl hl.1 rfl (Nat.le_of_ble_eq_true rfl) dX6_surest_4 ⟨Nat.zero_le _, Nat.zero_le _⟩ ?_
  refine lv_i2l (v := lN ((G 0) 0)) hz.1 hz.2.1 dX6_surest_7 (nI_l (by omega)) ?_
  refine rdS (As := [.long ((nI kk).toInt64), .long (lN 1), .long (lN ((G 0) 0))]) (rest := []) hz (c6_in l_ (nI kk) 1 ((G 0) 0) (by omega) (by omega)) rfl (va_cwS 3 hz.2.2.2.2 gX6_surest_X6_in rfl rfl rfl (by decide +kernel) ⟨Nat.le_of_ble_eq_true rfl, Nat.le_of_ble_eq_true rfl⟩) rfl hl.1 rfl (Nat.le_of_ble_eq_true rfl) dX6_surest_8 ⟨Nat.zero_le _, Nat.zero_le _⟩ ?_
  refine zeq (tgt := 21) hz dX6_surest_11 (by decide) (fun c_11 => ?_) (fun c_11 => ?_)
  · exact absurd ((wIn_ok (by omega) (by omega) (by omega)).symm.trans c_11) (by decide)
  · refine lv_iload_n hz.1 hz.2.1 dX6_surest_14 rfl (lv_at hl 2 rfl) ?_
    refine rdS (As := [.int (nI stp)]) (rest := []) hz (c6_isStep l_ (nI stp) ) rfl (va_cwS 1 hz.2.2.2.2 gX6_surest_X6_isStep rfl rfl rfl (by decide +kernel) ⟨Nat.le_of_ble_eq_true rfl, Nat.le_of_ble_eq_true rfl⟩) rfl hl.1 rfl (Nat.le_of_ble_eq_true rfl) dX6_surest_15 ⟨Nat.zero_le _, Nat.zero_le _⟩ ?_
    refine zne (tgt := 28) hz dX6_surest_18 (by decide) (fun c_18 => ?_) (fun c_18 => ?_)
    · refine lv_iconst (v := (-1)) hz.1 hz.2.1 dX6_surest_28 (by decide) ?_
      refine toe (z := oI none) (rfl) ?_
      refine lv_istore_n (lv' := [(3, .int (oI none)), (0, .ref (b 0)), (1, .int (nI kk)), (2, .int (nI stp))]) hz.1 hz.2.1 dX6_surest_29 rfl hl (by decide) rfl (fun ls hl => ?_)
      refine lv_ldc2 (own := RX6) (v := -1) hz.1 hz.2.1 hz.2.2.2.1 (hz.2.2.2.2 (.constantLong RX6 196 (-1)) (List.mem_of_getElem? (i := 1) rfl)) dX6_surest_30 ?_
      refine toeL (z := oL none) (rfl) ?_
      refine lv_lstore (lv' := [(4, .long (oL none)), (3, .int (oI none)), (0, .ref (b 0)), (1, .int (nI kk)), (2, .int (nI stp))]) hz.1 hz.2.1 dX6_surest_33 hl (by decide) rfl (fun ls hl => ?_)
      refine lv_iconst (v := nI 0) hz.1 hz.2.1 dX6_surest_35 (by decide) ?_
      refine lv_istore (lv' := [(6, .int (nI 0)), (4, .long (oL none)), (3, .int (oI none)), (0, .ref (b 0)), (1, .int (nI kk)), (2, .int (nI stp))]) hz.1 hz.2.1 dX6_surest_36 hl (by decide) rfl (fun ls hl => ?_)
      have lp_38 : ∀ (fu : Nat) (w : Nat), (w ≤ G 0 0 - 1) → G 0 0 - 1 - w < fu → ∀ ls : Array Slot, lv_has ls 9 [(0, .ref (b 0)), (1, .int (nI kk)), (2, .int (nI stp)), (3, .int (oI ((sSu (sSuF (G 0) kk stp) w).1))), (4, .long (oL ((sSu (sSuF (G 0) kk stp) w).2))), (6, .int (nI w))] → W p_ l_ e_ ({ frames := 3, cells := 0, slots := 0, locals := 70 }) s_ m_ [.ref (b 0), .int (nI kk), .int (nI stp)].toArray bl_ me_ c_ s_.heap [] 0 0 (MQ bl_ (va_Qi (fun (r : Int32) (u : Unit) => r = nI jj) (fun (u : Unit) (t_ : State) => va_P D vwCl ((fun (_ : Unit) => mw b k I (nset (nset J 0 (dd / Nat.gcd dd (sCh (G 0 0) kk))) 1 ((sCh (G 0 0) kk) / Nat.gcd dd (sCh (G 0 0) kk))) G) u) t_.heap) (wA (mw b k I J G))) [.ref (b 0), .int (nI kk), .int (nI stp)].toArray s_ 0 0 (wA (mw b k I J G))) (F0 m_ 38 ls []) := by
        intro fu
        induction fu with
        | zero => intro w hw hm; exact absurd hm (Nat.not_lt_zero _)
        | succ fu ih38 =>
          intro w hw hm ls hl
          refine lv_iload hz.1 hz.2.1 dX6_surest_38 (lv_at hl 5 rfl) ?_
          refine lv_aload_n hz.1 hz.2.1 dX6_surest_40 rfl (lv_at hl 0 rfl) ?_
          refine rdV (A := wA (mw b k I J G)) (As := []) (rest := [.int (nI w)]) hz okYT (c6_wires l_ D k b I J G  (by omega)) (cwV 0 hz.2.2.2.2 gX6_surest_X6_wires rfl rfl rfl (by decide +kernel) ⟨Nat.le_of_ble_eq_true rfl, Nat.le_of_ble_eq_true rfl⟩) hK trivial hP hD hS 0 6 rfl rfl rfl rfl hl.1 rfl (Nat.le_of_ble_eq_true rfl) dX6_surest_41 ⟨Nat.zero_le _, Nat.zero_le _⟩ ?_
          refine jge (tgt := 110) hz dX6_surest_44 (by decide) (by omega) (by omega) (fun c_44 => ?_) (fun c_44 => ?_)
          · obtain rfl : w = G 0 0 - 1 := by omega
            refine lv_iload_n hz.1 hz.2.1 dX6_surest_110 rfl (lv_at hl 3 rfl) ?_
            refine lv_iconst (v := (-1)) hz.1 hz.2.1 dX6_surest_111 (by decide) ?_
            refine lv_icmp_ne (tgt := 119) hz.1 hz.2.1 dX6_surest_112 (by decide) (fun c_112 => ?_) (fun c_112 => ?_)
            · rw [hb] at hl
              have hl : lv_has ls 9 [(0, .ref (b 0)), (1, .int (nI kk)), (2, .int (nI stp)), (3, .int (nI jj)), (4, .long (lN dd)), (6, .int (nI (G 0 0 - 1)))] := hl
              refine lv_aload_n hz.1 hz.2.1 dX6_surest_119 rfl (lv_at hl 0 rfl) ?_
              refine lv_lload hz.1 hz.2.1 dX6_surest_120 (lv_at hl 4 rfl) ?_
              refine lv_aload_n hz.1 hz.2.1 dX6_surest_122 rfl (lv_at hl 0 rfl) ?_
              refine rdV (A := wA (mw b k I J G)) (As := []) (rest := [.long (lN dd), .ref (b 0)]) hz okYT (c6_line l_ D k b I J G  ) (cwV 0 hz.2.2.2.2 gX6_surest_X6_line rfl rfl rfl (by decide +kernel) ⟨Nat.le_of_ble_eq_true rfl, Nat.le_of_ble_eq_true rfl⟩) hK trivial hP hD hS 0 6 rfl rfl rfl rfl hl.1 rfl (Nat.le_of_ble_eq_true rfl) dX6_surest_123 ⟨Nat.zero_le _, Nat.zero_le _⟩ ?_
              refine lv_iload_n hz.1 hz.2.1 dX6_surest_126 rfl (lv_at hl 1 rfl) ?_
              refine rdSl (As := [.int (nI ((G 0) 0)), .int (nI kk)]) (rest := [.long (lN dd), .ref (b 0)]) hz (c6_choose l_ ((G 0) 0) kk (by omega) (by omega)) rfl (va_cwS 2 hz.2.2.2.2 gX6_surest_X6_choose rfl rfl rfl (by decide +kernel) ⟨Nat.le_of_ble_eq_true rfl, Nat.le_of_ble_eq_true rfl⟩) rfl hl.1 rfl (Nat.le_of_ble_eq_true rfl) dX6_surest_127 ⟨Nat.zero_le _, Nat.zero_le _⟩ ?_
              refine wrV (A := wA (mw b k I J G)) (As := [.long (lN dd), .long (lN (sCh ((G 0) 0) kk))]) (rest := []) hz okYT (c6_tell l_ D k b I J G dd (sCh ((G 0) 0) kk) (by omega) (by omega) (by omega)) (cwV 2 hz.2.2.2.2 gX6_surest_X6_tell rfl rfl rfl (by decide +kernel) ⟨Nat.le_of_ble_eq_true rfl, Nat.le_of_ble_eq_true rfl⟩) hK trivial hP hD hS 0 6 rfl rfl rfl rfl hl.1 rfl (Nat.le_of_ble_eq_true rfl) dX6_surest_130 ⟨Nat.zero_le _, Nat.zero_le _⟩ (fun r u H locs hp hP hS _ => ?_)
              obtain rfl : r = nI 1 := hp
              have hP : va_P D vwCl (mw b k I (nset (nset J 0 (dd / Nat.gcd dd (sCh ((G 0) 0) kk))) 1 ((sCh ((G 0) 0) kk) / Nat.gcd dd (sCh ((G 0) 0) kk))) G) H := hP
              have hD := mw_D (I' := I) (J' := nset (nset J 0 (dd / Nat.gcd dd (sCh ((G 0) 0) kk))) 1 ((sCh ((G 0) 0) kk) / Nat.gcd dd (sCh ((G 0) 0) kk))) (G' := G) hD
              refine lv_istore (lv' := [(6, .int (nI 1)), (0, .ref (b 0)), (1, .int (nI kk)), (2, .int (nI stp)), (3, .int (nI jj)), (4, .long (lN dd))]) hz.1 hz.2.1 dX6_surest_133 hl (by decide) rfl (fun ls hl => ?_)
              refine lv_iload_n hz.1 hz.2.1 dX6_surest_135 rfl (lv_at hl 4 rfl) ?_
              exact wr_iret hz hr hlk dX6_surest_136 hS (()) hP (rfl)
            · exfalso; rw [hb] at c_112; exact absurd ((oI_none (fun j hj => by cases hj; omega)).mp c_112) (by simp)
          · refine lv_aload_n hz.1 hz.2.1 dX6_surest_47 rfl (lv_at hl 0 rfl) ?_
            refine lv_iload hz.1 hz.2.1 dX6_surest_48 (lv_at hl 5 rfl) ?_
            refine rdV (A := wA (mw b k I J G)) (As := [.int (nI w)]) (rest := []) hz okYT (c6_isCut l_ D k b I J G w hf (by omega)) (cwV 1 hz.2.2.2.2 gX6_surest_X6_isCut rfl rfl rfl (by decide +kernel) ⟨Nat.le_of_ble_eq_true rfl, Nat.le_of_ble_eq_true rfl⟩) hK trivial hP hD hS 0 6 rfl rfl rfl rfl hl.1 rfl (Nat.le_of_ble_eq_true rfl) dX6_surest_50 ⟨Nat.zero_le _, Nat.zero_le _⟩ ?_
            refine zeq (tgt := 62) hz dX6_surest_53 (by decide) (fun c_53 => ?_) (fun c_53 => ?_)
            · refine lv_aload_n hz.1 hz.2.1 dX6_surest_62 rfl (lv_at hl 0 rfl) ?_
              refine lv_iload_n hz.1 hz.2.1 dX6_surest_63 rfl (lv_at hl 1 rfl) ?_
              refine lv_iload hz.1 hz.2.1 dX6_surest_64 (lv_at hl 5 rfl) ?_
              refine lv_iload_n hz.1 hz.2.1 dX6_surest_66 rfl (lv_at hl 2 rfl) ?_
              refine rdVl (A := wA (mw b k I J G)) (As := [.int (nI kk), .int (nI w), .int (nI stp)]) (rest := []) hz okYT (c6_deaf l_ D k b I J G kk w stp hf (by omega) (by omega) (by omega)) (cwV 3 hz.2.2.2.2 gX6_surest_X6_deaf rfl rfl rfl (by decide +kernel) ⟨Nat.le_of_ble_eq_true rfl, Nat.le_of_ble_eq_true rfl⟩) hK trivial hP hD hS 0 6 rfl rfl rfl rfl hl.1 rfl (Nat.le_of_ble_eq_true rfl) dX6_surest_67 ⟨Nat.zero_le _, Nat.zero_le _⟩ ?_
              refine toeL (z := oL (sSuF (G 0) kk stp w)) (by simp only [sSuF, if_neg (of_decide_eq_false c_53)]; rfl) ?_
              refine lv_lstore (lv' := [(7, .long (oL (sSuF (G 0) kk stp w))), (0, .ref (b 0)), (1, .int (nI kk)), (2, .int (nI stp)), (3, .int (oI ((sSu (sSuF (G 0) kk stp) w).1))), (4, .long (oL ((sSu (sSuF (G 0) kk stp) w).2))), (6, .int (nI w))]) hz.1 hz.2.1 dX6_surest_70 hl (by decide) rfl (fun ls hl => ?_)
              refine lv_lload hz.1 hz.2.1 dX6_surest_72 (lv_at hl 0 rfl) ?_
              refine lv_lload hz.1 hz.2.1 dX6_surest_74 (lv_at hl 5 rfl) ?_
              refine W.lcmp hz.1 hz.2.1 dX6_surest_76 ?_
              refine ocle (tgt := 85) hz dX6_surest_77 (by decide) (⟨fun j hj => by have := sSuF_lt hf (by omega) hj; omega, fun j hj => by have := sSu_lt (fun w j hj => sSuF_lt hf (by omega) hj) w j hj; omega⟩) (fun c_77 => ?_) (fun c_77 => ?_)
              · refine lv_iload_n hz.1 hz.2.1 dX6_surest_85 rfl (lv_at hl 4 rfl) ?_
                refine toe (z := oI ((sSu (sSuF (G 0) kk stp) (w + 1)).1)) (by rw [sSu, if_neg (by rw [c_77]; decide)]) ?_
                refine lv_istore_n (lv' := [(3, .int (oI ((sSu (sSuF (G 0) kk stp) (w + 1)).1))), (7, .long (oL (sSuF (G 0) kk stp w))), (0, .ref (b 0)), (1, .int (nI kk)), (2, .int (nI stp)), (4, .long (oL ((sSu (sSuF (G 0) kk stp) w).2))), (6, .int (nI w))]) hz.1 hz.2.1 dX6_surest_86 rfl hl (by decide) rfl (fun ls hl => ?_)
                refine lv_lload hz.1 hz.2.1 dX6_surest_87 (lv_at hl 1 rfl) ?_
                refine lv_lload hz.1 hz.2.1 dX6_surest_89 (lv_at hl 5 rfl) ?_
                refine W.lcmp hz.1 hz.2.1 dX6_surest_91 ?_
                refine ocle (tgt := 100) hz dX6_surest_92 (by decide) (⟨fun j hj => by have := sSuF_lt hf (by omega) hj; omega, fun j hj => by have := sSu_lt (fun w j hj => sSuF_lt hf (by omega) hj) w j hj; omega⟩) (fun c_92 => ?_) (fun c_92 => ?_)
                · refine lv_lload hz.1 hz.2.1 dX6_surest_100 (lv_at hl 5 rfl) ?_
                  refine toeL (z := oL ((sSu (sSuF (G 0) kk stp) (w + 1)).2)) (by rw [sSu, if_neg (by rw [c_92]; decide)]) ?_
                  refine lv_lstore (lv' := [(4, .long (oL ((sSu (sSuF (G 0) kk stp) (w + 1)).2))), (3, .int (oI ((sSu (sSuF (G 0) kk stp) (w + 1)).1))), (7, .long (oL (sSuF (G 0) kk stp w))), (0, .ref (b 0)), (1, .int (nI kk)), (2, .int (nI stp)), (6, .int (nI w))]) hz.1 hz.2.1 dX6_surest_102 hl (by decide) rfl (fun ls hl => ?_)
                  refine lv_iinc (v := nI (w + 1)) (lv' := [(6, .int (nI (w + 1))), (4, .long (oL ((sSu (sSuF (G 0) kk stp) (w + 1)).2))), (3, .int (oI ((sSu (sSuF (G 0) kk stp) (w + 1)).1))), (7, .long (oL (sSuF (G 0) kk stp w))), (0, .ref (b 0)), (1, .int (nI kk)), (2, .int (nI stp))]) hz.1 hz.2.1 dX6_surest_104 hl (k := 6) rfl (nI_add _ 1) (by decide) rfl (fun ls hl => ?_)
                  refine lv_goto (tgt := 38) hz.1 hz.2.1 dX6_surest_107 (by decide) ?_
                  exact ih38 (w + 1) (by omega) (by omega) ls (lv_sub hl [4, 5, 6, 2, 1, 0] rfl)
                · exact absurd (c_77.symm.trans c_92) (by decide)
              · refine lv_iload hz.1 hz.2.1 dX6_surest_80 (lv_at hl 6 rfl) ?_
                refine lv_goto (tgt := 86) hz.1 hz.2.1 dX6_surest_82 (by decide) ?_
                refine toe (z := oI ((sSu (sSuF (G 0) kk stp) (w + 1)).1)) (by rw [sSu, if_pos c_77]; rfl) ?_
                refine lv_istore_n (lv' := [(3, .int (oI ((sSu (sSuF (G 0) kk stp) (w + 1)).1))), (7, .long (oL (sSuF (G 0) kk stp w))), (0, .ref (b 0)), (1, .int (nI kk)), (2, .int (nI stp)), (4, .long (oL ((sSu (sSuF (G 0) kk stp) w).2))), (6, .int (nI w))]) hz.1 hz.2.1 dX6_surest_86 rfl hl (by decide) rfl (fun ls hl => ?_)
                refine lv_lload hz.1 hz.2.1 dX6_surest_87 (lv_at hl 1 rfl) ?_
                refine lv_lload hz.1 hz.2.1 dX6_surest_89 (lv_at hl 5 rfl) ?_
                refine W.lcmp hz.1 hz.2.1 dX6_surest_91 ?_
                refine ocle (tgt := 100) hz dX6_surest_92 (by decide) (⟨fun j hj => by have := sSuF_lt hf (by omega) hj; omega, fun j hj => by have := sSu_lt (fun w j hj => sSuF_lt hf (by omega) hj) w j hj; omega⟩) (fun c_92 => ?_) (fun c_92 => ?_)
                · exact absurd (c_77.symm.trans c_92) (by decide)
                · refine lv_lload hz.1 hz.2.1 dX6_surest_95 (lv_at hl 1 rfl) ?_
                  refine lv_goto (tgt := 102) hz.1 hz.2.1 dX6_surest_97 (by decide) ?_
                  refine toeL (z := oL ((sSu (sSuF (G 0) kk stp) (w + 1)).2)) (by rw [sSu, if_pos c_92]) ?_
                  refine lv_lstore (lv' := [(4, .long (oL ((sSu (sSuF (G 0) kk stp) (w + 1)).2))), (3, .int (oI ((sSu (sSuF (G 0) kk stp) (w + 1)).1))), (7, .long (oL (sSuF (G 0) kk stp w))), (0, .ref (b 0)), (1, .int (nI kk)), (2, .int (nI stp)), (6, .int (nI w))]) hz.1 hz.2.1 dX6_surest_102 hl (by decide) rfl (fun ls hl => ?_)
                  refine lv_iinc (v := nI (w + 1)) (lv' := [(6, .int (nI (w + 1))), (4, .long (oL ((sSu (sSuF (G 0) kk stp) (w + 1)).2))), (3, .int (oI ((sSu (sSuF (G 0) kk stp) (w + 1)).1))), (7, .long (oL (sSuF (G 0) kk stp w))), (0, .ref (b 0)), (1, .int (nI kk)), (2, .int (nI stp))]) hz.1 hz.2.1 dX6_surest_104 hl (k := 6) rfl (nI_add _ 1) (by decide) rfl (fun ls hl => ?_)
                  refine lv_goto (tgt := 38) hz.1 hz.2.1 dX6_surest_107 (by decide) ?_
                  exact ih38 (w + 1) (by omega) (by omega) ls (lv_sub hl [4, 5, 6, 2, 1, 0] rfl)
            · refine lv_ldc2 (own := RX6) (v := -1) hz.1 hz.2.1 hz.2.2.2.1 (hz.2.2.2.2 (.constantLong RX6 196 (-1)) (List.mem_of_getElem? (i := 1) rfl)) dX6_surest_56 ?_
              refine lv_goto (tgt := 70) hz.1 hz.2.1 dX6_surest_59 (by decide) ?_
              refine toeL (z := oL (sSuF (G 0) kk stp w)) (by simp only [sSuF, if_pos (of_decide_eq_true c_53)]; rfl) ?_
              refine lv_lstore (lv' := [(7, .long (oL (sSuF (G 0) kk stp w))), (0, .ref (b 0)), (1, .int (nI kk)), (2, .int (nI stp)), (3, .int (oI ((sSu (sSuF (G 0) kk stp) w).1))), (4, .long (oL ((sSu (sSuF (G 0) kk stp) w).2))), (6, .int (nI w))]) hz.1 hz.2.1 dX6_surest_70 hl (by decide) rfl (fun ls hl => ?_)
              refine lv_lload hz.1 hz.2.1 dX6_surest_72 (lv_at hl 0 rfl) ?_
              refine lv_lload hz.1 hz.2.1 dX6_surest_74 (lv_at hl 5 rfl) ?_
              refine W.lcmp hz.1 hz.2.1 dX6_surest_76 ?_
              refine ocle (tgt := 85) hz dX6_surest_77 (by decide) (⟨fun j hj => by have := sSuF_lt hf (by omega) hj; omega, fun j hj => by have := sSu_lt (fun w j hj => sSuF_lt hf (by omega) hj) w j hj; omega⟩) (fun c_77 => ?_) (fun c_77 => ?_)
              · refine lv_iload_n hz.1 hz.2.1 dX6_surest_85 rfl (lv_at hl 4 rfl) ?_
                refine toe (z := oI ((sSu (sSuF (G 0) kk stp) (w + 1)).1)) (by rw [sSu, if_neg (by rw [c_77]; decide)]) ?_
                refine lv_istore_n (lv' := [(3, .int (oI ((sSu (sSuF (G 0) kk stp) (w + 1)).1))), (7, .long (oL (sSuF (G 0) kk stp w))), (0, .ref (b 0)), (1, .int (nI kk)), (2, .int (nI stp)), (4, .long (oL ((sSu (sSuF (G 0) kk stp) w).2))), (6, .int (nI w))]) hz.1 hz.2.1 dX6_surest_86 rfl hl (by decide) rfl (fun ls hl => ?_)
                refine lv_lload hz.1 hz.2.1 dX6_surest_87 (lv_at hl 1 rfl) ?_
                refine lv_lload hz.1 hz.2.1 dX6_surest_89 (lv_at hl 5 rfl) ?_
                refine W.lcmp hz.1 hz.2.1 dX6_surest_91 ?_
                refine ocle (tgt := 100) hz dX6_surest_92 (by decide) (⟨fun j hj => by have := sSuF_lt hf (by omega) hj; omega, fun j hj => by have := sSu_lt (fun w j hj => sSuF_lt hf (by omega) hj) w j hj; omega⟩) (fun c_92 => ?_) (fun c_92 => ?_)
                · refine lv_lload hz.1 hz.2.1 dX6_surest_100 (lv_at hl 5 rfl) ?_
                  refine toeL (z := oL ((sSu (sSuF (G 0) kk stp) (w + 1)).2)) (by rw [sSu, if_neg (by rw [c_92]; decide)]) ?_
                  refine lv_lstore (lv' := [(4, .long (oL ((sSu (sSuF (G 0) kk stp) (w + 1)).2))), (3, .int (oI ((sSu (sSuF (G 0) kk stp) (w + 1)).1))), (7, .long (oL (sSuF (G 0) kk stp w))), (0, .ref (b 0)), (1, .int (nI kk)), (2, .int (nI stp)), (6, .int (nI w))]) hz.1 hz.2.1 dX6_surest_102 hl (by decide) rfl (fun ls hl => ?_)
                  refine lv_iinc (v := nI (w + 1)) (lv' := [(6, .int (nI (w + 1))), (4, .long (oL ((sSu (sSuF (G 0) kk stp) (w + 1)).2))), (3, .int (oI ((sSu (sSuF (G 0) kk stp) (w + 1)).1))), (7, .long (oL (sSuF (G 0) kk stp w))), (0, .ref (b 0)), (1, .int (nI kk)), (2, .int (nI stp))]) hz.1 hz.2.1 dX6_surest_104 hl (k := 6) rfl (nI_add _ 1) (by decide) rfl (fun ls hl => ?_)
                  refine lv_goto (tgt := 38) hz.1 hz.2.1 dX6_surest_107 (by decide) ?_
                  exact ih38 (w + 1) (by omega) (by omega) ls (lv_sub hl [4, 5, 6, 2, 1, 0] rfl)
                · exact absurd (c_77.symm.trans c_92) (by decide)
              · refine lv_iload hz.1 hz.2.1 dX6_surest_80 (lv_at hl 6 rfl) ?_
                refine lv_goto (tgt := 86) hz.1 hz.2.1 dX6_surest_82 (by decide) ?_
                refine toe (z := oI ((sSu (sSuF (G 0) kk stp) (w + 1)).1)) (by rw [sSu, if_pos c_77]; rfl) ?_
                refine lv_istore_n (lv' := [(3, .int (oI ((sSu (sSuF (G 0) kk stp) (w + 1)).1))), (7, .long (oL (sSuF (G 0) kk stp w))), (0, .ref (b 0)), (1, .int (nI kk)), (2, .int (nI stp)), (4, .long (oL ((sSu (sSuF (G 0) kk stp) w).2))), (6, .int (nI w))]) hz.1 hz.2.1 dX6_surest_86 rfl hl (by decide) rfl (fun ls hl => ?_)
                refine lv_lload hz.1 hz.2.1 dX6_surest_87 (lv_at hl 1 rfl) ?_
                refine lv_lload hz.1 hz.2.1 dX6_surest_89 (lv_at hl 5 rfl) ?_
                refine W.lcmp hz.1 hz.2.1 dX6_surest_91 ?_
                refine ocle (tgt := 100) hz dX6_surest_92 (by decide) (⟨fun j hj => by have := sSuF_lt hf (by omega) hj; omega, fun j hj => by have := sSu_lt (fun w j hj => sSuF_lt hf (by omega) hj) w j hj; omega⟩) (fun c_92 => ?_) (fun c_92 => ?_)
                · exact absurd (c_77.symm.trans c_92) (by decide)
                · refine lv_lload hz.1 hz.2.1 dX6_surest_95 (lv_at hl 1 rfl) ?_
                  refine lv_goto (tgt := 102) hz.1 hz.2.1 dX6_surest_97 (by decide) ?_
                  refine toeL (z := oL ((sSu (sSuF (G 0) kk stp) (w + 1)).2)) (by rw [sSu, if_pos c_92]) ?_
                  refine lv_lstore (lv' := [(4, .long (oL ((sSu (sSuF (G 0) kk stp) (w + 1)).2))), (3, .int (oI ((sSu (sSuF (G 0) kk stp) (w + 1)).1))), (7, .long (oL (sSuF (G 0) kk stp w))), (0, .ref (b 0)), (1, .int (nI kk)), (2, .int (nI stp)), (6, .int (nI w))]) hz.1 hz.2.1 dX6_surest_102 hl (by decide) rfl (fun ls hl => ?_)
                  refine lv_iinc (v := nI (w + 1)) (lv' := [(6, .int (nI (w + 1))), (4, .long (oL ((sSu (sSuF (G 0) kk stp) (w + 1)).2))), (3, .int (oI ((sSu (sSuF (G 0) kk stp) (w + 1)).1))), (7, .long (oL (sSuF (G 0) kk stp w))), (0, .ref (b 0)), (1, .int (nI kk)), (2, .int (nI stp))]) hz.1 hz.2.1 dX6_surest_104 hl (k := 6) rfl (nI_add _ 1) (by decide) rfl (fun ls hl => ?_)
                  refine lv_goto (tgt := 38) hz.1 hz.2.1 dX6_surest_107 (by decide) ?_
                  exact ih38 (w + 1) (by omega) (by omega) ls (lv_sub hl [4, 5, 6, 2, 1, 0] rfl)
      exact lp_38 _ 0 (by omega) (Nat.lt_succ_self _) ls (lv_sub hl [3, 4, 5, 2, 1, 0] rfl)
    · exact absurd ((wIn_ok (by omega) (by omega) (by omega)).symm.trans c_18) (by decide)

theorem hinX6_whence : ∀ w ∈ wsX60, w ∈ wsX6_whence := fun _ h => List.mem_cons_of_mem _ (List.mem_append_right _ h)
set_option maxHeartbeats 4000000 in
set_option maxRecDepth 100000 in
theorem c6_whence_bad (l_ : Launch) (D : va_G) (k : Nat → ClassId) (b I J : Nat → Nat) (G : Nat → Nat → Nat) (x1 x2 x3 : Int32) (hf : Wf (G 0)) (hb : (wIn x1 0 (G 0 0 - 1) && wIn x2 0 11 && wIn x3 1 3) = false) : Met l_ yX6_whence wsX6_whence ({ frames := 2, cells := 0, slots := 0, locals := 46 }) (va_Pc [.ref (b 0), .int x1, .int x2, .int x3] (wH YT D k (mw b k I J G))) (va_Qi (fun (r : Int32) (u : Unit) => r = -2) (fun (u : Unit) (t_ : State) => va_P D vwCl ((fun (_ : Unit) => mw b k I J (gset G 3 (sRef (G 3) 0))) u) t_.heap) (wA (mw b k I J G))) 0 0 (wA (mw b k I J G)) := by
  refine my_entry (cc := cX6_whence) (maxL := 6) (ret := some .int) (by decide) rfl (Nat.le_of_ble_eq_true rfl) ?_
  intro p_ e_ s_ m_ bl_ me_ c_ hz hr hlk hB ls hl
  obtain ⟨hP, hK, hD0, -⟩ := hB
  have hD := wA.self hD0
  have hS : va_S (wA (mw b k I J G)) s_.heap s_.heap [] := va_S.rf
  have hl : lv_has ls 6 [(0, .ref (b 0)), (1, .int x1), (2, .int x2), (3, .int x3)] := hl
  have f0 := hf.n2
  have f1 := hf.n9
  have f2 := hf.fr
  have f3 := hf.gd
  refine lv_aload_n hz.1 hz.2.1 dX6_whence_0 rfl (lv_at hl 0 rfl) ?_
  refine lv_iload_n hz.1 hz.2.1 dX6_whence_1 rfl (lv_at hl 1 rfl) ?_
  refine rdV (A := wA (mw b k I J G)) (As := [.int x1]) (rest := []) hz okYT (c6_isPost l_ D k b I J G x1 hf) (cwV 1 hz.2.2.2.2 gX6_whence_X6_isPost rfl rfl rfl (by decide +kernel) ⟨Nat.le_of_ble_eq_true rfl, Nat.le_of_ble_eq_true rfl⟩) hK trivial hP hD hS 0 6 rfl rfl rfl rfl hl.1 rfl (Nat.le_of_ble_eq_true rfl) dX6_whence_2 ⟨Nat.zero_le _, Nat.zero_le _⟩ ?_
  refine zeq (tgt := 32) hz dX6_whence_5 (by decide) (fun c_5 => ?_) (fun c_5 => ?_)
  · refine lv_aload_n hz.1 hz.2.1 dX6_whence_32 rfl (lv_at hl 0 rfl) ?_
    refine lv_bipush (v := (-2)) hz.1 hz.2.1 dX6_whence_33 (by decide) ?_
    refine wrV (A := wA (mw b k I J G)) (As := [.int (-2)]) (rest := []) hz okYT (c6_bad l_ D k b I J G (-2) ) (cwV 1 hz.2.2.2.2 gX6_whence_X6_bad rfl rfl rfl (by decide +kernel) ⟨Nat.le_of_ble_eq_true rfl, Nat.le_of_ble_eq_true rfl⟩) hK trivial hP hD hS 0 6 rfl rfl rfl rfl hl.1 rfl (Nat.le_of_ble_eq_true rfl) dX6_whence_35 ⟨Nat.zero_le _, Nat.zero_le _⟩ (fun r u H locs hp hP hS _ => ?_)
    obtain rfl : r = -2 := hp
    have hP : va_P D vwCl (mw b k I J (gset G 3 (sRef (G 3) 0))) H := hP
    have hD := mw_D (I' := I) (J' := J) (G' := gset G 3 (sRef (G 3) 0)) hD
    exact wr_iret hz hr hlk dX6_whence_38 hS (()) hP (rfl)
  · refine lv_iload_n hz.1 hz.2.1 dX6_whence_8 rfl (lv_at hl 2 rfl) ?_
    refine lv_i2l (v := x2.toInt64) hz.1 hz.2.1 dX6_whence_9 (rfl) ?_
    refine lv_lconst (v := lN 0) hz.1 hz.2.1 dX6_whence_10 (by decide) ?_
    refine lv_ldc2 (own := RX6) (v := lN 11) hz.1 hz.2.1 hz.2.2.2.1 (hz.2.2.2.2 (.constantLong RX6 84 (11)) (List.mem_of_getElem? (i := 1) rfl)) dX6_whence_11 ?_
    refine rdS (As := [.long x2.toInt64, .long (lN 0), .long (lN 11)]) (rest := []) hz (c6_in l_ x2 0 11 (by omega) (by omega)) rfl (va_cwS 3 hz.2.2.2.2 gX6_whence_X6_in rfl rfl rfl (by decide +kernel) ⟨Nat.le_of_ble_eq_true rfl, Nat.le_of_ble_eq_true rfl⟩) rfl hl.1 rfl (Nat.le_of_ble_eq_true rfl) dX6_whence_14 ⟨Nat.zero_le _, Nat.zero_le _⟩ ?_
    refine zeq (tgt := 32) hz dX6_whence_17 (by decide) (fun c_17 => ?_) (fun c_17 => ?_)
    · refine lv_aload_n hz.1 hz.2.1 dX6_whence_32 rfl (lv_at hl 0 rfl) ?_
      refine lv_bipush (v := (-2)) hz.1 hz.2.1 dX6_whence_33 (by decide) ?_
      refine wrV (A := wA (mw b k I J G)) (As := [.int (-2)]) (rest := []) hz okYT (c6_bad l_ D k b I J G (-2) ) (cwV 1 hz.2.2.2.2 gX6_whence_X6_bad rfl rfl rfl (by decide +kernel) ⟨Nat.le_of_ble_eq_true rfl, Nat.le_of_ble_eq_true rfl⟩) hK trivial hP hD hS 0 6 rfl rfl rfl rfl hl.1 rfl (Nat.le_of_ble_eq_true rfl) dX6_whence_35 ⟨Nat.zero_le _, Nat.zero_le _⟩ (fun r u H locs hp hP hS _ => ?_)
      obtain rfl : r = -2 := hp
      have hP : va_P D vwCl (mw b k I J (gset G 3 (sRef (G 3) 0))) H := hP
      have hD := mw_D (I' := I) (J' := J) (G' := gset G 3 (sRef (G 3) 0)) hD
      exact wr_iret hz hr hlk dX6_whence_38 hS (()) hP (rfl)
    · refine lv_iload_n hz.1 hz.2.1 dX6_whence_20 rfl (lv_at hl 3 rfl) ?_
      refine lv_i2l (v := x3.toInt64) hz.1 hz.2.1 dX6_whence_21 (rfl) ?_
      refine lv_lconst (v := lN 1) hz.1 hz.2.1 dX6_whence_22 (by decide) ?_
      refine lv_ldc2 (own := RX6) (v := lN 3) hz.1 hz.2.1 hz.2.2.2.1 (hz.2.2.2.2 (.constantLong RX6 64 (3)) (List.mem_of_getElem? (i := 2) rfl)) dX6_whence_23 ?_
      refine rdS (As := [.long x3.toInt64, .long (lN 1), .long (lN 3)]) (rest := []) hz (c6_in l_ x3 1 3 (by omega) (by omega)) rfl (va_cwS 3 hz.2.2.2.2 gX6_whence_X6_in rfl rfl rfl (by decide +kernel) ⟨Nat.le_of_ble_eq_true rfl, Nat.le_of_ble_eq_true rfl⟩) rfl hl.1 rfl (Nat.le_of_ble_eq_true rfl) dX6_whence_26 ⟨Nat.zero_le _, Nat.zero_le _⟩ ?_
      refine zne (tgt := 39) hz dX6_whence_29 (by decide) (fun c_29 => ?_) (fun c_29 => ?_)
      · simp [c_5, c_17, c_29] at hb
      · refine lv_aload_n hz.1 hz.2.1 dX6_whence_32 rfl (lv_at hl 0 rfl) ?_
        refine lv_bipush (v := (-2)) hz.1 hz.2.1 dX6_whence_33 (by decide) ?_
        refine wrV (A := wA (mw b k I J G)) (As := [.int (-2)]) (rest := []) hz okYT (c6_bad l_ D k b I J G (-2) ) (cwV 1 hz.2.2.2.2 gX6_whence_X6_bad rfl rfl rfl (by decide +kernel) ⟨Nat.le_of_ble_eq_true rfl, Nat.le_of_ble_eq_true rfl⟩) hK trivial hP hD hS 0 6 rfl rfl rfl rfl hl.1 rfl (Nat.le_of_ble_eq_true rfl) dX6_whence_35 ⟨Nat.zero_le _, Nat.zero_le _⟩ (fun r u H locs hp hP hS _ => ?_)
        obtain rfl : r = -2 := hp
        have hP : va_P D vwCl (mw b k I J (gset G 3 (sRef (G 3) 0))) H := hP
        have hD := mw_D (I' := I) (J' := J) (G' := gset G 3 (sRef (G 3) 0)) hD
        exact wr_iret hz hr hlk dX6_whence_38 hS (()) hP (rfl)

set_option maxHeartbeats 4000000 in
set_option maxRecDepth 100000 in
theorem c6_whence_ok (l_ : Launch) (D : va_G) (k : Nat → ClassId) (b I J : Nat → Nat) (G : Nat → Nat → Nat) (p nt s : Nat) (hf : Wf (G 0)) (h0 : p < G 0 0) (h1 : nt ≤ 11) (h2 : 1 ≤ s) (h3 : s ≤ 3) : Met l_ yX6_whence wsX6_whence ({ frames := 2, cells := 0, slots := 0, locals := 46 }) (va_Pc [.ref (b 0), .int (nI p), .int (nI nt), .int (nI s)] (wH YT D k (mw b k I J G))) (QcRead (nI (sWhence (G 0) p nt s))) 0 0 (fun _ => False) := by
  refine my_entry (cc := cX6_whence) (maxL := 6) (ret := some .int) (by decide) rfl (Nat.le_of_ble_eq_true rfl) ?_
  intro p_ e_ s_ m_ bl_ me_ c_ hz hr hlk hB ls hl
  obtain ⟨hP, hK, hD0, -⟩ := hB
  have hD := wA.self hD0
  have hS : va_S (wA (mw b k I J G)) s_.heap s_.heap [] := va_S.rf
  have hl : lv_has ls 6 [(0, .ref (b 0)), (1, .int (nI p)), (2, .int (nI nt)), (3, .int (nI s))] := hl
  have f0 := hf.n2
  have f1 := hf.n9
  have f2 := hf.fr
  have f3 := hf.gd
  refine lv_aload_n hz.1 hz.2.1 dX6_whence_0 rfl (lv_at hl 0 rfl) ?_
  refine lv_iload_n hz.1 hz.2.1 dX6_whence_1 rfl (lv_at hl 1 rfl) ?_
  refine rdV (A := wA (mw b k I J G)) (As := [.int (nI p)]) (rest := []) hz okYT (c6_isPost l_ D k b I J G (nI p) hf) (cwV 1 hz.2.2.2.2 gX6_whence_X6_isPost rfl rfl rfl (by decide +kernel) ⟨Nat.le_of_ble_eq_true rfl, Nat.le_of_ble_eq_true rfl⟩) hK trivial hP hD hS 0 6 rfl rfl rfl rfl hl.1 rfl (Nat.le_of_ble_eq_true rfl) dX6_whence_2 ⟨Nat.zero_le _, Nat.zero_le _⟩ ?_
  refine zeq (tgt := 32) hz dX6_whence_5 (by decide) (fun c_5 => ?_) (fun c_5 => ?_)
  · exact absurd ((wIn_ok (by omega) (by omega) (by omega)).symm.trans c_5) (by decide)
  · refine lv_iload_n hz.1 hz.2.1 dX6_whence_8 rfl (lv_at hl 2 rfl) ?_
    refine lv_i2l (v := (nI nt).toInt64) hz.1 hz.2.1 dX6_whence_9 (rfl) ?_
    refine lv_lconst (v := lN 0) hz.1 hz.2.1 dX6_whence_10 (by decide) ?_
    refine lv_ldc2 (own := RX6) (v := lN 11) hz.1 hz.2.1 hz.2.2.2.1 (hz.2.2.2.2 (.constantLong RX6 84 (11)) (List.mem_of_getElem? (i := 1) rfl)) dX6_whence_11 ?_
    refine rdS (As := [.long ((nI nt).toInt64), .long (lN 0), .long (lN 11)]) (rest := []) hz (c6_in l_ (nI nt) 0 11 (by omega) (by omega)) rfl (va_cwS 3 hz.2.2.2.2 gX6_whence_X6_in rfl rfl rfl (by decide +kernel) ⟨Nat.le_of_ble_eq_true rfl, Nat.le_of_ble_eq_true rfl⟩) rfl hl.1 rfl (Nat.le_of_ble_eq_true rfl) dX6_whence_14 ⟨Nat.zero_le _, Nat.zero_le _⟩ ?_
    refine zeq (tgt := 32) hz dX6_whence_17 (by decide) (fun c_17 => ?_) (fun c_17 => ?_)
    · exact absurd ((wIn_ok (by omega) (by omega) (by omega)).symm.trans c_17) (by decide)
    · refine lv_iload_n hz.1 hz.2.1 dX6_whence_20 rfl (lv_at hl 3 rfl) ?_
      refine lv_i2l (v := (nI s).toInt64) hz.1 hz.2.1 dX6_whence_21 (rfl) ?_
      refine lv_lconst (v := lN 1) hz.1 hz.2.1 dX6_whence_22 (by decide) ?_
      refine lv_ldc2 (own := RX6) (v := lN 3) hz.1 hz.2.1 hz.2.2.2.1 (hz.2.2.2.2 (.constantLong RX6 64 (3)) (List.mem_of_getElem? (i := 2) rfl)) dX6_whence_23 ?_
      refine rdS (As := [.long ((nI s).toInt64), .long (lN 1), .long (lN 3)]) (rest := []) hz (c6_in l_ (nI s) 1 3 (by omega) (by omega)) rfl (va_cwS 3 hz.2.2.2.2 gX6_whence_X6_in rfl rfl rfl (by decide +kernel) ⟨Nat.le_of_ble_eq_true rfl, Nat.le_of_ble_eq_true rfl⟩) rfl hl.1 rfl (Nat.le_of_ble_eq_true rfl) dX6_whence_26 ⟨Nat.zero_le _, Nat.zero_le _⟩ ?_
      refine zne (tgt := 39) hz dX6_whence_29 (by decide) (fun c_29 => ?_) (fun c_29 => ?_)
      · refine lv_iconst (v := nI 0) hz.1 hz.2.1 dX6_whence_39 (by decide) ?_
        refine lv_istore (lv' := [(4, .int (nI 0)), (0, .ref (b 0)), (1, .int (nI p)), (2, .int (nI nt)), (3, .int (nI s))]) hz.1 hz.2.1 dX6_whence_40 hl (by decide) rfl (fun ls hl => ?_)
        refine lv_iconst (v := nI 0) hz.1 hz.2.1 dX6_whence_42 (by decide) ?_
        refine lv_istore (lv' := [(5, .int (nI 0)), (4, .int (nI 0)), (0, .ref (b 0)), (1, .int (nI p)), (2, .int (nI nt)), (3, .int (nI s))]) hz.1 hz.2.1 dX6_whence_43 hl (by decide) rfl (fun ls hl => ?_)
        have lp_45 : ∀ (fu : Nat) (w : Nat), (w ≤ G 0 0 - 1) → G 0 0 - 1 - w < fu → ∀ ls : Array Slot, lv_has ls 6 [(0, .ref (b 0)), (1, .int (nI p)), (2, .int (nI nt)), (3, .int (nI s)), (4, .int (nI (sOr 0 (sWcF (G 0) p nt s) w))), (5, .int (nI w))] → W p_ l_ e_ ({ frames := 2, cells := 0, slots := 0, locals := 46 }) s_ m_ [.ref (b 0), .int (nI p), .int (nI nt), .int (nI s)].toArray bl_ me_ c_ s_.heap [] 0 0 (MQ bl_ (QcRead (nI (sWhence (G 0) p nt s))) [.ref (b 0), .int (nI p), .int (nI nt), .int (nI s)].toArray s_ 0 0 (fun _ => False)) (F0 m_ 45 ls []) := by
          intro fu
          induction fu with
          | zero => intro w hw hm; exact absurd hm (Nat.not_lt_zero _)
          | succ fu ih45 =>
            intro w hw hm ls hl
            refine lv_iload hz.1 hz.2.1 dX6_whence_45 (lv_at hl 5 rfl) ?_
            refine lv_aload_n hz.1 hz.2.1 dX6_whence_47 rfl (lv_at hl 0 rfl) ?_
            refine rdV (A := wA (mw b k I J G)) (As := []) (rest := [.int (nI w)]) hz okYT (c6_wires l_ D k b I J G  (by omega)) (cwV 0 hz.2.2.2.2 gX6_whence_X6_wires rfl rfl rfl (by decide +kernel) ⟨Nat.le_of_ble_eq_true rfl, Nat.le_of_ble_eq_true rfl⟩) hK trivial hP hD hS 0 6 rfl rfl rfl rfl hl.1 rfl (Nat.le_of_ble_eq_true rfl) dX6_whence_48 ⟨Nat.zero_le _, Nat.zero_le _⟩ ?_
            refine jge (tgt := 94) hz dX6_whence_51 (by decide) (by omega) (by omega) (fun c_51 => ?_) (fun c_51 => ?_)
            · obtain rfl : w = G 0 0 - 1 := by omega
              refine lv_iload hz.1 hz.2.1 dX6_whence_94 (lv_at hl 4 rfl) ?_
              exact rd_iret hz hr hlk dX6_whence_96 (rfl)
            · have n1 := sNote_lt (G 0) w
              refine lv_iload hz.1 hz.2.1 dX6_whence_54 (lv_at hl 4 rfl) ?_
              refine lv_aload_n hz.1 hz.2.1 dX6_whence_56 rfl (lv_at hl 0 rfl) ?_
              refine lv_iload hz.1 hz.2.1 dX6_whence_57 (lv_at hl 5 rfl) ?_
              refine rdV (A := wA (mw b k I J G)) (As := [.int (nI w)]) (rest := [.int (nI (sOr 0 (sWcF (G 0) p nt s) w))]) hz okYT (c6_noteOf l_ D k b I J G w hf (by omega)) (cwV 1 hz.2.2.2.2 gX6_whence_X6_noteOf rfl rfl rfl (by decide +kernel) ⟨Nat.le_of_ble_eq_true rfl, Nat.le_of_ble_eq_true rfl⟩) hK trivial hP hD hS 0 6 rfl rfl rfl rfl hl.1 rfl (Nat.le_of_ble_eq_true rfl) dX6_whence_59 ⟨Nat.zero_le _, Nat.zero_le _⟩ ?_
              refine lv_iload_n hz.1 hz.2.1 dX6_whence_62 rfl (lv_at hl 2 rfl) ?_
              refine jne (tgt := 84) hz dX6_whence_63 (by decide) (by omega) (by omega) (fun c_63 => ?_) (fun c_63 => ?_)
              · refine lv_iconst (v := nI 0) hz.1 hz.2.1 dX6_whence_84 (by decide) ?_
                refine lv_ior hz.1 hz.2.1 dX6_whence_85 ?_
                refine toe (z := nI (sOr 0 (sWcF (G 0) p nt s) (w + 1))) (by rw [fa_or]; simp [sOr, sWcF, c_63]) ?_
                refine lv_istore (lv' := [(4, .int (nI (sOr 0 (sWcF (G 0) p nt s) (w + 1)))), (0, .ref (b 0)), (1, .int (nI p)), (2, .int (nI nt)), (3, .int (nI s)), (5, .int (nI w))]) hz.1 hz.2.1 dX6_whence_86 hl (by decide) rfl (fun ls hl => ?_)
                refine lv_iinc (v := nI (w + 1)) (lv' := [(5, .int (nI (w + 1))), (4, .int (nI (sOr 0 (sWcF (G 0) p nt s) (w + 1)))), (0, .ref (b 0)), (1, .int (nI p)), (2, .int (nI nt)), (3, .int (nI s))]) hz.1 hz.2.1 dX6_whence_88 hl (k := 5) rfl (nI_add _ 1) (by decide) rfl (fun ls hl => ?_)
                refine lv_goto (tgt := 45) hz.1 hz.2.1 dX6_whence_91 (by decide) ?_
                exact ih45 (w + 1) (by omega) (by omega) ls (lv_sub hl [2, 3, 4, 5, 1, 0] rfl)
              · refine lv_aload_n hz.1 hz.2.1 dX6_whence_66 rfl (lv_at hl 0 rfl) ?_
                refine lv_iload_n hz.1 hz.2.1 dX6_whence_67 rfl (lv_at hl 1 rfl) ?_
                refine lv_iload hz.1 hz.2.1 dX6_whence_68 (lv_at hl 5 rfl) ?_
                refine lv_iload_n hz.1 hz.2.1 dX6_whence_70 rfl (lv_at hl 3 rfl) ?_
                refine rdV (A := wA (mw b k I J G)) (As := [.int (nI p), .int (nI w), .int (nI s)]) (rest := [.int (nI (sOr 0 (sWcF (G 0) p nt s) w))]) hz okYT (c6_hears l_ D k b I J G p w s hf (by omega) (by omega) (by omega) (by omega)) (cwV 3 hz.2.2.2.2 gX6_whence_X6_hears rfl rfl rfl (by decide +kernel) ⟨Nat.le_of_ble_eq_true rfl, Nat.le_of_ble_eq_true rfl⟩) hK trivial hP hD hS 0 6 rfl rfl rfl rfl hl.1 rfl (Nat.le_of_ble_eq_true rfl) dX6_whence_71 ⟨Nat.zero_le _, Nat.zero_le _⟩ ?_
                refine zeq (tgt := 84) hz dX6_whence_74 (by decide) (fun c_74 => ?_) (fun c_74 => ?_)
                · refine lv_iconst (v := nI 0) hz.1 hz.2.1 dX6_whence_84 (by decide) ?_
                  refine lv_ior hz.1 hz.2.1 dX6_whence_85 ?_
                  refine toe (z := nI (sOr 0 (sWcF (G 0) p nt s) (w + 1))) (by rw [fa_or]; simp [sOr, sWcF, c_63, c_74]) ?_
                  refine lv_istore (lv' := [(4, .int (nI (sOr 0 (sWcF (G 0) p nt s) (w + 1)))), (0, .ref (b 0)), (1, .int (nI p)), (2, .int (nI nt)), (3, .int (nI s)), (5, .int (nI w))]) hz.1 hz.2.1 dX6_whence_86 hl (by decide) rfl (fun ls hl => ?_)
                  refine lv_iinc (v := nI (w + 1)) (lv' := [(5, .int (nI (w + 1))), (4, .int (nI (sOr 0 (sWcF (G 0) p nt s) (w + 1)))), (0, .ref (b 0)), (1, .int (nI p)), (2, .int (nI nt)), (3, .int (nI s))]) hz.1 hz.2.1 dX6_whence_88 hl (k := 5) rfl (nI_add _ 1) (by decide) rfl (fun ls hl => ?_)
                  refine lv_goto (tgt := 45) hz.1 hz.2.1 dX6_whence_91 (by decide) ?_
                  exact ih45 (w + 1) (by omega) (by omega) ls (lv_sub hl [2, 3, 4, 5, 1, 0] rfl)
                · refine lv_iconst (v := nI 1) hz.1 hz.2.1 dX6_whence_77 (by decide) ?_
                  refine lv_iload hz.1 hz.2.1 dX6_whence_78 (lv_at hl 5 rfl) ?_
                  refine lv_ishl hz.1 hz.2.1 dX6_whence_80 ?_
                  refine toe (z := nI (2 ^ w)) (nI_shl1 (by omega)) ?_
                  refine lv_goto (tgt := 85) hz.1 hz.2.1 dX6_whence_81 (by decide) ?_
                  refine lv_ior hz.1 hz.2.1 dX6_whence_85 ?_
                  refine toe (z := nI (sOr 0 (sWcF (G 0) p nt s) (w + 1))) (by rw [fa_or]; simp [sOr, sWcF, c_63, c_74]) ?_
                  refine lv_istore (lv' := [(4, .int (nI (sOr 0 (sWcF (G 0) p nt s) (w + 1)))), (0, .ref (b 0)), (1, .int (nI p)), (2, .int (nI nt)), (3, .int (nI s)), (5, .int (nI w))]) hz.1 hz.2.1 dX6_whence_86 hl (by decide) rfl (fun ls hl => ?_)
                  refine lv_iinc (v := nI (w + 1)) (lv' := [(5, .int (nI (w + 1))), (4, .int (nI (sOr 0 (sWcF (G 0) p nt s) (w + 1)))), (0, .ref (b 0)), (1, .int (nI p)), (2, .int (nI nt)), (3, .int (nI s))]) hz.1 hz.2.1 dX6_whence_88 hl (k := 5) rfl (nI_add _ 1) (by decide) rfl (fun ls hl => ?_)
                  refine lv_goto (tgt := 45) hz.1 hz.2.1 dX6_whence_91 (by decide) ?_
                  exact ih45 (w + 1) (by omega) (by omega) ls (lv_sub hl [2, 3, 4, 5, 1, 0] rfl)
        exact lp_45 _ 0 (by omega) (Nat.lt_succ_self _) ls (lv_sub hl [2, 3, 4, 5, 1, 0] rfl)
      · exact absurd ((wIn_ok (by omega) (by omega) (by omega)).symm.trans c_29) (by decide)

theorem hinX6_pairs : ∀ w ∈ wsX60, w ∈ wsX6_pairs := fun _ h => List.mem_cons_of_mem _ (List.mem_append_right _ h)
set_option maxHeartbeats 4000000 in
set_option maxRecDepth 100000 in
theorem c6_pairs (l_ : Launch) (D : va_G) (k : Nat → ClassId) (b I J : Nat → Nat) (G : Nat → Nat → Nat)  (hf : Wf (G 0)) : Met l_ yX6_pairs wsX6_pairs ({ frames := 2, cells := 0, slots := 0, locals := 45 }) (va_Pc [.ref (b 0)] (wH YT D k (mw b k I J G))) (QcRead (nI (sPairs (G 0)))) 0 0 (fun _ => False) := by
  refine my_entry (cc := cX6_pairs) (maxL := 4) (ret := some .int) (by decide) rfl (Nat.le_of_ble_eq_true rfl) ?_
  intro p_ e_ s_ m_ bl_ me_ c_ hz hr hlk hB ls hl
  obtain ⟨hP, hK, hD0, -⟩ := hB
  have hD := wA.self hD0
  have hS : va_S (wA (mw b k I J G)) s_.heap s_.heap [] := va_S.rf
  have hl : lv_has ls 4 [(0, .ref (b 0))] := hl
  have f0 := hf.n2
  have f1 := hf.n9
  have f2 := hf.fr
  have f3 := hf.gd
  refine lv_iconst (v := nI 0) hz.1 hz.2.1 dX6_pairs_0 (by decide) ?_
  refine lv_istore_n (lv' := [(1, .int (nI 0)), (0, .ref (b 0))]) hz.1 hz.2.1 dX6_pairs_1 rfl hl (by decide) rfl (fun ls hl => ?_)
  refine lv_iconst (v := nI 0) hz.1 hz.2.1 dX6_pairs_2 (by decide) ?_
  refine lv_istore_n (lv' := [(2, .int (nI 0)), (1, .int (nI 0)), (0, .ref (b 0))]) hz.1 hz.2.1 dX6_pairs_3 rfl hl (by decide) rfl (fun ls hl => ?_)
  have lp_4 : ∀ (fu : Nat) (w : Nat), (w ≤ G 0 0 - 1) → G 0 0 - 1 - w < fu → ∀ ls : Array Slot, lv_has ls 4 [(0, .ref (b 0)), (1, .int (nI (fb_sm (sPrF (G 0)) w))), (2, .int (nI w))] → W p_ l_ e_ ({ frames := 2, cells := 0, slots := 0, locals := 45 }) s_ m_ [.ref (b 0)].toArray bl_ me_ c_ s_.heap [] 0 0 (MQ bl_ (QcRead (nI (sPairs (G 0)))) [.ref (b 0)].toArray s_ 0 0 (fun _ => False)) (F0 m_ 4 ls []) := by
    intro fu
    induction fu with
    | zero => intro w hw hm; exact absurd hm (Nat.not_lt_zero _)
    | succ fu ih4 =>
      intro w hw hm ls hl
      refine lv_iload_n hz.1 hz.2.1 dX6_pairs_4 rfl (lv_at hl 2 rfl) ?_
      refine lv_aload_n hz.1 hz.2.1 dX6_pairs_5 rfl (lv_at hl 0 rfl) ?_
      refine rdV (A := wA (mw b k I J G)) (As := []) (rest := [.int (nI w)]) hz okYT (c6_wires l_ D k b I J G  (by omega)) (cwV 0 hz.2.2.2.2 gX6_pairs_X6_wires rfl rfl rfl (by decide +kernel) ⟨Nat.le_of_ble_eq_true rfl, Nat.le_of_ble_eq_true rfl⟩) hK trivial hP hD hS 0 6 rfl rfl rfl rfl hl.1 rfl (Nat.le_of_ble_eq_true rfl) dX6_pairs_6 ⟨Nat.zero_le _, Nat.zero_le _⟩ ?_
      refine jge (tgt := 52) hz dX6_pairs_9 (by decide) (by omega) (by omega) (fun c_9 => ?_) (fun c_9 => ?_)
      · obtain rfl : w = G 0 0 - 1 := by omega
        refine lv_iload_n hz.1 hz.2.1 dX6_pairs_52 rfl (lv_at hl 1 rfl) ?_
        exact rd_iret hz hr hlk dX6_pairs_53 (rfl)
      · refine lv_iconst (v := nI 0) hz.1 hz.2.1 dX6_pairs_12 (by decide) ?_
        refine lv_istore_n (lv' := [(3, .int (nI 0)), (0, .ref (b 0)), (1, .int (nI (fb_sm (sPrF (G 0)) w))), (2, .int (nI w))]) hz.1 hz.2.1 dX6_pairs_13 rfl hl (by decide) rfl (fun ls hl => ?_)
        have lp_14 : ∀ (fu : Nat) (p : Nat), (p ≤ G 0 0) → G 0 0 - p < fu → ∀ ls : Array Slot, lv_has ls 4 [(0, .ref (b 0)), (1, .int (nI (fb_sm (sPrF (G 0)) w + fb_ct (fun z_ => sHears (G 0) z_ w 1) p))), (2, .int (nI w)), (3, .int (nI p))] → W p_ l_ e_ ({ frames := 2, cells := 0, slots := 0, locals := 45 }) s_ m_ [.ref (b 0)].toArray bl_ me_ c_ s_.heap [] 0 0 (MQ bl_ (QcRead (nI (sPairs (G 0)))) [.ref (b 0)].toArray s_ 0 0 (fun _ => False)) (F0 m_ 14 ls []) := by
          intro fu
          induction fu with
          | zero => intro p hp hm; exact absurd hm (Nat.not_lt_zero _)
          | succ fu ih14 =>
            intro p hp hm ls hl
            refine lv_iload_n hz.1 hz.2.1 dX6_pairs_14 rfl (lv_at hl 3 rfl) ?_
            refine lv_aload_n hz.1 hz.2.1 dX6_pairs_15 rfl (lv_at hl 0 rfl) ?_
            refine rdV (A := wA (mw b k I J G)) (As := []) (rest := [.int (nI p)]) hz okYT (c6_line l_ D k b I J G  ) (cwV 0 hz.2.2.2.2 gX6_pairs_X6_line rfl rfl rfl (by decide +kernel) ⟨Nat.le_of_ble_eq_true rfl, Nat.le_of_ble_eq_true rfl⟩) hK trivial hP hD hS 0 6 rfl rfl rfl rfl hl.1 rfl (Nat.le_of_ble_eq_true rfl) dX6_pairs_16 ⟨Nat.zero_le _, Nat.zero_le _⟩ ?_
            refine jge (tgt := 46) hz dX6_pairs_19 (by decide) (by omega) (by omega) (fun c_19 => ?_) (fun c_19 => ?_)
            · obtain rfl : p = G 0 0 := by omega
              refine lv_iinc (v := nI (w + 1)) (lv' := [(2, .int (nI (w + 1))), (0, .ref (b 0)), (1, .int (nI (fb_sm (sPrF (G 0)) w + fb_ct (fun z_ => sHears (G 0) z_ w 1) (G 0 0)))), (3, .int (nI (G 0 0)))]) hz.1 hz.2.1 dX6_pairs_46 hl (k := 2) rfl (nI_add _ 1) (by decide) rfl (fun ls hl => ?_)
              refine lv_goto (tgt := 4) hz.1 hz.2.1 dX6_pairs_49 (by decide) ?_
              exact ih4 (w + 1) (by omega) (by omega) ls (lv_sub hl [1, 2, 0] rfl)
            · refine lv_iload_n hz.1 hz.2.1 dX6_pairs_22 rfl (lv_at hl 1 rfl) ?_
              refine lv_aload_n hz.1 hz.2.1 dX6_pairs_23 rfl (lv_at hl 0 rfl) ?_
              refine lv_iload_n hz.1 hz.2.1 dX6_pairs_24 rfl (lv_at hl 3 rfl) ?_
              refine lv_iload_n hz.1 hz.2.1 dX6_pairs_25 rfl (lv_at hl 2 rfl) ?_
              refine lv_iconst (v := nI 1) hz.1 hz.2.1 dX6_pairs_26 (by decide) ?_
              refine rdV (A := wA (mw b k I J G)) (As := [.int (nI p), .int (nI w), .int (nI 1)]) (rest := [.int (nI (fb_sm (sPrF (G 0)) w + fb_ct (fun z_ => sHears (G 0) z_ w 1) p))]) hz okYT (c6_hears l_ D k b I J G p w 1 hf (by omega) (by omega) (by omega) (by omega)) (cwV 3 hz.2.2.2.2 gX6_pairs_X6_hears rfl rfl rfl (by decide +kernel) ⟨Nat.le_of_ble_eq_true rfl, Nat.le_of_ble_eq_true rfl⟩) hK trivial hP hD hS 0 6 rfl rfl rfl rfl hl.1 rfl (Nat.le_of_ble_eq_true rfl) dX6_pairs_27 ⟨Nat.zero_le _, Nat.zero_le _⟩ ?_
              refine zeq (tgt := 37) hz dX6_pairs_30 (by decide) (fun c_30 => ?_) (fun c_30 => ?_)
              · refine lv_iconst (v := nI 0) hz.1 hz.2.1 dX6_pairs_37 (by decide) ?_
                refine lv_iadd hz.1 hz.2.1 dX6_pairs_38 ?_
                refine toe (z := nI (fb_sm (sPrF (G 0)) w + fb_ct (fun z_ => sHears (G 0) z_ w 1) (p + 1))) (by rw [nI_add, fb_ct_succ]; simp [c_9, c_19, c_30, Nat.add_assoc]) ?_
                refine lv_istore_n (lv' := [(1, .int (nI (fb_sm (sPrF (G 0)) w + fb_ct (fun z_ => sHears (G 0) z_ w 1) (p + 1)))), (0, .ref (b 0)), (2, .int (nI w)), (3, .int (nI p))]) hz.1 hz.2.1 dX6_pairs_39 rfl hl (by decide) rfl (fun ls hl => ?_)
                refine lv_iinc (v := nI (p + 1)) (lv' := [(3, .int (nI (p + 1))), (1, .int (nI (fb_sm (sPrF (G 0)) w + fb_ct (fun z_ => sHears (G 0) z_ w 1) (p + 1)))), (0, .ref (b 0)), (2, .int (nI w))]) hz.1 hz.2.1 dX6_pairs_40 hl (k := 3) rfl (nI_add _ 1) (by decide) rfl (fun ls hl => ?_)
                refine lv_goto (tgt := 14) hz.1 hz.2.1 dX6_pairs_43 (by decide) ?_
                exact ih14 (p + 1) (by omega) (by omega) ls (lv_sub hl [2, 1, 3, 0] rfl)
              · refine lv_iconst (v := nI 1) hz.1 hz.2.1 dX6_pairs_33 (by decide) ?_
                refine lv_goto (tgt := 38) hz.1 hz.2.1 dX6_pairs_34 (by decide) ?_
                refine lv_iadd hz.1 hz.2.1 dX6_pairs_38 ?_
                refine toe (z := nI (fb_sm (sPrF (G 0)) w + fb_ct (fun z_ => sHears (G 0) z_ w 1) (p + 1))) (by rw [nI_add, fb_ct_succ]; simp [c_9, c_19, c_30, Nat.add_assoc]) ?_
                refine lv_istore_n (lv' := [(1, .int (nI (fb_sm (sPrF (G 0)) w + fb_ct (fun z_ => sHears (G 0) z_ w 1) (p + 1)))), (0, .ref (b 0)), (2, .int (nI w)), (3, .int (nI p))]) hz.1 hz.2.1 dX6_pairs_39 rfl hl (by decide) rfl (fun ls hl => ?_)
                refine lv_iinc (v := nI (p + 1)) (lv' := [(3, .int (nI (p + 1))), (1, .int (nI (fb_sm (sPrF (G 0)) w + fb_ct (fun z_ => sHears (G 0) z_ w 1) (p + 1)))), (0, .ref (b 0)), (2, .int (nI w))]) hz.1 hz.2.1 dX6_pairs_40 hl (k := 3) rfl (nI_add _ 1) (by decide) rfl (fun ls hl => ?_)
                refine lv_goto (tgt := 14) hz.1 hz.2.1 dX6_pairs_43 (by decide) ?_
                exact ih14 (p + 1) (by omega) (by omega) ls (lv_sub hl [2, 1, 3, 0] rfl)
        exact lp_14 _ 0 (by omega) (Nat.lt_succ_self _) ls (lv_sub hl [1, 2, 3, 0] rfl)
  exact lp_4 _ 0 (by omega) (Nat.lt_succ_self _) ls (lv_sub hl [2, 1, 0] rfl)

theorem hinX6_doubled : ∀ w ∈ wsX60, w ∈ wsX6_doubled := fun _ h => List.mem_cons_of_mem _ (List.mem_append_right _ h)
set_option maxHeartbeats 4000000 in
set_option maxRecDepth 100000 in
theorem c6_doubled (l_ : Launch) (D : va_G) (k : Nat → ClassId) (b I J : Nat → Nat) (G : Nat → Nat → Nat)  (hf : Wf (G 0)) : Met l_ yX6_doubled wsX6_doubled ({ frames := 3, cells := 0, slots := 0, locals := 68 }) (va_Pc [.ref (b 0)] (wH YT D k (mw b k I J G))) (va_Qi (fun (r : Int32) (u : Unit) => r = oI (sDoubled (G 0))) (fun (u : Unit) (t_ : State) => va_P D vwCl ((fun (_ : Unit) => mw b k I J G) u) t_.heap) (wA (mw b k I J G))) 0 0 (wA (mw b k I J G)) := by
  refine my_entry (cc := cX6_doubled) (maxL := 6) (ret := some .int) (by decide) rfl (Nat.le_of_ble_eq_true rfl) ?_
  intro p_ e_ s_ m_ bl_ me_ c_ hz hr hlk hB ls hl
  obtain ⟨hP, hK, hD0, -⟩ := hB
  have hD := wA.self hD0
  have hS : va_S (wA (mw b k I J G)) s_.heap s_.heap [] := va_S.rf
  have hl : lv_has ls 6 [(0, .ref (b 0))] := hl
  have f0 := hf.n2
  have f1 := hf.n9
  have f2 := hf.fr
  have f3 := hf.gd
  have q1 := sPairs_le hf
  refine lv_aload_n hz.1 hz.2.1 dX6_doubled_0 rfl (lv_at hl 0 rfl) ?_
  refine rdV (A := wA (mw b k I J G)) (As := []) (rest := []) hz okYT (c6_pairs l_ D k b I J G  hf) (cwV 0 hz.2.2.2.2 gX6_doubled_X6_pairs rfl rfl rfl (by decide +kernel) ⟨Nat.le_of_ble_eq_true rfl, Nat.le_of_ble_eq_true rfl⟩) hK trivial hP hD hS 0 6 rfl rfl rfl rfl hl.1 rfl (Nat.le_of_ble_eq_true rfl) dX6_doubled_1 ⟨Nat.zero_le _, Nat.zero_le _⟩ ?_
  refine lv_istore_n (lv' := [(1, .int (nI (sPairs (G 0)))), (0, .ref (b 0))]) hz.1 hz.2.1 dX6_doubled_4 rfl hl (by decide) rfl (fun ls hl => ?_)
  refine lv_iconst (v := (-1)) hz.1 hz.2.1 dX6_doubled_5 (by decide) ?_
  refine toe (z := oI none) (rfl) ?_
  refine lv_istore_n (lv' := [(2, .int (oI none)), (1, .int (nI (sPairs (G 0)))), (0, .ref (b 0))]) hz.1 hz.2.1 dX6_doubled_6 rfl hl (by decide) rfl (fun ls hl => ?_)
  refine lv_iconst (v := nI 0) hz.1 hz.2.1 dX6_doubled_7 (by decide) ?_
  refine lv_istore_n (lv' := [(3, .int (nI 0)), (2, .int (oI none)), (1, .int (nI (sPairs (G 0)))), (0, .ref (b 0))]) hz.1 hz.2.1 dX6_doubled_8 rfl hl (by decide) rfl (fun ls hl => ?_)
  have lp_9 : ∀ (fu : Nat) (w : Nat), (w ≤ G 0 0 - 1) → G 0 0 - 1 - w < fu → ∀ ls : Array Slot, ∀ (H : Heap) (locs : List Loc), va_P D vwCl (mw b k I J G) H → va_S (wA (mw b k I J G)) s_.heap H locs → lv_has ls 6 [(0, .ref (b 0)), (1, .int (nI ((sDb (fun z_ => sPairs (nset (G 0) (3 + z_) 1)) (sPairs (G 0)) w).1))), (2, .int (oI ((sDb (fun z_ => sPairs (nset (G 0) (3 + z_) 1)) (sPairs (G 0)) w).2))), (3, .int (nI w))] → W p_ l_ e_ ({ frames := 3, cells := 0, slots := 0, locals := 68 }) s_ m_ [.ref (b 0)].toArray bl_ me_ c_ H locs 0 0 (MQ bl_ (va_Qi (fun (r : Int32) (u : Unit) => r = oI (sDoubled (G 0))) (fun (u : Unit) (t_ : State) => va_P D vwCl ((fun (_ : Unit) => mw b k I J G) u) t_.heap) (wA (mw b k I J G))) [.ref (b 0)].toArray s_ 0 0 (wA (mw b k I J G))) (F0 m_ 9 ls []) := by
    intro fu
    induction fu with
    | zero => intro w hw hm; exact absurd hm (Nat.not_lt_zero _)
    | succ fu ih9 =>
      intro w hw hm ls H locs hP hS hl
      have hD := mw_D (I' := I) (J' := J) (G' := G) hD
      refine lv_iload_n hz.1 hz.2.1 dX6_doubled_9 rfl (lv_at hl 3 rfl) ?_
      refine lv_aload_n hz.1 hz.2.1 dX6_doubled_10 rfl (lv_at hl 0 rfl) ?_
      refine rdV (A := wA (mw b k I J G)) (As := []) (rest := [.int (nI w)]) hz okYT (c6_wires l_ D k b I J G  (by omega)) (cwV 0 hz.2.2.2.2 gX6_doubled_X6_wires rfl rfl rfl (by decide +kernel) ⟨Nat.le_of_ble_eq_true rfl, Nat.le_of_ble_eq_true rfl⟩) hK trivial hP hD hS 0 6 rfl rfl rfl rfl hl.1 rfl (Nat.le_of_ble_eq_true rfl) dX6_doubled_11 ⟨Nat.zero_le _, Nat.zero_le _⟩ ?_
      refine jge (tgt := 83) hz dX6_doubled_14 (by decide) (by omega) (by omega) (fun c_14 => ?_) (fun c_14 => ?_)
      · obtain rfl : w = G 0 0 - 1 := by omega
        refine lv_iload_n hz.1 hz.2.1 dX6_doubled_83 rfl (lv_at hl 2 rfl) ?_
        exact wr_iret hz hr hlk dX6_doubled_84 hS (()) hP (rfl)
      · have hf2 := hf.kset (w := w) (kd := 1) (by omega) (by omega)
        have q2 := sPairs_le hf2
        have q3 : (sDb (fun z_ => sPairs (nset (G 0) (3 + z_) 1)) (sPairs (G 0)) w).1 ≤ 81 := sDb_le q1 w (fun k hk => sPairs_le (hf.kset (by omega) (by omega)))
        refine lv_aload_n hz.1 hz.2.1 dX6_doubled_17 rfl (lv_at hl 0 rfl) ?_
        refine rg hz hinX6_doubled hK hP 0 rfl rfl 0 (by decide) (List.mem_of_getElem? (i := 1) rfl) rfl (v := .ref (b 1)) rfl dX6_doubled_18 ?_
        refine lv_iconst (v := nI 3) hz.1 hz.2.1 dX6_doubled_21 (by decide) ?_
        refine lv_iload_n hz.1 hz.2.1 dX6_doubled_22 rfl (lv_at hl 3 rfl) ?_
        refine lv_iadd hz.1 hz.2.1 dX6_doubled_23 ?_
        refine toe (z := nI (3 + w)) (nI_add _ _) ?_
        refine rald hz hK hP 1 0 rfl rfl (i := (3 + w)) (by omega) (by decide) (v := nI (G 0 (3 + w))) rfl dX6_doubled_24 ?_
        refine lv_istore (lv' := [(4, .int (nI (G 0 (3 + w)))), (0, .ref (b 0)), (1, .int (nI ((sDb (fun z_ => sPairs (nset (G 0) (3 + z_) 1)) (sPairs (G 0)) w).1))), (2, .int (oI ((sDb (fun z_ => sPairs (nset (G 0) (3 + z_) 1)) (sPairs (G 0)) w).2))), (3, .int (nI w))]) hz.1 hz.2.1 dX6_doubled_25 hl (by decide) rfl (fun ls hl => ?_)
        refine lv_aload_n hz.1 hz.2.1 dX6_doubled_27 rfl (lv_at hl 1 rfl) ?_
        refine rg hz hinX6_doubled hK hP 0 rfl rfl 0 (by decide) (List.mem_of_getElem? (i := 1) rfl) rfl (v := .ref (b 1)) rfl dX6_doubled_28 ?_
        refine lv_iconst (v := nI 3) hz.1 hz.2.1 dX6_doubled_31 (by decide) ?_
        refine lv_iload_n hz.1 hz.2.1 dX6_doubled_32 rfl (lv_at hl 4 rfl) ?_
        refine lv_iadd hz.1 hz.2.1 dX6_doubled_33 ?_
        refine toe (z := nI (3 + w)) (nI_add _ _) ?_
        refine lv_iconst (v := nI 1) hz.1 hz.2.1 dX6_doubled_34 (by decide) ?_
        refine rast hz hK hP hD hS 1 0 rfl rfl (i := (3 + w)) (v := 1) (by omega) (by decide) dX6_doubled_35 (fun H locs hP hS => ?_)
        have hP : va_P D vwCl (mw b k I J (gset G 0 (nset (G 0) (3 + w) 1))) H := hP
        have hD := mw_D (I' := I) (J' := J) (G' := gset G 0 (nset (G 0) (3 + w) 1)) hD
        refine lv_aload_n hz.1 hz.2.1 dX6_doubled_36 rfl (lv_at hl 1 rfl) ?_
        refine rdV (A := wA (mw b k I J G)) (As := []) (rest := []) hz okYT (c6_pairs l_ D k b I J (gset G 0 (nset (G 0) (3 + w) 1))  hf2) (cwV 0 hz.2.2.2.2 gX6_doubled_X6_pairs rfl rfl rfl (by decide +kernel) ⟨Nat.le_of_ble_eq_true rfl, Nat.le_of_ble_eq_true rfl⟩) hK trivial hP hD hS 0 6 rfl rfl rfl rfl hl.1 rfl (Nat.le_of_ble_eq_true rfl) dX6_doubled_37 ⟨Nat.zero_le _, Nat.zero_le _⟩ ?_
        refine lv_istore (lv' := [(5, .int (nI (sPairs (nset (G 0) (3 + w) 1)))), (4, .int (nI (G 0 (3 + w)))), (0, .ref (b 0)), (1, .int (nI ((sDb (fun z_ => sPairs (nset (G 0) (3 + z_) 1)) (sPairs (G 0)) w).1))), (2, .int (oI ((sDb (fun z_ => sPairs (nset (G 0) (3 + z_) 1)) (sPairs (G 0)) w).2))), (3, .int (nI w))]) hz.1 hz.2.1 dX6_doubled_40 hl (by decide) rfl (fun ls hl => ?_)
        refine lv_aload_n hz.1 hz.2.1 dX6_doubled_42 rfl (lv_at hl 2 rfl) ?_
        refine rg hz hinX6_doubled hK hP 0 rfl rfl 0 (by decide) (List.mem_of_getElem? (i := 1) rfl) rfl (v := .ref (b 1)) rfl dX6_doubled_43 ?_
        refine lv_iconst (v := nI 3) hz.1 hz.2.1 dX6_doubled_46 (by decide) ?_
        refine lv_iload_n hz.1 hz.2.1 dX6_doubled_47 rfl (lv_at hl 5 rfl) ?_
        refine lv_iadd hz.1 hz.2.1 dX6_doubled_48 ?_
        refine toe (z := nI (3 + w)) (nI_add _ _) ?_
        refine lv_iload hz.1 hz.2.1 dX6_doubled_49 (lv_at hl 1 rfl) ?_
        refine rast hz hK hP hD hS 1 0 rfl rfl (i := (3 + w)) (v := (G 0 (3 + w))) (by omega) (by decide) dX6_doubled_51 (fun H locs hP hS => ?_)
        have hP : va_P D vwCl (mw b k I J (gset G 0 (nset (nset (G 0) (3 + w) 1) (3 + w) (G 0 (3 + w))))) H := hP
        have hD := mw_D (I' := I) (J' := J) (G' := gset G 0 (nset (nset (G 0) (3 + w) 1) (3 + w) (G 0 (3 + w)))) hD
        have hP : va_P D vwCl (mw b k I J (gset G 0 (G 0))) H := by rw [nset_back] at hP; exact hP
        have hD := mw_D (I' := I) (J' := J) (G' := gset G 0 (G 0)) hD
        refine lv_iload hz.1 hz.2.1 dX6_doubled_52 (lv_at hl 0 rfl) ?_
        refine lv_iload_n hz.1 hz.2.1 dX6_doubled_54 rfl (lv_at hl 3 rfl) ?_
        refine jle (tgt := 62) hz dX6_doubled_55 (by decide) (by omega) (by omega) (fun c_55 => ?_) (fun c_55 => ?_)
        · refine lv_iload_n hz.1 hz.2.1 dX6_doubled_62 rfl (lv_at hl 4 rfl) ?_
          refine toe (z := oI ((sDb (fun z_ => sPairs (nset (G 0) (3 + z_) 1)) (sPairs (G 0)) (w + 1)).2)) (by rw [sDb, if_neg c_55]) ?_
          refine lv_istore_n (lv' := [(2, .int (oI ((sDb (fun z_ => sPairs (nset (G 0) (3 + z_) 1)) (sPairs (G 0)) (w + 1)).2))), (5, .int (nI (sPairs (nset (G 0) (3 + w) 1)))), (4, .int (nI (G 0 (3 + w)))), (0, .ref (b 0)), (1, .int (nI ((sDb (fun z_ => sPairs (nset (G 0) (3 + z_) 1)) (sPairs (G 0)) w).1))), (3, .int (nI w))]) hz.1 hz.2.1 dX6_doubled_63 rfl hl (by decide) rfl (fun ls hl => ?_)
          refine lv_iload hz.1 hz.2.1 dX6_doubled_64 (lv_at hl 1 rfl) ?_
          refine lv_iload_n hz.1 hz.2.1 dX6_doubled_66 rfl (lv_at hl 4 rfl) ?_
          refine jle (tgt := 75) hz dX6_doubled_67 (by decide) (by omega) (by omega) (fun c_67 => ?_) (fun c_67 => ?_)
          · refine lv_iload_n hz.1 hz.2.1 dX6_doubled_75 rfl (lv_at hl 4 rfl) ?_
            refine toe (z := nI ((sDb (fun z_ => sPairs (nset (G 0) (3 + z_) 1)) (sPairs (G 0)) (w + 1)).1)) (by rw [sDb, if_neg c_67]) ?_
            refine lv_istore_n (lv' := [(1, .int (nI ((sDb (fun z_ => sPairs (nset (G 0) (3 + z_) 1)) (sPairs (G 0)) (w + 1)).1))), (2, .int (oI ((sDb (fun z_ => sPairs (nset (G 0) (3 + z_) 1)) (sPairs (G 0)) (w + 1)).2))), (5, .int (nI (sPairs (nset (G 0) (3 + w) 1)))), (4, .int (nI (G 0 (3 + w)))), (0, .ref (b 0)), (3, .int (nI w))]) hz.1 hz.2.1 dX6_doubled_76 rfl hl (by decide) rfl (fun ls hl => ?_)
            refine lv_iinc (v := nI (w + 1)) (lv' := [(3, .int (nI (w + 1))), (1, .int (nI ((sDb (fun z_ => sPairs (nset (G 0) (3 + z_) 1)) (sPairs (G 0)) (w + 1)).1))), (2, .int (oI ((sDb (fun z_ => sPairs (nset (G 0) (3 + z_) 1)) (sPairs (G 0)) (w + 1)).2))), (5, .int (nI (sPairs (nset (G 0) (3 + w) 1)))), (4, .int (nI (G 0 (3 + w)))), (0, .ref (b 0))]) hz.1 hz.2.1 dX6_doubled_77 hl (k := 5) rfl (nI_add _ 1) (by decide) rfl (fun ls hl => ?_)
            refine lv_goto (tgt := 9) hz.1 hz.2.1 dX6_doubled_80 (by decide) ?_
            exact ih9 (w + 1) (by omega) (by omega) ls H locs hP hS (lv_sub hl [5, 1, 2, 0] rfl)
          · exfalso; omega
        · refine lv_iload_n hz.1 hz.2.1 dX6_doubled_58 rfl (lv_at hl 5 rfl) ?_
          refine lv_goto (tgt := 63) hz.1 hz.2.1 dX6_doubled_59 (by decide) ?_
          refine toe (z := oI ((sDb (fun z_ => sPairs (nset (G 0) (3 + z_) 1)) (sPairs (G 0)) (w + 1)).2)) (by rw [sDb, if_pos c_55]; rfl) ?_
          refine lv_istore_n (lv' := [(2, .int (oI ((sDb (fun z_ => sPairs (nset (G 0) (3 + z_) 1)) (sPairs (G 0)) (w + 1)).2))), (5, .int (nI (sPairs (nset (G 0) (3 + w) 1)))), (4, .int (nI (G 0 (3 + w)))), (0, .ref (b 0)), (1, .int (nI ((sDb (fun z_ => sPairs (nset (G 0) (3 + z_) 1)) (sPairs (G 0)) w).1))), (3, .int (nI w))]) hz.1 hz.2.1 dX6_doubled_63 rfl hl (by decide) rfl (fun ls hl => ?_)
          refine lv_iload hz.1 hz.2.1 dX6_doubled_64 (lv_at hl 1 rfl) ?_
          refine lv_iload_n hz.1 hz.2.1 dX6_doubled_66 rfl (lv_at hl 4 rfl) ?_
          refine jle (tgt := 75) hz dX6_doubled_67 (by decide) (by omega) (by omega) (fun c_67 => ?_) (fun c_67 => ?_)
          · exfalso; omega
          · refine lv_iload hz.1 hz.2.1 dX6_doubled_70 (lv_at hl 1 rfl) ?_
            refine lv_goto (tgt := 76) hz.1 hz.2.1 dX6_doubled_72 (by decide) ?_
            refine toe (z := nI ((sDb (fun z_ => sPairs (nset (G 0) (3 + z_) 1)) (sPairs (G 0)) (w + 1)).1)) (by rw [sDb, if_pos c_67]) ?_
            refine lv_istore_n (lv' := [(1, .int (nI ((sDb (fun z_ => sPairs (nset (G 0) (3 + z_) 1)) (sPairs (G 0)) (w + 1)).1))), (2, .int (oI ((sDb (fun z_ => sPairs (nset (G 0) (3 + z_) 1)) (sPairs (G 0)) (w + 1)).2))), (5, .int (nI (sPairs (nset (G 0) (3 + w) 1)))), (4, .int (nI (G 0 (3 + w)))), (0, .ref (b 0)), (3, .int (nI w))]) hz.1 hz.2.1 dX6_doubled_76 rfl hl (by decide) rfl (fun ls hl => ?_)
            refine lv_iinc (v := nI (w + 1)) (lv' := [(3, .int (nI (w + 1))), (1, .int (nI ((sDb (fun z_ => sPairs (nset (G 0) (3 + z_) 1)) (sPairs (G 0)) (w + 1)).1))), (2, .int (oI ((sDb (fun z_ => sPairs (nset (G 0) (3 + z_) 1)) (sPairs (G 0)) (w + 1)).2))), (5, .int (nI (sPairs (nset (G 0) (3 + w) 1)))), (4, .int (nI (G 0 (3 + w)))), (0, .ref (b 0))]) hz.1 hz.2.1 dX6_doubled_77 hl (k := 5) rfl (nI_add _ 1) (by decide) rfl (fun ls hl => ?_)
            refine lv_goto (tgt := 9) hz.1 hz.2.1 dX6_doubled_80 (by decide) ?_
            exact ih9 (w + 1) (by omega) (by omega) ls H locs hP hS (lv_sub hl [5, 1, 2, 0] rfl)
  exact lp_9 _ 0 (by omega) (Nat.lt_succ_self _) ls _ _ hP hS (lv_sub hl [3, 2, 1, 0] rfl)

theorem hinX6_doubt : ∀ w ∈ wsX60, w ∈ wsX6_doubt := fun _ h => List.mem_cons_of_mem _ (List.mem_append_right _ h)
set_option maxHeartbeats 4000000 in
set_option maxRecDepth 100000 in
theorem c6_doubt_bad (l_ : Launch) (D : va_G) (k : Nat → ClassId) (b I J : Nat → Nat) (G : Nat → Nat → Nat) (x1 x2 : Int32) (hb : (wIn x1 0 100 && wIn x2 0 100) = false) : Met l_ yX6_doubt wsX6_doubt ({ frames := 1, cells := 0, slots := 0, locals := 25 }) (va_Pc [.ref (b 0), .int x1, .int x2] (wH YT D k (mw b k I J G))) (va_Qi (fun (r : Int32) (u : Unit) => r = -2) (fun (u : Unit) (t_ : State) => va_P D vwCl ((fun (_ : Unit) => mw b k I J (gset G 3 (sRef (G 3) 0))) u) t_.heap) (wA (mw b k I J G))) 0 0 (wA (mw b k I J G)) := by
  refine my_entry (cc := cX6_doubt) (maxL := 4) (ret := some .int) (by decide) rfl (Nat.le_of_ble_eq_true rfl) ?_
  intro p_ e_ s_ m_ bl_ me_ c_ hz hr hlk hB ls hl
  obtain ⟨hP, hK, hD0, -⟩ := hB
  have hD := wA.self hD0
  have hS : va_S (wA (mw b k I J G)) s_.heap s_.heap [] := va_S.rf
  have hl : lv_has ls 4 [(0, .ref (b 0)), (1, .int x1), (2, .int x2)] := hl
  refine lv_iload_n hz.1 hz.2.1 dX6_doubt_0 rfl (lv_at hl 1 rfl) ?_
  refine lv_i2l (v := x1.toInt64) hz.1 hz.2.1 dX6_doubt_1 (rfl) ?_
  refine lv_lconst (v := lN 0) hz.1 hz.2.1 dX6_doubt_2 (by decide) ?_
  refine lv_ldc2 (own := RX6) (v := lN 100) hz.1 hz.2.1 hz.2.2.2.1 (hz.2.2.2.2 (.constantLong RX6 201 (100)) (List.mem_of_getElem? (i := 1) rfl)) dX6_doubt_3 ?_
  refine rdS (As := [.long x1.toInt64, .long (lN 0), .long (lN 100)]) (rest := []) hz (c6_in l_ x1 0 100 (by omega) (by omega)) rfl (va_cwS 3 hz.2.2.2.2 gX6_doubt_X6_in rfl rfl rfl (by decide +kernel) ⟨Nat.le_of_ble_eq_true rfl, Nat.le_of_ble_eq_true rfl⟩) rfl hl.1 rfl (Nat.le_of_ble_eq_true rfl) dX6_doubt_6 ⟨Nat.zero_le _, Nat.zero_le _⟩ ?_
  refine zeq (tgt := 24) hz dX6_doubt_9 (by decide) (fun c_9 => ?_) (fun c_9 => ?_)
  · refine lv_aload_n hz.1 hz.2.1 dX6_doubt_24 rfl (lv_at hl 0 rfl) ?_
    refine lv_bipush (v := (-2)) hz.1 hz.2.1 dX6_doubt_25 (by decide) ?_
    refine wrV (A := wA (mw b k I J G)) (As := [.int (-2)]) (rest := []) hz okYT (c6_bad l_ D k b I J G (-2) ) (cwV 1 hz.2.2.2.2 gX6_doubt_X6_bad rfl rfl rfl (by decide +kernel) ⟨Nat.le_of_ble_eq_true rfl, Nat.le_of_ble_eq_true rfl⟩) hK trivial hP hD hS 0 6 rfl rfl rfl rfl hl.1 rfl (Nat.le_of_ble_eq_true rfl) dX6_doubt_27 ⟨Nat.zero_le _, Nat.zero_le _⟩ (fun r u H locs hp hP hS _ => ?_)
    obtain rfl : r = -2 := hp
    have hP : va_P D vwCl (mw b k I J (gset G 3 (sRef (G 3) 0))) H := hP
    have hD := mw_D (I' := I) (J' := J) (G' := gset G 3 (sRef (G 3) 0)) hD
    exact wr_iret hz hr hlk dX6_doubt_30 hS (()) hP (rfl)
  · refine lv_iload_n hz.1 hz.2.1 dX6_doubt_12 rfl (lv_at hl 2 rfl) ?_
    refine lv_i2l (v := x2.toInt64) hz.1 hz.2.1 dX6_doubt_13 (rfl) ?_
    refine lv_lconst (v := lN 0) hz.1 hz.2.1 dX6_doubt_14 (by decide) ?_
    refine lv_ldc2 (own := RX6) (v := lN 100) hz.1 hz.2.1 hz.2.2.2.1 (hz.2.2.2.2 (.constantLong RX6 201 (100)) (List.mem_of_getElem? (i := 1) rfl)) dX6_doubt_15 ?_
    refine rdS (As := [.long x2.toInt64, .long (lN 0), .long (lN 100)]) (rest := []) hz (c6_in l_ x2 0 100 (by omega) (by omega)) rfl (va_cwS 3 hz.2.2.2.2 gX6_doubt_X6_in rfl rfl rfl (by decide +kernel) ⟨Nat.le_of_ble_eq_true rfl, Nat.le_of_ble_eq_true rfl⟩) rfl hl.1 rfl (Nat.le_of_ble_eq_true rfl) dX6_doubt_18 ⟨Nat.zero_le _, Nat.zero_le _⟩ ?_
    refine zne (tgt := 31) hz dX6_doubt_21 (by decide) (fun c_21 => ?_) (fun c_21 => ?_)
    · simp [c_9, c_21] at hb
    · refine lv_aload_n hz.1 hz.2.1 dX6_doubt_24 rfl (lv_at hl 0 rfl) ?_
      refine lv_bipush (v := (-2)) hz.1 hz.2.1 dX6_doubt_25 (by decide) ?_
      refine wrV (A := wA (mw b k I J G)) (As := [.int (-2)]) (rest := []) hz okYT (c6_bad l_ D k b I J G (-2) ) (cwV 1 hz.2.2.2.2 gX6_doubt_X6_bad rfl rfl rfl (by decide +kernel) ⟨Nat.le_of_ble_eq_true rfl, Nat.le_of_ble_eq_true rfl⟩) hK trivial hP hD hS 0 6 rfl rfl rfl rfl hl.1 rfl (Nat.le_of_ble_eq_true rfl) dX6_doubt_27 ⟨Nat.zero_le _, Nat.zero_le _⟩ (fun r u H locs hp hP hS _ => ?_)
      obtain rfl : r = -2 := hp
      have hP : va_P D vwCl (mw b k I J (gset G 3 (sRef (G 3) 0))) H := hP
      have hD := mw_D (I' := I) (J' := J) (G' := gset G 3 (sRef (G 3) 0)) hD
      exact wr_iret hz hr hlk dX6_doubt_30 hS (()) hP (rfl)

set_option maxHeartbeats 4000000 in
set_option maxRecDepth 100000 in
theorem c6_doubt_ok (l_ : Launch) (D : va_G) (k : Nat → ClassId) (b I J : Nat → Nat) (G : Nat → Nat → Nat) (p q : Nat) (h1 : p ≤ 100) (h2 : q ≤ 100) : Met l_ yX6_doubt wsX6_doubt ({ frames := 1, cells := 0, slots := 0, locals := 30 }) (va_Pc [.ref (b 0), .int (nI p), .int (nI q)] (wH YT D k (mw b k I J G))) (va_Qi (fun (r : Int32) (u : Unit) => r = nI 1) (fun (u : Unit) (t_ : State) => va_P D vwCl ((fun (_ : Unit) => mw b k I (nset (nset J 0 ((100 * p) / Nat.gcd (100 * p) (sDu p q))) 1 ((sDu p q) / Nat.gcd (100 * p) (sDu p q))) G) u) t_.heap) (wA (mw b k I J G))) 0 0 (wA (mw b k I J G)) := by
  refine my_entry (cc := cX6_doubt) (maxL := 4) (ret := some .int) (by decide) rfl (Nat.le_of_ble_eq_true rfl) ?_
  intro p_ e_ s_ m_ bl_ me_ c_ hz hr hlk hB ls hl
  obtain ⟨hP, hK, hD0, -⟩ := hB
  have hD := wA.self hD0
  have hS : va_S (wA (mw b k I J G)) s_.heap s_.heap [] := va_S.rf
  have hl : lv_has ls 4 [(0, .ref (b 0)), (1, .int (nI p)), (2, .int (nI q))] := hl
  have q1 : p * q ≤ 100 * q := Nat.mul_le_mul_right q h1
  refine lv_iload_n hz.1 hz.2.1 dX6_doubt_0 rfl (lv_at hl 1 rfl) ?_
  refine lv_i2l (v := (nI p).toInt64) hz.1 hz.2.1 dX6_doubt_1 (rfl) ?_
  refine lv_lconst (v := lN 0) hz.1 hz.2.1 dX6_doubt_2 (by decide) ?_
  refine lv_ldc2 (own := RX6) (v := lN 100) hz.1 hz.2.1 hz.2.2.2.1 (hz.2.2.2.2 (.constantLong RX6 201 (100)) (List.mem_of_getElem? (i := 1) rfl)) dX6_doubt_3 ?_
  refine rdS (As := [.long ((nI p).toInt64), .long (lN 0), .long (lN 100)]) (rest := []) hz (c6_in l_ (nI p) 0 100 (by omega) (by omega)) rfl (va_cwS 3 hz.2.2.2.2 gX6_doubt_X6_in rfl rfl rfl (by decide +kernel) ⟨Nat.le_of_ble_eq_true rfl, Nat.le_of_ble_eq_true rfl⟩) rfl hl.1 rfl (Nat.le_of_ble_eq_true rfl) dX6_doubt_6 ⟨Nat.zero_le _, Nat.zero_le _⟩ ?_
  refine zeq (tgt := 24) hz dX6_doubt_9 (by decide) (fun c_9 => ?_) (fun c_9 => ?_)
  · exact absurd ((wIn_ok (by omega) (by omega) (by omega)).symm.trans c_9) (by decide)
  · refine lv_iload_n hz.1 hz.2.1 dX6_doubt_12 rfl (lv_at hl 2 rfl) ?_
    refine lv_i2l (v := (nI q).toInt64) hz.1 hz.2.1 dX6_doubt_13 (rfl) ?_
    refine lv_lconst (v := lN 0) hz.1 hz.2.1 dX6_doubt_14 (by decide) ?_
    refine lv_ldc2 (own := RX6) (v := lN 100) hz.1 hz.2.1 hz.2.2.2.1 (hz.2.2.2.2 (.constantLong RX6 201 (100)) (List.mem_of_getElem? (i := 1) rfl)) dX6_doubt_15 ?_
    refine rdS (As := [.long ((nI q).toInt64), .long (lN 0), .long (lN 100)]) (rest := []) hz (c6_in l_ (nI q) 0 100 (by omega) (by omega)) rfl (va_cwS 3 hz.2.2.2.2 gX6_doubt_X6_in rfl rfl rfl (by decide +kernel) ⟨Nat.le_of_ble_eq_true rfl, Nat.le_of_ble_eq_true rfl⟩) rfl hl.1 rfl (Nat.le_of_ble_eq_true rfl) dX6_doubt_18 ⟨Nat.zero_le _, Nat.zero_le _⟩ ?_
    refine zne (tgt := 31) hz dX6_doubt_21 (by decide) (fun c_21 => ?_) (fun c_21 => ?_)
    · refine lv_bipush (v := nI 100) hz.1 hz.2.1 dX6_doubt_31 (by decide) ?_
      refine lv_iload_n hz.1 hz.2.1 dX6_doubt_33 rfl (lv_at hl 1 rfl) ?_
      refine lv_imul hz.1 hz.2.1 dX6_doubt_34 ?_
      refine toe (z := nI (100 * p)) (pk_mul _ _) ?_
      refine lv_bipush (v := nI 100) hz.1 hz.2.1 dX6_doubt_35 (by decide) ?_
      refine lv_iload_n hz.1 hz.2.1 dX6_doubt_37 rfl (lv_at hl 2 rfl) ?_
      refine lv_imul hz.1 hz.2.1 dX6_doubt_38 ?_
      refine toe (z := nI (100 * q)) (pk_mul _ _) ?_
      refine lv_iadd hz.1 hz.2.1 dX6_doubt_39 ?_
      refine toe (z := nI ((100 * p) + (100 * q))) (nI_add _ _) ?_
      refine lv_iload_n hz.1 hz.2.1 dX6_doubt_40 rfl (lv_at hl 1 rfl) ?_
      refine lv_iload_n hz.1 hz.2.1 dX6_doubt_41 rfl (lv_at hl 2 rfl) ?_
      refine lv_imul hz.1 hz.2.1 dX6_doubt_42 ?_
      refine toe (z := nI (p * q)) (pk_mul _ _) ?_
      refine lv_isub hz.1 hz.2.1 dX6_doubt_43 ?_
      refine toe (z := nI (((100 * p) + (100 * q)) - (p * q))) (pk_sub (by omega)) ?_
      refine lv_istore_n (lv' := [(3, .int (nI (((100 * p) + (100 * q)) - (p * q)))), (0, .ref (b 0)), (1, .int (nI p)), (2, .int (nI q))]) hz.1 hz.2.1 dX6_doubt_44 rfl hl (by decide) rfl (fun ls hl => ?_)
      refine lv_iload_n hz.1 hz.2.1 dX6_doubt_45 rfl (lv_at hl 0 rfl) ?_
      refine jne0 (tgt := 58) hz dX6_doubt_46 (by decide) (by omega) (fun c_46 => ?_) (fun c_46 => ?_)
      · refine lv_aload_n hz.1 hz.2.1 dX6_doubt_58 rfl (lv_at hl 1 rfl) ?_
        refine lv_ldc2 (own := RX6) (v := lN 100) hz.1 hz.2.1 hz.2.2.2.1 (hz.2.2.2.2 (.constantLong RX6 201 (100)) (List.mem_of_getElem? (i := 1) rfl)) dX6_doubt_59 ?_
        refine lv_iload_n hz.1 hz.2.1 dX6_doubt_62 rfl (lv_at hl 2 rfl) ?_
        refine lv_i2l (v := lN p) hz.1 hz.2.1 dX6_doubt_63 (nI_l (by omega)) ?_
        refine lv_lmul hz.1 hz.2.1 dX6_doubt_64 ?_
        refine toeL (z := lN (100 * p)) (lN_mul _ _) ?_
        refine lv_iload_n hz.1 hz.2.1 dX6_doubt_65 rfl (lv_at hl 0 rfl) ?_
        refine lv_i2l (v := lN (((100 * p) + (100 * q)) - (p * q))) hz.1 hz.2.1 dX6_doubt_66 (nI_l (by omega)) ?_
        refine wrV (A := wA (mw b k I J G)) (As := [.long (lN (100 * p)), .long (lN (((100 * p) + (100 * q)) - (p * q)))]) (rest := []) hz okYT (c6_tell l_ D k b I J G (100 * p) (((100 * p) + (100 * q)) - (p * q)) (by omega) (by omega) (by omega)) (cwV 2 hz.2.2.2.2 gX6_doubt_X6_tell rfl rfl rfl (by decide +kernel) ⟨Nat.le_of_ble_eq_true rfl, Nat.le_of_ble_eq_true rfl⟩) hK trivial hP hD hS 0 6 rfl rfl rfl rfl hl.1 rfl (Nat.le_of_ble_eq_true rfl) dX6_doubt_67 ⟨Nat.zero_le _, Nat.zero_le _⟩ (fun r u H locs hp hP hS _ => ?_)
        obtain rfl : r = nI 1 := hp
        have hP : va_P D vwCl (mw b k I (nset (nset J 0 ((100 * p) / Nat.gcd (100 * p) (((100 * p) + (100 * q)) - (p * q)))) 1 ((((100 * p) + (100 * q)) - (p * q)) / Nat.gcd (100 * p) (((100 * p) + (100 * q)) - (p * q)))) G) H := hP
        have hD := mw_D (I' := I) (J' := nset (nset J 0 ((100 * p) / Nat.gcd (100 * p) (((100 * p) + (100 * q)) - (p * q)))) 1 ((((100 * p) + (100 * q)) - (p * q)) / Nat.gcd (100 * p) (((100 * p) + (100 * q)) - (p * q)))) (G' := G) hD
        have e0 : sDu p q = 100 * p + 100 * q - p * q := if_neg c_46
        have hP : va_P D vwCl (mw b k I (nset (nset J 0 (100 * p / Nat.gcd (100 * p) (sDu p q))) 1 (sDu p q / Nat.gcd (100 * p) (sDu p q))) G) H := by rw [e0]; exact hP
        exact wr_iret hz hr hlk dX6_doubt_70 hS (()) hP (rfl)
      · refine lv_aload_n hz.1 hz.2.1 dX6_doubt_49 rfl (lv_at hl 1 rfl) ?_
        refine lv_lconst (v := lN 0) hz.1 hz.2.1 dX6_doubt_50 (by decide) ?_
        refine lv_lconst (v := lN 1) hz.1 hz.2.1 dX6_doubt_51 (by decide) ?_
        refine wrV (A := wA (mw b k I J G)) (As := [.long (lN 0), .long (lN 1)]) (rest := []) hz okYT (c6_tell l_ D k b I J G 0 1 (by omega) (by omega) (by omega)) (cwV 2 hz.2.2.2.2 gX6_doubt_X6_tell rfl rfl rfl (by decide +kernel) ⟨Nat.le_of_ble_eq_true rfl, Nat.le_of_ble_eq_true rfl⟩) hK trivial hP hD hS 0 6 rfl rfl rfl rfl hl.1 rfl (Nat.le_of_ble_eq_true rfl) dX6_doubt_52 ⟨Nat.zero_le _, Nat.zero_le _⟩ (fun r u H locs hp hP hS _ => ?_)
        obtain rfl : r = nI 1 := hp
        have hP : va_P D vwCl (mw b k I (nset (nset J 0 (0 / Nat.gcd 0 1)) 1 (1 / Nat.gcd 0 1)) G) H := hP
        have hD := mw_D (I' := I) (J' := nset (nset J 0 (0 / Nat.gcd 0 1)) 1 (1 / Nat.gcd 0 1)) (G' := G) hD
        refine lv_goto (tgt := 70) hz.1 hz.2.1 dX6_doubt_55 (by decide) ?_
        have e0 : sDu p q = 1 := if_pos c_46
        have ep : p = 0 := by have q2 : p * q ≤ p * 100 := Nat.mul_le_mul_left p h2; omega
        have hP : va_P D vwCl (mw b k I (nset (nset J 0 (100 * p / Nat.gcd (100 * p) (sDu p q))) 1 (sDu p q / Nat.gcd (100 * p) (sDu p q))) G) H := by rw [e0, ep]; exact hP
        exact wr_iret hz hr hlk dX6_doubt_70 hS (()) hP (rfl)
    · exact absurd ((wIn_ok (by omega) (by omega) (by omega)).symm.trans c_21) (by decide)

theorem hinX6_type : ∀ w ∈ wsX60, w ∈ wsX6_type := fun _ h => List.mem_cons_of_mem _ (List.mem_append_right _ h)
set_option maxHeartbeats 4000000 in
set_option maxRecDepth 100000 in
theorem c6_type_bad (l_ : Launch) (D : va_G) (k : Nat → ClassId) (b I J : Nat → Nat) (G : Nat → Nat → Nat) (v : Int64) (x : Int32) (hb : wIn x 1 8 = false) : Met l_ yX6_type wsX6_type ({ frames := 1, cells := 0, slots := 0, locals := 25 }) (va_Pc [.ref (b 0), .long v, .int x] (wH YT D k (mw b k I J G))) (va_Qi (fun (r : Int32) (u : Unit) => r = -2) (fun (u : Unit) (t_ : State) => va_P D vwCl ((fun (_ : Unit) => mw b k I J (gset G 3 (sRef (G 3) 0))) u) t_.heap) (wA (mw b k I J G))) 0 0 (wA (mw b k I J G)) := by
  refine my_entry (cc := cX6_type) (maxL := 5) (ret := some .int) (by decide) rfl (Nat.le_of_ble_eq_true rfl) ?_
  intro p_ e_ s_ m_ bl_ me_ c_ hz hr hlk hB ls hl
  obtain ⟨hP, hK, hD0, -⟩ := hB
  have hD := wA.self hD0
  have hS : va_S (wA (mw b k I J G)) s_.heap s_.heap [] := va_S.rf
  have hl : lv_has ls 5 [(0, .ref (b 0)), (1, .long v), (3, .int x)] := hl
  refine lv_iload_n hz.1 hz.2.1 dX6_type_0 rfl (lv_at hl 2 rfl) ?_
  refine lv_i2l (v := x.toInt64) hz.1 hz.2.1 dX6_type_1 (rfl) ?_
  refine lv_lconst (v := lN 1) hz.1 hz.2.1 dX6_type_2 (by decide) ?_
  refine lv_ldc2 (own := RX6) (v := lN 8) hz.1 hz.2.1 hz.2.2.2.1 (hz.2.2.2.2 (.constantLong RX6 203 (8)) (List.mem_of_getElem? (i := 1) rfl)) dX6_type_3 ?_
  refine rdS (As := [.long x.toInt64, .long (lN 1), .long (lN 8)]) (rest := []) hz (c6_in l_ x 1 8 (by omega) (by omega)) rfl (va_cwS 3 hz.2.2.2.2 gX6_type_X6_in rfl rfl rfl (by decide +kernel) ⟨Nat.le_of_ble_eq_true rfl, Nat.le_of_ble_eq_true rfl⟩) rfl hl.1 rfl (Nat.le_of_ble_eq_true rfl) dX6_type_6 ⟨Nat.zero_le _, Nat.zero_le _⟩ ?_
  refine zne (tgt := 19) hz dX6_type_9 (by decide) (fun c_9 => ?_) (fun c_9 => ?_)
  · simp [c_9] at hb
  · refine lv_aload_n hz.1 hz.2.1 dX6_type_12 rfl (lv_at hl 0 rfl) ?_
    refine lv_bipush (v := (-2)) hz.1 hz.2.1 dX6_type_13 (by decide) ?_
    refine wrV (A := wA (mw b k I J G)) (As := [.int (-2)]) (rest := []) hz okYT (c6_bad l_ D k b I J G (-2) ) (cwV 1 hz.2.2.2.2 gX6_type_X6_bad rfl rfl rfl (by decide +kernel) ⟨Nat.le_of_ble_eq_true rfl, Nat.le_of_ble_eq_true rfl⟩) hK trivial hP hD hS 0 6 rfl rfl rfl rfl hl.1 rfl (Nat.le_of_ble_eq_true rfl) dX6_type_15 ⟨Nat.zero_le _, Nat.zero_le _⟩ (fun r u H locs hp hP hS _ => ?_)
    obtain rfl : r = -2 := hp
    have hP : va_P D vwCl (mw b k I J (gset G 3 (sRef (G 3) 0))) H := hP
    have hD := mw_D (I' := I) (J' := J) (G' := gset G 3 (sRef (G 3) 0)) hD
    exact wr_iret hz hr hlk dX6_type_18 hS (()) hP (rfl)

set_option maxHeartbeats 4000000 in
set_option maxRecDepth 100000 in
theorem c6_type_ok (l_ : Launch) (D : va_G) (k : Nat → ClassId) (b I J : Nat → Nat) (G : Nat → Nat → Nat) (v : Int64) (n : Nat) (h1 : 1 ≤ n) (h2 : n ≤ 8) (h3 : I 0 + n ≤ 200) : Met l_ yX6_type wsX6_type ({ frames := 1, cells := 0, slots := 0, locals := 25 }) (va_Pc [.ref (b 0), .long v, .int (nI n)] (wH YT D k (mw b k I J G))) (va_Qi (fun (r : Int32) (u : Unit) => r = nI (I 0 + n)) (fun (u : Unit) (t_ : State) => va_P D vwCl ((fun (_ : Unit) => mw b k (nset I 0 (I 0 + n)) J (gset G 9 (sTy (G 9) (I 0) v n n))) u) t_.heap) (wA (mw b k I J G))) 0 0 (wA (mw b k I J G)) := by
  refine my_entry (cc := cX6_type) (maxL := 5) (ret := some .int) (by decide) rfl (Nat.le_of_ble_eq_true rfl) ?_
  intro p_ e_ s_ m_ bl_ me_ c_ hz hr hlk hB ls hl
  obtain ⟨hP, hK, hD0, -⟩ := hB
  have hD := wA.self hD0
  have hS : va_S (wA (mw b k I J G)) s_.heap s_.heap [] := va_S.rf
  have hl : lv_has ls 5 [(0, .ref (b 0)), (1, .long v), (3, .int (nI n))] := hl
  refine lv_iload_n hz.1 hz.2.1 dX6_type_0 rfl (lv_at hl 2 rfl) ?_
  refine lv_i2l (v := (nI n).toInt64) hz.1 hz.2.1 dX6_type_1 (rfl) ?_
  refine lv_lconst (v := lN 1) hz.1 hz.2.1 dX6_type_2 (by decide) ?_
  refine lv_ldc2 (own := RX6) (v := lN 8) hz.1 hz.2.1 hz.2.2.2.1 (hz.2.2.2.2 (.constantLong RX6 203 (8)) (List.mem_of_getElem? (i := 1) rfl)) dX6_type_3 ?_
  refine rdS (As := [.long ((nI n).toInt64), .long (lN 1), .long (lN 8)]) (rest := []) hz (c6_in l_ (nI n) 1 8 (by omega) (by omega)) rfl (va_cwS 3 hz.2.2.2.2 gX6_type_X6_in rfl rfl rfl (by decide +kernel) ⟨Nat.le_of_ble_eq_true rfl, Nat.le_of_ble_eq_true rfl⟩) rfl hl.1 rfl (Nat.le_of_ble_eq_true rfl) dX6_type_6 ⟨Nat.zero_le _, Nat.zero_le _⟩ ?_
  refine zne (tgt := 19) hz dX6_type_9 (by decide) (fun c_9 => ?_) (fun c_9 => ?_)
  · refine lv_aload_n hz.1 hz.2.1 dX6_type_19 rfl (lv_at hl 0 rfl) ?_
    refine rg hz hinX6_type hK hP 0 rfl rfl 12 (by decide) (List.mem_of_getElem? (i := 2) rfl) rfl (v := .int (nI (I 0))) rfl dX6_type_20 ?_
    refine lv_iload_n hz.1 hz.2.1 dX6_type_23 rfl (lv_at hl 2 rfl) ?_
    refine lv_iadd hz.1 hz.2.1 dX6_type_24 ?_
    refine toe (z := nI ((I 0) + n)) (nI_add _ _) ?_
    refine lv_sipush (v := nI 200) hz.1 hz.2.1 dX6_type_25 (by decide) ?_
    refine jle (tgt := 36) hz dX6_type_28 (by decide) (by omega) (by omega) (fun c_28 => ?_) (fun c_28 => ?_)
    · refine lv_iload_n hz.1 hz.2.1 dX6_type_36 rfl (lv_at hl 2 rfl) ?_
      refine lv_iconst (v := nI 1) hz.1 hz.2.1 dX6_type_37 (by decide) ?_
      refine lv_isub hz.1 hz.2.1 dX6_type_38 ?_
      refine toe (z := nI (n - 0) - nI 1) (rfl) ?_
      refine lv_istore (lv' := [(4, .int (nI (n - 0) - nI 1)), (0, .ref (b 0)), (1, .long v), (3, .int (nI n))]) hz.1 hz.2.1 dX6_type_39 hl (by decide) rfl (fun ls hl => ?_)
      have lp_41 : ∀ (fu : Nat) (i : Nat), (i ≤ n) → n - i < fu → ∀ ls : Array Slot, ∀ (H : Heap) (locs : List Loc), va_P D vwCl (mw b k (nset I 0 (I 0 + i)) J (gset G 9 (sTy (G 9) (I 0) v n i))) H → va_S (wA (mw b k I J G)) s_.heap H locs → lv_has ls 5 [(0, .ref (b 0)), (1, .long v), (3, .int (nI n)), (4, .int (nI (n - i) - nI 1))] → W p_ l_ e_ ({ frames := 1, cells := 0, slots := 0, locals := 25 }) s_ m_ [.ref (b 0), .long v, .int (nI n)].toArray bl_ me_ c_ H locs 0 0 (MQ bl_ (va_Qi (fun (r : Int32) (u : Unit) => r = nI (I 0 + n)) (fun (u : Unit) (t_ : State) => va_P D vwCl ((fun (_ : Unit) => mw b k (nset I 0 (I 0 + n)) J (gset G 9 (sTy (G 9) (I 0) v n n))) u) t_.heap) (wA (mw b k I J G))) [.ref (b 0), .long v, .int (nI n)].toArray s_ 0 0 (wA (mw b k I J G))) (F0 m_ 41 ls []) := by
        intro fu
        induction fu with
        | zero => intro i hi hm; exact absurd hm (Nat.not_lt_zero _)
        | succ fu ih41 =>
          intro i hi hm ls H locs hP hS hl
          have hD := mw_D (I' := nset I 0 (I 0 + i)) (J' := J) (G' := gset G 9 (sTy (G 9) (I 0) v n i)) hD
          refine lv_iload hz.1 hz.2.1 dX6_type_41 (lv_at hl 3 rfl) ?_
          refine lv_if_lt (tgt := 83) hz.1 hz.2.1 dX6_type_43 (by decide) (fun c_43 => ?_) (fun c_43 => ?_)
          · obtain rfl : n = i := by
              rcases Nat.lt_or_ge i n with q | q
              · exfalso; rw [pk_sub (by omega)] at c_43; exact nI_pos (by omega) c_43
              · omega
            refine lv_aload_n hz.1 hz.2.1 dX6_type_83 rfl (lv_at hl 0 rfl) ?_
            refine rg hz hinX6_type hK hP 0 rfl rfl 12 (by decide) (List.mem_of_getElem? (i := 2) rfl) rfl (v := .int (nI (I 0 + n))) rfl dX6_type_84 ?_
            exact wr_iret hz hr hlk dX6_type_87 hS (()) hP (rfl)
          · have hin : i < n := by
              rcases Nat.lt_or_ge i n with q | q
              · exact q
              · exfalso; apply c_43; rw [show n - i = 0 by omega]; decide
            rw [pk_sub (a := n - i) (b := 1) (by omega), show n - i - 1 = n - 1 - i by omega] at hl
            refine lv_aload_n hz.1 hz.2.1 dX6_type_46 rfl (lv_at hl 0 rfl) ?_
            refine rg hz hinX6_type hK hP 0 rfl rfl 11 (by decide) (List.mem_of_getElem? (i := 3) rfl) rfl (v := .ref (b 10)) rfl dX6_type_47 ?_
            refine lv_aload_n hz.1 hz.2.1 dX6_type_50 rfl (lv_at hl 0 rfl) ?_
            refine rg hz hinX6_type hK hP 0 rfl rfl 12 (by decide) (List.mem_of_getElem? (i := 2) rfl) rfl (v := .int (nI (I 0 + i))) rfl dX6_type_51 ?_
            refine lv_lload_n hz.1 hz.2.1 dX6_type_54 rfl (lv_at hl 1 rfl) ?_
            refine lv_bipush (v := nI 8) hz.1 hz.2.1 dX6_type_55 (by decide) ?_
            refine lv_iload hz.1 hz.2.1 dX6_type_57 (lv_at hl 3 rfl) ?_
            refine lv_imul hz.1 hz.2.1 dX6_type_59 ?_
            refine toe (z := nI (8 * (n - 1 - i))) (pk_mul _ _) ?_
            refine lv_lushr (v := ((v.toUInt64 >>> ((nI (8 * (n - 1 - i))).toInt64.toUInt64 &&& Int64.toUInt64 63)).toInt64)) hz.1 hz.2.1 dX6_type_60 (rfl) ?_
            refine lv_ldc2 (own := RX6) (v := lN 255) hz.1 hz.2.1 hz.2.2.2.1 (hz.2.2.2.2 (.constantLong RX6 209 (255)) (List.mem_of_getElem? (i := 4) rfl)) dX6_type_61 ?_
            refine lv_land hz.1 hz.2.1 dX6_type_64 ?_
            refine toeL (z := lN (sByte v (n - 1 - i))) (sByte_is v (by omega)) ?_
            refine lv_l2i (v := nI (sByte v (n - 1 - i))) hz.1 hz.2.1 dX6_type_65 (lN_i _) ?_
            refine rast hz hK hP hD hS 10 0 rfl rfl (i := (I 0 + i)) (v := (sByte v (n - 1 - i))) (by omega) (by decide) dX6_type_66 (fun H locs hP hS => ?_)
            have hP : va_P D vwCl (mw b k (nset I 0 (I 0 + i)) J (gset G 9 (nset (sTy (G 9) (I 0) v n i) (I 0 + i) (sByte v (n - 1 - i))))) H := hP
            have hD := mw_D (I' := nset I 0 (I 0 + i)) (J' := J) (G' := gset G 9 (nset (sTy (G 9) (I 0) v n i) (I 0 + i) (sByte v (n - 1 - i)))) hD
            refine lv_aload_n hz.1 hz.2.1 dX6_type_67 rfl (lv_at hl 0 rfl) ?_
            refine lv_dup hz.1 hz.2.1 dX6_type_68 rfl ?_
            refine rg hz hinX6_type hK hP 0 rfl rfl 12 (by decide) (List.mem_of_getElem? (i := 2) rfl) rfl (v := .int (nI (I 0 + i))) rfl dX6_type_69 ?_
            refine lv_iconst (v := nI 1) hz.1 hz.2.1 dX6_type_72 (by decide) ?_
            refine lv_iadd hz.1 hz.2.1 dX6_type_73 ?_
            refine toe (z := nI ((I 0 + i) + 1)) (nI_add _ _) ?_
            refine rput (v := .int (nI ((I 0 + i) + 1))) (ty := .int) hz hinX6_type tyX6 tyX6_ok nmX6 hK hP hD hS 0 rfl rfl 12 (by decide) (List.mem_of_getElem? (i := 2) rfl) rfl rfl (by decide +kernel) rfl rfl (Nat.le_of_ble_eq_true rfl) dX6_type_74 (fun H locs hP hS => ?_)
            have hP : va_P D vwCl (mw b k (nset I 0 ((I 0 + i) + 1)) J (gset G 9 (nset (sTy (G 9) (I 0) v n i) (I 0 + i) (sByte v (n - 1 - i))))) H := hP
            have hD := mw_D (I' := nset I 0 ((I 0 + i) + 1)) (J' := J) (G' := gset G 9 (nset (sTy (G 9) (I 0) v n i) (I 0 + i) (sByte v (n - 1 - i)))) hD
            refine lv_iinc (v := nI (n - (i + 1)) - nI 1) (lv' := [(4, .int (nI (n - (i + 1)) - nI 1)), (0, .ref (b 0)), (1, .long v), (3, .int (nI n))]) hz.1 hz.2.1 dX6_type_77 hl (k := 3) rfl (by rw [nI_m1, show n - 1 - i = n - (i + 1) by omega]) (by decide) rfl (fun ls hl => ?_)
            refine lv_goto (tgt := 41) hz.1 hz.2.1 dX6_type_80 (by decide) ?_
            exact ih41 (i + 1) (by omega) (by omega) ls H locs hP hS (lv_sub hl [1, 2, 3, 0] rfl)
      exact lp_41 _ 0 (by omega) (Nat.lt_succ_self _) ls _ _ hP hS (lv_sub hl [1, 2, 3, 0] rfl)
    · exact absurd c_28 (by omega)
  · exact absurd ((wIn_ok (by omega) (by omega) (by omega)).symm.trans c_9) (by decide)

set_option maxHeartbeats 4000000 in
set_option maxRecDepth 100000 in
theorem c6_type_full (l_ : Launch) (D : va_G) (k : Nat → ClassId) (b I J : Nat → Nat) (G : Nat → Nat → Nat) (v : Int64) (n : Nat) (h1 : 1 ≤ n) (h2 : n ≤ 8) (h3 : 200 < I 0 + n) (h4 : I 0 ≤ 200) : Met l_ yX6_type wsX6_type ({ frames := 1, cells := 0, slots := 0, locals := 25 }) (va_Pc [.ref (b 0), .long v, .int (nI n)] (wH YT D k (mw b k I J G))) (va_Qi (fun (r : Int32) (u : Unit) => r = -4) (fun (u : Unit) (t_ : State) => va_P D vwCl ((fun (_ : Unit) => mw b k I J (gset G 3 (sRef (G 3) 2))) u) t_.heap) (wA (mw b k I J G))) 0 0 (wA (mw b k I J G)) := by
  refine my_entry (cc := cX6_type) (maxL := 5) (ret := some .int) (by decide) rfl (Nat.le_of_ble_eq_true rfl) ?_
  intro p_ e_ s_ m_ bl_ me_ c_ hz hr hlk hB ls hl
  obtain ⟨hP, hK, hD0, -⟩ := hB
  have hD := wA.self hD0
  have hS : va_S (wA (mw b k I J G)) s_.heap s_.heap [] := va_S.rf
  have hl : lv_has ls 5 [(0, .ref (b 0)), (1, .long v), (3, .int (nI n))] := hl
  refine lv_iload_n hz.1 hz.2.1 dX6_type_0 rfl (lv_at hl 2 rfl) ?_
  refine lv_i2l (v := (nI n).toInt64) hz.1 hz.2.1 dX6_type_1 (rfl) ?_
  refine lv_lconst (v := lN 1) hz.1 hz.2.1 dX6_type_2 (by decide) ?_
  refine lv_ldc2 (own := RX6) (v := lN 8) hz.1 hz.2.1 hz.2.2.2.1 (hz.2.2.2.2 (.constantLong RX6 203 (8)) (List.mem_of_getElem? (i := 1) rfl)) dX6_type_3 ?_
  refine rdS (As := [.long ((nI n).toInt64), .long (lN 1), .long (lN 8)]) (rest := []) hz (c6_in l_ (nI n) 1 8 (by omega) (by omega)) rfl (va_cwS 3 hz.2.2.2.2 gX6_type_X6_in rfl rfl rfl (by decide +kernel) ⟨Nat.le_of_ble_eq_true rfl, Nat.le_of_ble_eq_true rfl⟩) rfl hl.1 rfl (Nat.le_of_ble_eq_true rfl) dX6_type_6 ⟨Nat.zero_le _, Nat.zero_le _⟩ ?_
  refine zne (tgt := 19) hz dX6_type_9 (by decide) (fun c_9 => ?_) (fun c_9 => ?_)
  · refine lv_aload_n hz.1 hz.2.1 dX6_type_19 rfl (lv_at hl 0 rfl) ?_
    refine rg hz hinX6_type hK hP 0 rfl rfl 12 (by decide) (List.mem_of_getElem? (i := 2) rfl) rfl (v := .int (nI (I 0))) rfl dX6_type_20 ?_
    refine lv_iload_n hz.1 hz.2.1 dX6_type_23 rfl (lv_at hl 2 rfl) ?_
    refine lv_iadd hz.1 hz.2.1 dX6_type_24 ?_
    refine toe (z := nI ((I 0) + n)) (nI_add _ _) ?_
    refine lv_sipush (v := nI 200) hz.1 hz.2.1 dX6_type_25 (by decide) ?_
    refine jle (tgt := 36) hz dX6_type_28 (by decide) (by omega) (by omega) (fun c_28 => ?_) (fun c_28 => ?_)
    · exact absurd c_28 (by omega)
    · refine lv_aload_n hz.1 hz.2.1 dX6_type_31 rfl (lv_at hl 0 rfl) ?_
      refine wrV (A := wA (mw b k I J G)) (As := []) (rest := []) hz okYT (c6_full l_ D k b I J G  ) (cwV 0 hz.2.2.2.2 gX6_type_X6_full rfl rfl rfl (by decide +kernel) ⟨Nat.le_of_ble_eq_true rfl, Nat.le_of_ble_eq_true rfl⟩) hK trivial hP hD hS 0 6 rfl rfl rfl rfl hl.1 rfl (Nat.le_of_ble_eq_true rfl) dX6_type_32 ⟨Nat.zero_le _, Nat.zero_le _⟩ (fun r u H locs hp hP hS _ => ?_)
      obtain rfl : r = -4 := hp
      have hP : va_P D vwCl (mw b k I J (gset G 3 (sRef (G 3) 2))) H := hP
      have hD := mw_D (I' := I) (J' := J) (G' := gset G 3 (sRef (G 3) 2)) hD
      exact wr_iret hz hr hlk dX6_type_35 hS (()) hP (rfl)
  · exact absurd ((wIn_ok (by omega) (by omega) (by omega)).symm.trans c_9) (by decide)

theorem hinX6_clear : ∀ w ∈ wsX60, w ∈ wsX6_clear := fun _ h => List.mem_cons_of_mem _ (List.mem_append_right _ h)
set_option maxHeartbeats 4000000 in
set_option maxRecDepth 100000 in
theorem c6_clear (l_ : Launch) (D : va_G) (k : Nat → ClassId) (b I J : Nat → Nat) (G : Nat → Nat → Nat)   : Met l_ yX6_clear wsX6_clear ({ frames := 0, cells := 0, slots := 0, locals := 0 }) (va_Pc [.ref (b 0)] (wH YT D k (mw b k I J G))) (va_Qi (fun (r : Int32) (u : Unit) => r = nI (I 0)) (fun (u : Unit) (t_ : State) => va_P D vwCl ((fun (_ : Unit) => mw b k (nset I 0 0) J G) u) t_.heap) (wA (mw b k I J G))) 0 0 (wA (mw b k I J G)) := by
  refine my_entry (cc := cX6_clear) (maxL := 2) (ret := some .int) (by decide) rfl (Nat.le_of_ble_eq_true rfl) ?_
  intro p_ e_ s_ m_ bl_ me_ c_ hz hr hlk hB ls hl
  obtain ⟨hP, hK, hD0, -⟩ := hB
  have hD := wA.self hD0
  have hS : va_S (wA (mw b k I J G)) s_.heap s_.heap [] := va_S.rf
  have hl : lv_has ls 2 [(0, .ref (b 0))] := hl
  refine lv_aload_n hz.1 hz.2.1 dX6_clear_0 rfl (lv_at hl 0 rfl) ?_
  refine rg hz hinX6_clear hK hP 0 rfl rfl 12 (by decide) (List.mem_of_getElem? (i := 1) rfl) rfl (v := .int (nI (I 0))) rfl dX6_clear_1 ?_
  refine lv_istore_n (lv' := [(1, .int (nI (I 0))), (0, .ref (b 0))]) hz.1 hz.2.1 dX6_clear_4 rfl hl (by decide) rfl (fun ls hl => ?_)
  refine lv_aload_n hz.1 hz.2.1 dX6_clear_5 rfl (lv_at hl 1 rfl) ?_
  refine lv_iconst (v := nI 0) hz.1 hz.2.1 dX6_clear_6 (by decide) ?_
  refine rput (v := .int (nI 0)) (ty := .int) hz hinX6_clear tyX6 tyX6_ok nmX6 hK hP hD hS 0 rfl rfl 12 (by decide) (List.mem_of_getElem? (i := 1) rfl) rfl rfl (by decide +kernel) rfl rfl (Nat.le_of_ble_eq_true rfl) dX6_clear_7 (fun H locs hP hS => ?_)
  have hP : va_P D vwCl (mw b k (nset I 0 0) J G) H := hP
  have hD := mw_D (I' := nset I 0 0) (J' := J) (G' := G) hD
  refine lv_iload_n hz.1 hz.2.1 dX6_clear_10 rfl (lv_at hl 0 rfl) ?_
  exact wr_iret hz hr hlk dX6_clear_11 hS (()) hP (rfl)

theorem hinX6_part : ∀ w ∈ wsX60, w ∈ wsX6_part := fun _ h => List.mem_cons_of_mem _ (List.mem_append_right _ h)
set_option maxHeartbeats 4000000 in
set_option maxRecDepth 100000 in
theorem c6_part_ok (l_ : Launch) (D : va_G) (k : Nat → ClassId) (b I J : Nat → Nat) (G : Nat → Nat → Nat) (wh : Nat) (h : wh ≤ 1) : Met l_ yX6_part wsX6_part ({ frames := 0, cells := 0, slots := 0, locals := 0 }) (va_Pc [.ref (b 0), .int (nI wh)] (wH YT D k (mw b k I J G))) (k2_QcV (.long (lN (if wh = 0 then J 0 else J 1)))) 0 0 (fun _ => False) := by
  refine my_entry (cc := cX6_part) (maxL := 2) (ret := some .long) (by decide) rfl (Nat.le_of_ble_eq_true rfl) ?_
  intro p_ e_ s_ m_ bl_ me_ c_ hz hr hlk hB ls hl
  obtain ⟨hP, hK, hD0, -⟩ := hB
  have hD := wA.self hD0
  have hS : va_S (wA (mw b k I J G)) s_.heap s_.heap [] := va_S.rf
  have hl : lv_has ls 2 [(0, .ref (b 0)), (1, .int (nI wh))] := hl
  refine lv_iload_n hz.1 hz.2.1 dX6_part_0 rfl (lv_at hl 1 rfl) ?_
  refine jne0 (tgt := 11) hz dX6_part_1 (by decide) (by omega) (fun c_1 => ?_) (fun c_1 => ?_)
  · refine lv_iload_n hz.1 hz.2.1 dX6_part_11 rfl (lv_at hl 1 rfl) ?_
    refine lv_iconst (v := nI 1) hz.1 hz.2.1 dX6_part_12 (by decide) ?_
    refine jne (tgt := 23) hz dX6_part_13 (by decide) (by omega) (by omega) (fun c_13 => ?_) (fun c_13 => ?_)
    · exact absurd c_13 (by omega)
    · refine lv_aload_n hz.1 hz.2.1 dX6_part_16 rfl (lv_at hl 0 rfl) ?_
      refine rg hz hinX6_part hK hP 0 rfl rfl 5 (by decide) (List.mem_of_getElem? (i := 2) rfl) rfl (v := .long (lN (J 1))) rfl dX6_part_17 ?_
      refine lv_goto (tgt := 30) hz.1 hz.2.1 dX6_part_20 (by decide) ?_
      exact rd_lret hz hr hlk dX6_part_30 (by simp [c_1])
  · refine lv_aload_n hz.1 hz.2.1 dX6_part_4 rfl (lv_at hl 0 rfl) ?_
    refine rg hz hinX6_part hK hP 0 rfl rfl 4 (by decide) (List.mem_of_getElem? (i := 1) rfl) rfl (v := .long (lN (J 0))) rfl dX6_part_5 ?_
    refine lv_goto (tgt := 30) hz.1 hz.2.1 dX6_part_8 (by decide) ?_
    exact rd_lret hz hr hlk dX6_part_30 (by simp [c_1])

set_option maxHeartbeats 4000000 in
set_option maxRecDepth 100000 in
theorem c6_part_bad (l_ : Launch) (D : va_G) (k : Nat → ClassId) (b I J : Nat → Nat) (G : Nat → Nat → Nat) (x : Int32) (h0 : ¬ x = nI 0) (h1 : ¬ x = nI 1) : Met l_ yX6_part wsX6_part ({ frames := 1, cells := 0, slots := 0, locals := 21 }) (va_Pc [.ref (b 0), .int x] (wH YT D k (mw b k I J G))) (va_Ql (fun (r : Int64) (u : Unit) => r = (-2 : Int64)) (fun (u : Unit) (t_ : State) => va_P D vwCl ((fun (_ : Unit) => mw b k I J (gset G 3 (sRef (G 3) 0))) u) t_.heap) (wA (mw b k I J G))) 0 0 (wA (mw b k I J G)) := by
  refine my_entry (cc := cX6_part) (maxL := 2) (ret := some .long) (by decide) rfl (Nat.le_of_ble_eq_true rfl) ?_
  intro p_ e_ s_ m_ bl_ me_ c_ hz hr hlk hB ls hl
  obtain ⟨hP, hK, hD0, -⟩ := hB
  have hD := wA.self hD0
  have hS : va_S (wA (mw b k I J G)) s_.heap s_.heap [] := va_S.rf
  have hl : lv_has ls 2 [(0, .ref (b 0)), (1, .int x)] := hl
  refine lv_iload_n hz.1 hz.2.1 dX6_part_0 rfl (lv_at hl 1 rfl) ?_
  refine lv_if_ne (tgt := 11) hz.1 hz.2.1 dX6_part_1 (by decide) (fun c_1 => ?_) (fun c_1 => ?_)
  · refine lv_iload_n hz.1 hz.2.1 dX6_part_11 rfl (lv_at hl 1 rfl) ?_
    refine lv_iconst (v := nI 1) hz.1 hz.2.1 dX6_part_12 (by decide) ?_
    refine lv_icmp_ne (tgt := 23) hz.1 hz.2.1 dX6_part_13 (by decide) (fun c_13 => ?_) (fun c_13 => ?_)
    · refine lv_aload_n hz.1 hz.2.1 dX6_part_23 rfl (lv_at hl 0 rfl) ?_
      refine lv_bipush (v := (-2)) hz.1 hz.2.1 dX6_part_24 (by decide) ?_
      refine wrV (A := wA (mw b k I J G)) (As := [.int (-2)]) (rest := []) hz okYT (c6_bad l_ D k b I J G (-2) ) (cwV 1 hz.2.2.2.2 gX6_part_X6_bad rfl rfl rfl (by decide +kernel) ⟨Nat.le_of_ble_eq_true rfl, Nat.le_of_ble_eq_true rfl⟩) hK trivial hP hD hS 0 6 rfl rfl rfl rfl hl.1 rfl (Nat.le_of_ble_eq_true rfl) dX6_part_26 ⟨Nat.zero_le _, Nat.zero_le _⟩ (fun r u H locs hp hP hS _ => ?_)
      obtain rfl : r = -2 := hp
      have hP : va_P D vwCl (mw b k I J (gset G 3 (sRef (G 3) 0))) H := hP
      have hD := mw_D (I' := I) (J' := J) (G' := gset G 3 (sRef (G 3) 0)) hD
      refine lv_i2l (v := (-2 : Int64)) hz.1 hz.2.1 dX6_part_29 (by decide) ?_
      exact wr_lret hz hr hlk dX6_part_30 hS (()) hP (rfl)
    · exact absurd c_13 h1
  · exact absurd c_1 h0

theorem hinX6_image : ∀ w ∈ wsX60, w ∈ wsX6_image := fun _ h => List.mem_cons_of_mem _ (List.mem_append_right _ h)
set_option maxHeartbeats 4000000 in
set_option maxRecDepth 100000 in
theorem c6_image_bad (l_ : Launch) (D : va_G) (k : Nat → ClassId) (b I J : Nat → Nat) (G : Nat → Nat → Nat) (x : Int32) (hb : wIn x 0 1 = false) : Met l_ yX6_image wsX6_image ({ frames := 1, cells := 0, slots := 0, locals := 25 }) (va_Pc [.ref (b 0), .int x] (wH YT D k (mw b k I J G))) (va_Qi (fun (r : Int32) (u : Unit) => r = -2) (fun (u : Unit) (t_ : State) => va_P D vwCl ((fun (_ : Unit) => mw b k I J (gset G 3 (sRef (G 3) 0))) u) t_.heap) (wA (mw b k I J G))) 0 0 (wA (mw b k I J G)) := by
  refine my_entry (cc := cX6_image) (maxL := 3) (ret := some .int) (by decide) rfl (Nat.le_of_ble_eq_true rfl) ?_
  intro p_ e_ s_ m_ bl_ me_ c_ hz hr hlk hB ls hl
  obtain ⟨hP, hK, hD0, -⟩ := hB
  have hD := wA.self hD0
  have hS : va_S (wA (mw b k I J G)) s_.heap s_.heap [] := va_S.rf
  have hl : lv_has ls 3 [(0, .ref (b 0)), (1, .int x)] := hl
  refine lv_iload_n hz.1 hz.2.1 dX6_image_0 rfl (lv_at hl 1 rfl) ?_
  refine lv_i2l (v := x.toInt64) hz.1 hz.2.1 dX6_image_1 (rfl) ?_
  refine lv_lconst (v := lN 0) hz.1 hz.2.1 dX6_image_2 (by decide) ?_
  refine lv_lconst (v := lN 1) hz.1 hz.2.1 dX6_image_3 (by decide) ?_
  refine rdS (As := [.long x.toInt64, .long (lN 0), .long (lN 1)]) (rest := []) hz (c6_in l_ x 0 1 (by omega) (by omega)) rfl (va_cwS 3 hz.2.2.2.2 gX6_image_X6_in rfl rfl rfl (by decide +kernel) ⟨Nat.le_of_ble_eq_true rfl, Nat.le_of_ble_eq_true rfl⟩) rfl hl.1 rfl (Nat.le_of_ble_eq_true rfl) dX6_image_4 ⟨Nat.zero_le _, Nat.zero_le _⟩ ?_
  refine zne (tgt := 17) hz dX6_image_7 (by decide) (fun c_7 => ?_) (fun c_7 => ?_)
  · simp [c_7] at hb
  · refine lv_aload_n hz.1 hz.2.1 dX6_image_10 rfl (lv_at hl 0 rfl) ?_
    refine lv_bipush (v := (-2)) hz.1 hz.2.1 dX6_image_11 (by decide) ?_
    refine wrV (A := wA (mw b k I J G)) (As := [.int (-2)]) (rest := []) hz okYT (c6_bad l_ D k b I J G (-2) ) (cwV 1 hz.2.2.2.2 gX6_image_X6_bad rfl rfl rfl (by decide +kernel) ⟨Nat.le_of_ble_eq_true rfl, Nat.le_of_ble_eq_true rfl⟩) hK trivial hP hD hS 0 6 rfl rfl rfl rfl hl.1 rfl (Nat.le_of_ble_eq_true rfl) dX6_image_13 ⟨Nat.zero_le _, Nat.zero_le _⟩ (fun r u H locs hp hP hS _ => ?_)
    obtain rfl : r = -2 := hp
    have hP : va_P D vwCl (mw b k I J (gset G 3 (sRef (G 3) 0))) H := hP
    have hD := mw_D (I' := I) (J' := J) (G' := gset G 3 (sRef (G 3) 0)) hD
    exact wr_iret hz hr hlk dX6_image_16 hS (()) hP (rfl)

set_option maxHeartbeats 4000000 in
set_option maxRecDepth 100000 in
theorem c6_image_ok (l_ : Launch) (D : va_G) (k : Nat → ClassId) (b I J : Nat → Nat) (G : Nat → Nat → Nat) (i : Nat) (h : i ≤ 1) : Met l_ yX6_image wsX6_image ({ frames := 1, cells := 0, slots := 0, locals := 25 }) (va_Pc [.ref (b 0), .int (nI i)] (wH YT D k (mw b k I J G))) (va_Qi (fun (r : Int32) (u : Unit) => r = nI 1) (fun (u : Unit) (t_ : State) => va_P D vwCl ((fun (_ : Unit) => mw b k I J (gset (gset G 1 (cput (G 1) (G 0) (57 * i) 57)) 2 (nset (G 2) i 1))) u) t_.heap) (wA (mw b k I J G))) 0 0 (wA (mw b k I J G)) := by
  refine my_entry (cc := cX6_image) (maxL := 3) (ret := some .int) (by decide) rfl (Nat.le_of_ble_eq_true rfl) ?_
  intro p_ e_ s_ m_ bl_ me_ c_ hz hr hlk hB ls hl
  obtain ⟨hP, hK, hD0, -⟩ := hB
  have hD := wA.self hD0
  have hS : va_S (wA (mw b k I J G)) s_.heap s_.heap [] := va_S.rf
  have hl : lv_has ls 3 [(0, .ref (b 0)), (1, .int (nI i))] := hl
  refine lv_iload_n hz.1 hz.2.1 dX6_image_0 rfl (lv_at hl 1 rfl) ?_
  refine lv_i2l (v := (nI i).toInt64) hz.1 hz.2.1 dX6_image_1 (rfl) ?_
  refine lv_lconst (v := lN 0) hz.1 hz.2.1 dX6_image_2 (by decide) ?_
  refine lv_lconst (v := lN 1) hz.1 hz.2.1 dX6_image_3 (by decide) ?_
  refine rdS (As := [.long ((nI i).toInt64), .long (lN 0), .long (lN 1)]) (rest := []) hz (c6_in l_ (nI i) 0 1 (by omega) (by omega)) rfl (va_cwS 3 hz.2.2.2.2 gX6_image_X6_in rfl rfl rfl (by decide +kernel) ⟨Nat.le_of_ble_eq_true rfl, Nat.le_of_ble_eq_true rfl⟩) rfl hl.1 rfl (Nat.le_of_ble_eq_true rfl) dX6_image_4 ⟨Nat.zero_le _, Nat.zero_le _⟩ ?_
  refine zne (tgt := 17) hz dX6_image_7 (by decide) (fun c_7 => ?_) (fun c_7 => ?_)
  · refine lv_iconst (v := nI 0) hz.1 hz.2.1 dX6_image_17 (by decide) ?_
    refine lv_istore_n (lv' := [(2, .int (nI 0)), (0, .ref (b 0)), (1, .int (nI i))]) hz.1 hz.2.1 dX6_image_18 rfl hl (by decide) rfl (fun ls hl => ?_)
    have lp_19 : ∀ (fu : Nat) (q : Nat), (q ≤ 57) → 57 - q < fu → ∀ ls : Array Slot, ∀ (H : Heap) (locs : List Loc), va_P D vwCl (mw b k I J (gset G 1 (cput (G 1) (G 0) (57 * i) q))) H → va_S (wA (mw b k I J G)) s_.heap H locs → lv_has ls 3 [(0, .ref (b 0)), (1, .int (nI i)), (2, .int (nI q))] → W p_ l_ e_ ({ frames := 1, cells := 0, slots := 0, locals := 25 }) s_ m_ [.ref (b 0), .int (nI i)].toArray bl_ me_ c_ H locs 0 0 (MQ bl_ (va_Qi (fun (r : Int32) (u : Unit) => r = nI 1) (fun (u : Unit) (t_ : State) => va_P D vwCl ((fun (_ : Unit) => mw b k I J (gset (gset G 1 (cput (G 1) (G 0) (57 * i) 57)) 2 (nset (G 2) i 1))) u) t_.heap) (wA (mw b k I J G))) [.ref (b 0), .int (nI i)].toArray s_ 0 0 (wA (mw b k I J G))) (F0 m_ 19 ls []) := by
      intro fu
      induction fu with
      | zero => intro q hq hm; exact absurd hm (Nat.not_lt_zero _)
      | succ fu ih19 =>
        intro q hq hm ls H locs hP hS hl
        have hD := mw_D (I' := I) (J' := J) (G' := gset G 1 (cput (G 1) (G 0) (57 * i) q)) hD
        refine lv_iload_n hz.1 hz.2.1 dX6_image_19 rfl (lv_at hl 2 rfl) ?_
        refine lv_bipush (v := nI 57) hz.1 hz.2.1 dX6_image_20 (by decide) ?_
        refine jge (tgt := 48) hz dX6_image_22 (by decide) (by omega) (by omega) (fun c_22 => ?_) (fun c_22 => ?_)
        · obtain rfl : q = 57 := by omega
          refine lv_aload_n hz.1 hz.2.1 dX6_image_48 rfl (lv_at hl 0 rfl) ?_
          refine rg hz hinX6_image hK hP 0 rfl rfl 2 (by decide) (List.mem_of_getElem? (i := 3) rfl) rfl (v := .ref (b 3)) rfl dX6_image_49 ?_
          refine lv_iload_n hz.1 hz.2.1 dX6_image_52 rfl (lv_at hl 1 rfl) ?_
          refine lv_iconst (v := nI 1) hz.1 hz.2.1 dX6_image_53 (by decide) ?_
          refine rzast hz hK hP hD hS 3 2 rfl rfl (i := i) (v := 1) (by omega) (by decide) (by decide) dX6_image_54 (fun H locs hP hS => ?_)
          have hP : va_P D vwCl (mw b k I J (gset (gset G 1 (cput (G 1) (G 0) (57 * i) 57)) 2 (nset (G 2) i 1))) H := hP
          have hD := mw_D (I' := I) (J' := J) (G' := gset (gset G 1 (cput (G 1) (G 0) (57 * i) 57)) 2 (nset (G 2) i 1)) hD
          refine lv_iconst (v := nI 1) hz.1 hz.2.1 dX6_image_55 (by decide) ?_
          exact wr_iret hz hr hlk dX6_image_56 hS (()) hP (rfl)
        · refine lv_aload_n hz.1 hz.2.1 dX6_image_25 rfl (lv_at hl 0 rfl) ?_
          refine rg hz hinX6_image hK hP 0 rfl rfl 1 (by decide) (List.mem_of_getElem? (i := 1) rfl) rfl (v := .ref (b 2)) rfl dX6_image_26 ?_
          refine lv_bipush (v := nI 57) hz.1 hz.2.1 dX6_image_29 (by decide) ?_
          refine lv_iload_n hz.1 hz.2.1 dX6_image_31 rfl (lv_at hl 1 rfl) ?_
          refine lv_imul hz.1 hz.2.1 dX6_image_32 ?_
          refine toe (z := nI (57 * i)) (pk_mul _ _) ?_
          refine lv_iload_n hz.1 hz.2.1 dX6_image_33 rfl (lv_at hl 2 rfl) ?_
          refine lv_iadd hz.1 hz.2.1 dX6_image_34 ?_
          refine toe (z := nI ((57 * i) + q)) (nI_add _ _) ?_
          refine lv_aload_n hz.1 hz.2.1 dX6_image_35 rfl (lv_at hl 0 rfl) ?_
          refine rg hz hinX6_image hK hP 0 rfl rfl 0 (by decide) (List.mem_of_getElem? (i := 2) rfl) rfl (v := .ref (b 1)) rfl dX6_image_36 ?_
          refine lv_iload_n hz.1 hz.2.1 dX6_image_39 rfl (lv_at hl 2 rfl) ?_
          refine rald hz hK hP 1 0 rfl rfl (i := q) (by omega) (by decide) (v := nI (G 0 q)) rfl dX6_image_40 ?_
          refine rast hz hK hP hD hS 2 0 rfl rfl (i := ((57 * i) + q)) (v := (G 0 q)) (by omega) (by decide) dX6_image_41 (fun H locs hP hS => ?_)
          have hP : va_P D vwCl (mw b k I J (gset G 1 (nset (cput (G 1) (G 0) (57 * i) q) ((57 * i) + q) (G 0 q)))) H := hP
          have hD := mw_D (I' := I) (J' := J) (G' := gset G 1 (nset (cput (G 1) (G 0) (57 * i) q) ((57 * i) + q) (G 0 q))) hD
          have hP : va_P D vwCl (mw b k I J (gset G 1 (cput (G 1) (G 0) (57 * i) (q + 1)))) H := by rw [← cput_s]; exact hP
          have hD := mw_D (I' := I) (J' := J) (G' := gset G 1 (cput (G 1) (G 0) (57 * i) (q + 1))) hD
          refine lv_iinc (v := nI (q + 1)) (lv' := [(2, .int (nI (q + 1))), (0, .ref (b 0)), (1, .int (nI i))]) hz.1 hz.2.1 dX6_image_42 hl (k := 2) rfl (nI_add _ 1) (by decide) rfl (fun ls hl => ?_)
          refine lv_goto (tgt := 19) hz.1 hz.2.1 dX6_image_45 (by decide) ?_
          exact ih19 (q + 1) (by omega) (by omega) ls H locs hP hS (lv_sub hl [1, 2, 0] rfl)
    have hP : va_P D vwCl (mw b k I J (gset G 1 (cput (G 1) (G 0) (57 * i) 0))) s_.heap := by rw [cput_0]; exact hP
    exact lp_19 _ 0 (by omega) (Nat.lt_succ_self _) ls _ _ hP hS (lv_sub hl [1, 2, 0] rfl)
  · exact absurd ((wIn_ok (by omega) (by omega) (by omega)).symm.trans c_7) (by decide)

theorem hinX6_from : ∀ w ∈ wsX60, w ∈ wsX6_from := fun _ h => List.mem_cons_of_mem _ (List.mem_append_right _ h)
set_option maxHeartbeats 4000000 in
set_option maxRecDepth 100000 in
theorem c6_from_bad (l_ : Launch) (D : va_G) (k : Nat → ClassId) (b I J : Nat → Nat) (G : Nat → Nat → Nat) (x : Int32) (hb : wIn x 0 1 = false) : Met l_ yX6_from wsX6_from ({ frames := 1, cells := 0, slots := 0, locals := 25 }) (va_Pc [.ref (b 0), .int x] (wH YT D k (mw b k I J G))) (va_Qi (fun (r : Int32) (u : Unit) => r = -2) (fun (u : Unit) (t_ : State) => va_P D vwCl ((fun (_ : Unit) => mw b k I J (gset G 3 (sRef (G 3) 0))) u) t_.heap) (wA (mw b k I J G))) 0 0 (wA (mw b k I J G)) := by
  refine my_entry (cc := cX6_from) (maxL := 3) (ret := some .int) (by decide) rfl (Nat.le_of_ble_eq_true rfl) ?_
  intro p_ e_ s_ m_ bl_ me_ c_ hz hr hlk hB ls hl
  obtain ⟨hP, hK, hD0, -⟩ := hB
  have hD := wA.self hD0
  have hS : va_S (wA (mw b k I J G)) s_.heap s_.heap [] := va_S.rf
  have hl : lv_has ls 3 [(0, .ref (b 0)), (1, .int x)] := hl
  refine lv_iload_n hz.1 hz.2.1 dX6_from_0 rfl (lv_at hl 1 rfl) ?_
  refine lv_i2l (v := x.toInt64) hz.1 hz.2.1 dX6_from_1 (rfl) ?_
  refine lv_lconst (v := lN 0) hz.1 hz.2.1 dX6_from_2 (by decide) ?_
  refine lv_lconst (v := lN 1) hz.1 hz.2.1 dX6_from_3 (by decide) ?_
  refine rdS (As := [.long x.toInt64, .long (lN 0), .long (lN 1)]) (rest := []) hz (c6_in l_ x 0 1 (by omega) (by omega)) rfl (va_cwS 3 hz.2.2.2.2 gX6_from_X6_in rfl rfl rfl (by decide +kernel) ⟨Nat.le_of_ble_eq_true rfl, Nat.le_of_ble_eq_true rfl⟩) rfl hl.1 rfl (Nat.le_of_ble_eq_true rfl) dX6_from_4 ⟨Nat.zero_le _, Nat.zero_le _⟩ ?_
  refine zne (tgt := 17) hz dX6_from_7 (by decide) (fun c_7 => ?_) (fun c_7 => ?_)
  · simp [c_7] at hb
  · refine lv_aload_n hz.1 hz.2.1 dX6_from_10 rfl (lv_at hl 0 rfl) ?_
    refine lv_bipush (v := (-2)) hz.1 hz.2.1 dX6_from_11 (by decide) ?_
    refine wrV (A := wA (mw b k I J G)) (As := [.int (-2)]) (rest := []) hz okYT (c6_bad l_ D k b I J G (-2) ) (cwV 1 hz.2.2.2.2 gX6_from_X6_bad rfl rfl rfl (by decide +kernel) ⟨Nat.le_of_ble_eq_true rfl, Nat.le_of_ble_eq_true rfl⟩) hK trivial hP hD hS 0 6 rfl rfl rfl rfl hl.1 rfl (Nat.le_of_ble_eq_true rfl) dX6_from_13 ⟨Nat.zero_le _, Nat.zero_le _⟩ (fun r u H locs hp hP hS _ => ?_)
    obtain rfl : r = -2 := hp
    have hP : va_P D vwCl (mw b k I J (gset G 3 (sRef (G 3) 0))) H := hP
    have hD := mw_D (I' := I) (J' := J) (G' := gset G 3 (sRef (G 3) 0)) hD
    exact wr_iret hz hr hlk dX6_from_16 hS (()) hP (rfl)

set_option maxHeartbeats 4000000 in
set_option maxRecDepth 100000 in
theorem c6_from_ok (l_ : Launch) (D : va_G) (k : Nat → ClassId) (b I J : Nat → Nat) (G : Nat → Nat → Nat) (i : Nat) (h : i ≤ 1) (hk : G 2 i = 1) : Met l_ yX6_from wsX6_from ({ frames := 1, cells := 0, slots := 0, locals := 25 }) (va_Pc [.ref (b 0), .int (nI i)] (wH YT D k (mw b k I J G))) (va_Qi (fun (r : Int32) (u : Unit) => r = nI 1) (fun (u : Unit) (t_ : State) => va_P D vwCl ((fun (_ : Unit) => mw b k I J (gset G 0 (cget (G 0) (G 1) (57 * i) 57))) u) t_.heap) (wA (mw b k I J G))) 0 0 (wA (mw b k I J G)) := by
  refine my_entry (cc := cX6_from) (maxL := 3) (ret := some .int) (by decide) rfl (Nat.le_of_ble_eq_true rfl) ?_
  intro p_ e_ s_ m_ bl_ me_ c_ hz hr hlk hB ls hl
  obtain ⟨hP, hK, hD0, -⟩ := hB
  have hD := wA.self hD0
  have hS : va_S (wA (mw b k I J G)) s_.heap s_.heap [] := va_S.rf
  have hl : lv_has ls 3 [(0, .ref (b 0)), (1, .int (nI i))] := hl
  refine lv_iload_n hz.1 hz.2.1 dX6_from_0 rfl (lv_at hl 1 rfl) ?_
  refine lv_i2l (v := (nI i).toInt64) hz.1 hz.2.1 dX6_from_1 (rfl) ?_
  refine lv_lconst (v := lN 0) hz.1 hz.2.1 dX6_from_2 (by decide) ?_
  refine lv_lconst (v := lN 1) hz.1 hz.2.1 dX6_from_3 (by decide) ?_
  refine rdS (As := [.long ((nI i).toInt64), .long (lN 0), .long (lN 1)]) (rest := []) hz (c6_in l_ (nI i) 0 1 (by omega) (by omega)) rfl (va_cwS 3 hz.2.2.2.2 gX6_from_X6_in rfl rfl rfl (by decide +kernel) ⟨Nat.le_of_ble_eq_true rfl, Nat.le_of_ble_eq_true rfl⟩) rfl hl.1 rfl (Nat.le_of_ble_eq_true rfl) dX6_from_4 ⟨Nat.zero_le _, Nat.zero_le _⟩ ?_
  refine zne (tgt := 17) hz dX6_from_7 (by decide) (fun c_7 => ?_) (fun c_7 => ?_)
  · refine lv_aload_n hz.1 hz.2.1 dX6_from_17 rfl (lv_at hl 0 rfl) ?_
    refine rg hz hinX6_from hK hP 0 rfl rfl 2 (by decide) (List.mem_of_getElem? (i := 1) rfl) rfl (v := .ref (b 3)) rfl dX6_from_18 ?_
    refine lv_iload_n hz.1 hz.2.1 dX6_from_21 rfl (lv_at hl 1 rfl) ?_
    refine rzald hz hK hP 3 2 rfl rfl (i := i) (by omega) (by decide) (v := nI (G 2 i)) rfl dX6_from_22 ?_
    refine jne0 (tgt := 31) hz dX6_from_23 (by decide) (by omega) (fun c_23 => ?_) (fun c_23 => ?_)
    · refine lv_iconst (v := nI 0) hz.1 hz.2.1 dX6_from_31 (by decide) ?_
      refine lv_istore_n (lv' := [(2, .int (nI 0)), (0, .ref (b 0)), (1, .int (nI i))]) hz.1 hz.2.1 dX6_from_32 rfl hl (by decide) rfl (fun ls hl => ?_)
      have lp_33 : ∀ (fu : Nat) (q : Nat), (q ≤ 57) → 57 - q < fu → ∀ ls : Array Slot, ∀ (H : Heap) (locs : List Loc), va_P D vwCl (mw b k I J (gset G 0 (cget (G 0) (G 1) (57 * i) q))) H → va_S (wA (mw b k I J G)) s_.heap H locs → lv_has ls 3 [(0, .ref (b 0)), (1, .int (nI i)), (2, .int (nI q))] → W p_ l_ e_ ({ frames := 1, cells := 0, slots := 0, locals := 25 }) s_ m_ [.ref (b 0), .int (nI i)].toArray bl_ me_ c_ H locs 0 0 (MQ bl_ (va_Qi (fun (r : Int32) (u : Unit) => r = nI 1) (fun (u : Unit) (t_ : State) => va_P D vwCl ((fun (_ : Unit) => mw b k I J (gset G 0 (cget (G 0) (G 1) (57 * i) 57))) u) t_.heap) (wA (mw b k I J G))) [.ref (b 0), .int (nI i)].toArray s_ 0 0 (wA (mw b k I J G))) (F0 m_ 33 ls []) := by
        intro fu
        induction fu with
        | zero => intro q hq hm; exact absurd hm (Nat.not_lt_zero _)
        | succ fu ih33 =>
          intro q hq hm ls H locs hP hS hl
          have hD := mw_D (I' := I) (J' := J) (G' := gset G 0 (cget (G 0) (G 1) (57 * i) q)) hD
          refine lv_iload_n hz.1 hz.2.1 dX6_from_33 rfl (lv_at hl 2 rfl) ?_
          refine lv_bipush (v := nI 57) hz.1 hz.2.1 dX6_from_34 (by decide) ?_
          refine jge (tgt := 62) hz dX6_from_36 (by decide) (by omega) (by omega) (fun c_36 => ?_) (fun c_36 => ?_)
          · obtain rfl : q = 57 := by omega
            refine lv_iconst (v := nI 1) hz.1 hz.2.1 dX6_from_62 (by decide) ?_
            exact wr_iret hz hr hlk dX6_from_63 hS (()) hP (rfl)
          · refine lv_aload_n hz.1 hz.2.1 dX6_from_39 rfl (lv_at hl 0 rfl) ?_
            refine rg hz hinX6_from hK hP 0 rfl rfl 0 (by decide) (List.mem_of_getElem? (i := 2) rfl) rfl (v := .ref (b 1)) rfl dX6_from_40 ?_
            refine lv_iload_n hz.1 hz.2.1 dX6_from_43 rfl (lv_at hl 2 rfl) ?_
            refine lv_aload_n hz.1 hz.2.1 dX6_from_44 rfl (lv_at hl 0 rfl) ?_
            refine rg hz hinX6_from hK hP 0 rfl rfl 1 (by decide) (List.mem_of_getElem? (i := 3) rfl) rfl (v := .ref (b 2)) rfl dX6_from_45 ?_
            refine lv_bipush (v := nI 57) hz.1 hz.2.1 dX6_from_48 (by decide) ?_
            refine lv_iload_n hz.1 hz.2.1 dX6_from_50 rfl (lv_at hl 1 rfl) ?_
            refine lv_imul hz.1 hz.2.1 dX6_from_51 ?_
            refine toe (z := nI (57 * i)) (pk_mul _ _) ?_
            refine lv_iload_n hz.1 hz.2.1 dX6_from_52 rfl (lv_at hl 2 rfl) ?_
            refine lv_iadd hz.1 hz.2.1 dX6_from_53 ?_
            refine toe (z := nI ((57 * i) + q)) (nI_add _ _) ?_
            refine rald hz hK hP 2 0 rfl rfl (i := ((57 * i) + q)) (by omega) (by decide) (v := nI (G 1 ((57 * i) + q))) rfl dX6_from_54 ?_
            refine rast hz hK hP hD hS 1 0 rfl rfl (i := q) (v := (G 1 ((57 * i) + q))) (by omega) (by decide) dX6_from_55 (fun H locs hP hS => ?_)
            have hP : va_P D vwCl (mw b k I J (gset G 0 (nset (cget (G 0) (G 1) (57 * i) q) q (G 1 ((57 * i) + q))))) H := hP
            have hD := mw_D (I' := I) (J' := J) (G' := gset G 0 (nset (cget (G 0) (G 1) (57 * i) q) q (G 1 ((57 * i) + q)))) hD
            have hP : va_P D vwCl (mw b k I J (gset G 0 (cget (G 0) (G 1) (57 * i) (q + 1)))) H := by rw [← cget_s]; exact hP
            have hD := mw_D (I' := I) (J' := J) (G' := gset G 0 (cget (G 0) (G 1) (57 * i) (q + 1))) hD
            refine lv_iinc (v := nI (q + 1)) (lv' := [(2, .int (nI (q + 1))), (0, .ref (b 0)), (1, .int (nI i))]) hz.1 hz.2.1 dX6_from_56 hl (k := 2) rfl (nI_add _ 1) (by decide) rfl (fun ls hl => ?_)
            refine lv_goto (tgt := 33) hz.1 hz.2.1 dX6_from_59 (by decide) ?_
            exact ih33 (q + 1) (by omega) (by omega) ls H locs hP hS (lv_sub hl [1, 2, 0] rfl)
      have hP : va_P D vwCl (mw b k I J (gset G 0 (cget (G 0) (G 1) (57 * i) 0))) s_.heap := by rw [cget_0]; exact hP
      exact lp_33 _ 0 (by omega) (Nat.lt_succ_self _) ls _ _ hP hS (lv_sub hl [1, 2, 0] rfl)
    · exact absurd c_23 (by omega)
  · exact absurd ((wIn_ok (by omega) (by omega) (by omega)).symm.trans c_7) (by decide)

set_option maxHeartbeats 4000000 in
set_option maxRecDepth 100000 in
theorem c6_from_no (l_ : Launch) (D : va_G) (k : Nat → ClassId) (b I J : Nat → Nat) (G : Nat → Nat → Nat) (i : Nat) (h : i ≤ 1) (hk : G 2 i = 0) : Met l_ yX6_from wsX6_from ({ frames := 1, cells := 0, slots := 0, locals := 25 }) (va_Pc [.ref (b 0), .int (nI i)] (wH YT D k (mw b k I J G))) (va_Qi (fun (r : Int32) (u : Unit) => r = -3) (fun (u : Unit) (t_ : State) => va_P D vwCl ((fun (_ : Unit) => mw b k I J (gset G 3 (sRef (G 3) 1))) u) t_.heap) (wA (mw b k I J G))) 0 0 (wA (mw b k I J G)) := by
  refine my_entry (cc := cX6_from) (maxL := 3) (ret := some .int) (by decide) rfl (Nat.le_of_ble_eq_true rfl) ?_
  intro p_ e_ s_ m_ bl_ me_ c_ hz hr hlk hB ls hl
  obtain ⟨hP, hK, hD0, -⟩ := hB
  have hD := wA.self hD0
  have hS : va_S (wA (mw b k I J G)) s_.heap s_.heap [] := va_S.rf
  have hl : lv_has ls 3 [(0, .ref (b 0)), (1, .int (nI i))] := hl
  refine lv_iload_n hz.1 hz.2.1 dX6_from_0 rfl (lv_at hl 1 rfl) ?_
  refine lv_i2l (v := (nI i).toInt64) hz.1 hz.2.1 dX6_from_1 (rfl) ?_
  refine lv_lconst (v := lN 0) hz.1 hz.2.1 dX6_from_2 (by decide) ?_
  refine lv_lconst (v := lN 1) hz.1 hz.2.1 dX6_from_3 (by decide) ?_
  refine rdS (As := [.long ((nI i).toInt64), .long (lN 0), .long (lN 1)]) (rest := []) hz (c6_in l_ (nI i) 0 1 (by omega) (by omega)) rfl (va_cwS 3 hz.2.2.2.2 gX6_from_X6_in rfl rfl rfl (by decide +kernel) ⟨Nat.le_of_ble_eq_true rfl, Nat.le_of_ble_eq_true rfl⟩) rfl hl.1 rfl (Nat.le_of_ble_eq_true rfl) dX6_from_4 ⟨Nat.zero_le _, Nat.zero_le _⟩ ?_
  refine zne (tgt := 17) hz dX6_from_7 (by decide) (fun c_7 => ?_) (fun c_7 => ?_)
  · refine lv_aload_n hz.1 hz.2.1 dX6_from_17 rfl (lv_at hl 0 rfl) ?_
    refine rg hz hinX6_from hK hP 0 rfl rfl 2 (by decide) (List.mem_of_getElem? (i := 1) rfl) rfl (v := .ref (b 3)) rfl dX6_from_18 ?_
    refine lv_iload_n hz.1 hz.2.1 dX6_from_21 rfl (lv_at hl 1 rfl) ?_
    refine rzald hz hK hP 3 2 rfl rfl (i := i) (by omega) (by decide) (v := nI (G 2 i)) rfl dX6_from_22 ?_
    refine jne0 (tgt := 31) hz dX6_from_23 (by decide) (by omega) (fun c_23 => ?_) (fun c_23 => ?_)
    · exact absurd c_23 (by omega)
    · refine lv_aload_n hz.1 hz.2.1 dX6_from_26 rfl (lv_at hl 0 rfl) ?_
      refine wrV (A := wA (mw b k I J G)) (As := []) (rest := []) hz okYT (c6_no l_ D k b I J G  ) (cwV 0 hz.2.2.2.2 gX6_from_X6_no rfl rfl rfl (by decide +kernel) ⟨Nat.le_of_ble_eq_true rfl, Nat.le_of_ble_eq_true rfl⟩) hK trivial hP hD hS 0 6 rfl rfl rfl rfl hl.1 rfl (Nat.le_of_ble_eq_true rfl) dX6_from_27 ⟨Nat.zero_le _, Nat.zero_le _⟩ (fun r u H locs hp hP hS _ => ?_)
      obtain rfl : r = -3 := hp
      have hP : va_P D vwCl (mw b k I J (gset G 3 (sRef (G 3) 1))) H := hP
      have hD := mw_D (I' := I) (J' := J) (G' := gset G 3 (sRef (G 3) 1)) hD
      exact wr_iret hz hr hlk dX6_from_30 hS (()) hP (rfl)
  · exact absurd ((wIn_ok (by omega) (by omega) (by omega)).symm.trans c_7) (by decide)

theorem hinX6_status : ∀ w ∈ wsX60, w ∈ wsX6_status := fun _ h => List.mem_cons_of_mem _ (List.mem_append_right _ h)
set_option maxHeartbeats 4000000 in
set_option maxRecDepth 100000 in
theorem c6_status_bad (l_ : Launch) (D : va_G) (k : Nat → ClassId) (b I J : Nat → Nat) (G : Nat → Nat → Nat) (x : Int32) (hb : wIn x 0 2 = false) : Met l_ yX6_status wsX6_status ({ frames := 1, cells := 0, slots := 0, locals := 25 }) (va_Pc [.ref (b 0), .int x] (wH YT D k (mw b k I J G))) (va_Qi (fun (r : Int32) (u : Unit) => r = -1) (fun (u : Unit) (t_ : State) => va_P D vwCl ((fun (_ : Unit) => mw b k I J (gset G 3 (sRef (G 3) 0))) u) t_.heap) (wA (mw b k I J G))) 0 0 (wA (mw b k I J G)) := by
  refine my_entry (cc := cX6_status) (maxL := 2) (ret := some .int) (by decide) rfl (Nat.le_of_ble_eq_true rfl) ?_
  intro p_ e_ s_ m_ bl_ me_ c_ hz hr hlk hB ls hl
  obtain ⟨hP, hK, hD0, -⟩ := hB
  have hD := wA.self hD0
  have hS : va_S (wA (mw b k I J G)) s_.heap s_.heap [] := va_S.rf
  have hl : lv_has ls 2 [(0, .ref (b 0)), (1, .int x)] := hl
  refine lv_iload_n hz.1 hz.2.1 dX6_status_0 rfl (lv_at hl 1 rfl) ?_
  refine lv_i2l (v := x.toInt64) hz.1 hz.2.1 dX6_status_1 (rfl) ?_
  refine lv_lconst (v := lN 0) hz.1 hz.2.1 dX6_status_2 (by decide) ?_
  refine lv_ldc2 (own := RX6) (v := lN 2) hz.1 hz.2.1 hz.2.2.2.1 (hz.2.2.2.2 (.constantLong RX6 66 (2)) (List.mem_of_getElem? (i := 1) rfl)) dX6_status_3 ?_
  refine rdS (As := [.long x.toInt64, .long (lN 0), .long (lN 2)]) (rest := []) hz (c6_in l_ x 0 2 (by omega) (by omega)) rfl (va_cwS 3 hz.2.2.2.2 gX6_status_X6_in rfl rfl rfl (by decide +kernel) ⟨Nat.le_of_ble_eq_true rfl, Nat.le_of_ble_eq_true rfl⟩) rfl hl.1 rfl (Nat.le_of_ble_eq_true rfl) dX6_status_6 ⟨Nat.zero_le _, Nat.zero_le _⟩ ?_
  refine zeq (tgt := 21) hz dX6_status_9 (by decide) (fun c_9 => ?_) (fun c_9 => ?_)
  · refine lv_aload_n hz.1 hz.2.1 dX6_status_21 rfl (lv_at hl 0 rfl) ?_
    refine lv_iconst (v := (-1)) hz.1 hz.2.1 dX6_status_22 (by decide) ?_
    refine wrV (A := wA (mw b k I J G)) (As := [.int (-1)]) (rest := []) hz okYT (c6_bad l_ D k b I J G (-1) ) (cwV 1 hz.2.2.2.2 gX6_status_X6_bad rfl rfl rfl (by decide +kernel) ⟨Nat.le_of_ble_eq_true rfl, Nat.le_of_ble_eq_true rfl⟩) hK trivial hP hD hS 0 6 rfl rfl rfl rfl hl.1 rfl (Nat.le_of_ble_eq_true rfl) dX6_status_23 ⟨Nat.zero_le _, Nat.zero_le _⟩ (fun r u H locs hp hP hS _ => ?_)
    obtain rfl : r = -1 := hp
    have hP : va_P D vwCl (mw b k I J (gset G 3 (sRef (G 3) 0))) H := hP
    have hD := mw_D (I' := I) (J' := J) (G' := gset G 3 (sRef (G 3) 0)) hD
    exact wr_iret hz hr hlk dX6_status_26 hS (()) hP (rfl)
  · simp [c_9] at hb

set_option maxHeartbeats 4000000 in
set_option maxRecDepth 100000 in
theorem c6_status_ok (l_ : Launch) (D : va_G) (k : Nat → ClassId) (b I J : Nat → Nat) (G : Nat → Nat → Nat) (wh : Nat) (h : wh ≤ 2) : Met l_ yX6_status wsX6_status ({ frames := 1, cells := 0, slots := 0, locals := 25 }) (va_Pc [.ref (b 0), .int (nI wh)] (wH YT D k (mw b k I J G))) (QcRead (nI (G 3 wh))) 0 0 (fun _ => False) := by
  refine my_entry (cc := cX6_status) (maxL := 2) (ret := some .int) (by decide) rfl (Nat.le_of_ble_eq_true rfl) ?_
  intro p_ e_ s_ m_ bl_ me_ c_ hz hr hlk hB ls hl
  obtain ⟨hP, hK, hD0, -⟩ := hB
  have hD := wA.self hD0
  have hS : va_S (wA (mw b k I J G)) s_.heap s_.heap [] := va_S.rf
  have hl : lv_has ls 2 [(0, .ref (b 0)), (1, .int (nI wh))] := hl
  refine lv_iload_n hz.1 hz.2.1 dX6_status_0 rfl (lv_at hl 1 rfl) ?_
  refine lv_i2l (v := (nI wh).toInt64) hz.1 hz.2.1 dX6_status_1 (rfl) ?_
  refine lv_lconst (v := lN 0) hz.1 hz.2.1 dX6_status_2 (by decide) ?_
  refine lv_ldc2 (own := RX6) (v := lN 2) hz.1 hz.2.1 hz.2.2.2.1 (hz.2.2.2.2 (.constantLong RX6 66 (2)) (List.mem_of_getElem? (i := 1) rfl)) dX6_status_3 ?_
  refine rdS (As := [.long ((nI wh).toInt64), .long (lN 0), .long (lN 2)]) (rest := []) hz (c6_in l_ (nI wh) 0 2 (by omega) (by omega)) rfl (va_cwS 3 hz.2.2.2.2 gX6_status_X6_in rfl rfl rfl (by decide +kernel) ⟨Nat.le_of_ble_eq_true rfl, Nat.le_of_ble_eq_true rfl⟩) rfl hl.1 rfl (Nat.le_of_ble_eq_true rfl) dX6_status_6 ⟨Nat.zero_le _, Nat.zero_le _⟩ ?_
  refine zeq (tgt := 21) hz dX6_status_9 (by decide) (fun c_9 => ?_) (fun c_9 => ?_)
  · exact absurd ((wIn_ok (by omega) (by omega) (by omega)).symm.trans c_9) (by decide)
  · refine lv_aload_n hz.1 hz.2.1 dX6_status_12 rfl (lv_at hl 0 rfl) ?_
    refine rg hz hinX6_status hK hP 0 rfl rfl 3 (by decide) (List.mem_of_getElem? (i := 2) rfl) rfl (v := .ref (b 4)) rfl dX6_status_13 ?_
    refine lv_iload_n hz.1 hz.2.1 dX6_status_16 rfl (lv_at hl 1 rfl) ?_
    refine rald hz hK hP 4 0 rfl rfl (i := wh) (by omega) (by decide) (v := nI (G 3 wh)) rfl dX6_status_17 ?_
    refine lv_goto (tgt := 26) hz.1 hz.2.1 dX6_status_18 (by decide) ?_
    exact rd_iret hz hr hlk dX6_status_26 (rfl)

theorem hinX6_counted : ∀ w ∈ wsX60, w ∈ wsX6_counted := fun _ h => List.mem_cons_of_mem _ (List.mem_append_right _ h)
set_option maxHeartbeats 4000000 in
set_option maxRecDepth 100000 in
theorem c6_counted (l_ : Launch) (D : va_G) (k : Nat → ClassId) (b I J : Nat → Nat) (G : Nat → Nat → Nat) (wh : Nat) (hf : Wf (G 0)) (h : wh ≤ 5) : Met l_ yX6_counted wsX6_counted ({ frames := 1, cells := 0, slots := 0, locals := 22 }) (va_Pc [.ref (b 0), .int (nI wh)] (wH YT D k (mw b k I J G))) (QcRead (nI (sCount (G 0) (I 0) wh))) 0 0 (fun _ => False) := by
  refine my_entry (cc := cX6_counted) (maxL := 2) (ret := some .int) (by decide) rfl (Nat.le_of_ble_eq_true rfl) ?_
  intro p_ e_ s_ m_ bl_ me_ c_ hz hr hlk hB ls hl
  obtain ⟨hP, hK, hD0, -⟩ := hB
  have hD := wA.self hD0
  have hS : va_S (wA (mw b k I J G)) s_.heap s_.heap [] := va_S.rf
  have hl : lv_has ls 2 [(0, .ref (b 0)), (1, .int (nI wh))] := hl
  have f0 := hf.n2
  have f1 := hf.n9
  have f2 := hf.fr
  have f3 := hf.gd
  refine lv_iload_n hz.1 hz.2.1 dX6_counted_0 rfl (lv_at hl 1 rfl) ?_
  by_cases sw_1_0 : wh = 0
  · refine lv_tableIn (off := 35) (tgt := 36) hz.1 hz.2.1 dX6_counted_1 (by rw [sw_1_0]; decide) (by rw [sw_1_0]; decide) (by rw [sw_1_0]; decide) (by decide) ?_
    refine lv_aload_n hz.1 hz.2.1 dX6_counted_36 rfl (lv_at hl 0 rfl) ?_
    refine rdV (A := wA (mw b k I J G)) (As := []) (rest := []) hz okYT (c6_line l_ D k b I J G  ) (cwV 0 hz.2.2.2.2 gX6_counted_X6_line rfl rfl rfl (by decide +kernel) ⟨Nat.le_of_ble_eq_true rfl, Nat.le_of_ble_eq_true rfl⟩) hK trivial hP hD hS 0 6 rfl rfl rfl rfl hl.1 rfl (Nat.le_of_ble_eq_true rfl) dX6_counted_37 ⟨Nat.zero_le _, Nat.zero_le _⟩ ?_
    exact rd_iret hz hr hlk dX6_counted_40 (by simp [sCount, sw_1_0])
  by_cases sw_1_1 : wh = 1
  · refine lv_tableIn (off := 40) (tgt := 41) hz.1 hz.2.1 dX6_counted_1 (by rw [sw_1_1]; decide) (by rw [sw_1_1]; decide) (by rw [sw_1_1]; decide) (by decide) ?_
    refine lv_aload_n hz.1 hz.2.1 dX6_counted_41 rfl (lv_at hl 0 rfl) ?_
    refine rg hz hinX6_counted hK hP 0 rfl rfl 0 (by decide) (List.mem_of_getElem? (i := 1) rfl) rfl (v := .ref (b 1)) rfl dX6_counted_42 ?_
    refine lv_iconst (v := nI 2) hz.1 hz.2.1 dX6_counted_45 (by decide) ?_
    refine rald hz hK hP 1 0 rfl rfl (i := 2) (by omega) (by decide) (v := nI (G 0 2)) rfl dX6_counted_46 ?_
    refine rdS (As := [.int (nI (G 0 2))]) (rest := []) hz (c6_bits l_ (G 0 2) (by omega)) rfl (va_cwS 1 hz.2.2.2.2 gX6_counted_X6_bits rfl rfl rfl (by decide +kernel) ⟨Nat.le_of_ble_eq_true rfl, Nat.le_of_ble_eq_true rfl⟩) rfl hl.1 rfl (Nat.le_of_ble_eq_true rfl) dX6_counted_47 ⟨Nat.zero_le _, Nat.zero_le _⟩ ?_
    exact rd_iret hz hr hlk dX6_counted_50 (by simp [sCount, sw_1_0, sw_1_1])
  by_cases sw_1_2 : wh = 2
  · refine lv_tableIn (off := 50) (tgt := 51) hz.1 hz.2.1 dX6_counted_1 (by rw [sw_1_2]; decide) (by rw [sw_1_2]; decide) (by rw [sw_1_2]; decide) (by decide) ?_
    refine lv_aload_n hz.1 hz.2.1 dX6_counted_51 rfl (lv_at hl 0 rfl) ?_
    refine rg hz hinX6_counted hK hP 0 rfl rfl 0 (by decide) (List.mem_of_getElem? (i := 1) rfl) rfl (v := .ref (b 1)) rfl dX6_counted_52 ?_
    refine lv_bipush (v := nI 19) hz.1 hz.2.1 dX6_counted_55 (by decide) ?_
    refine rald hz hK hP 1 0 rfl rfl (i := 19) (by omega) (by decide) (v := nI (G 0 19)) rfl dX6_counted_57 ?_
    exact rd_iret hz hr hlk dX6_counted_58 (by simp [sCount, sw_1_0, sw_1_1, sw_1_2])
  by_cases sw_1_3 : wh = 3
  · refine lv_tableIn (off := 58) (tgt := 59) hz.1 hz.2.1 dX6_counted_1 (by rw [sw_1_3]; decide) (by rw [sw_1_3]; decide) (by rw [sw_1_3]; decide) (by decide) ?_
    refine lv_aload_n hz.1 hz.2.1 dX6_counted_59 rfl (lv_at hl 0 rfl) ?_
    refine rg hz hinX6_counted hK hP 0 rfl rfl 0 (by decide) (List.mem_of_getElem? (i := 1) rfl) rfl (v := .ref (b 1)) rfl dX6_counted_60 ?_
    refine lv_bipush (v := nI 32) hz.1 hz.2.1 dX6_counted_63 (by decide) ?_
    refine rald hz hK hP 1 0 rfl rfl (i := 32) (by omega) (by decide) (v := nI (G 0 32)) rfl dX6_counted_65 ?_
    exact rd_iret hz hr hlk dX6_counted_66 (by simp [sCount, sw_1_0, sw_1_1, sw_1_2, sw_1_3])
  by_cases sw_1_4 : wh = 4
  · refine lv_tableIn (off := 66) (tgt := 67) hz.1 hz.2.1 dX6_counted_1 (by rw [sw_1_4]; decide) (by rw [sw_1_4]; decide) (by rw [sw_1_4]; decide) (by decide) ?_
    refine lv_aload_n hz.1 hz.2.1 dX6_counted_67 rfl (lv_at hl 0 rfl) ?_
    refine rg hz hinX6_counted hK hP 0 rfl rfl 12 (by decide) (List.mem_of_getElem? (i := 2) rfl) rfl (v := .int (nI (I 0))) rfl dX6_counted_68 ?_
    exact rd_iret hz hr hlk dX6_counted_71 (by simp [sCount, sw_1_0, sw_1_1, sw_1_2, sw_1_3, sw_1_4])
  refine lv_tableOut (tgt := 72) hz.1 hz.2.1 dX6_counted_1 (by rw [nI_toInt (by omega)]; omega) (by decide) ?_
  refine lv_aload_n hz.1 hz.2.1 dX6_counted_72 rfl (lv_at hl 0 rfl) ?_
  refine rg hz hinX6_counted hK hP 0 rfl rfl 0 (by decide) (List.mem_of_getElem? (i := 1) rfl) rfl (v := .ref (b 1)) rfl dX6_counted_73 ?_
  refine lv_iconst (v := nI 1) hz.1 hz.2.1 dX6_counted_76 (by decide) ?_
  refine rald hz hK hP 1 0 rfl rfl (i := 1) (by omega) (by decide) (v := nI (G 0 1)) rfl dX6_counted_77 ?_
  exact rd_iret hz hr hlk dX6_counted_78 (by simp [sCount, sw_1_0, sw_1_1, sw_1_2, sw_1_3, sw_1_4])

theorem hinX6_count : ∀ w ∈ wsX60, w ∈ wsX6_count := fun _ h => List.mem_cons_of_mem _ (List.mem_append_right _ h)
set_option maxHeartbeats 4000000 in
set_option maxRecDepth 100000 in
theorem c6_count_bad (l_ : Launch) (D : va_G) (k : Nat → ClassId) (b I J : Nat → Nat) (G : Nat → Nat → Nat) (x : Int32) (hf : Wf (G 0)) (hb : wIn x 0 5 = false) : Met l_ yX6_count wsX6_count ({ frames := 1, cells := 0, slots := 0, locals := 25 }) (va_Pc [.ref (b 0), .int x] (wH YT D k (mw b k I J G))) (va_Qi (fun (r : Int32) (u : Unit) => r = -2) (fun (u : Unit) (t_ : State) => va_P D vwCl ((fun (_ : Unit) => mw b k I J (gset G 3 (sRef (G 3) 0))) u) t_.heap) (wA (mw b k I J G))) 0 0 (wA (mw b k I J G)) := by
  refine my_entry (cc := cX6_count) (maxL := 2) (ret := some .int) (by decide) rfl (Nat.le_of_ble_eq_true rfl) ?_
  intro p_ e_ s_ m_ bl_ me_ c_ hz hr hlk hB ls hl
  obtain ⟨hP, hK, hD0, -⟩ := hB
  have hD := wA.self hD0
  have hS : va_S (wA (mw b k I J G)) s_.heap s_.heap [] := va_S.rf
  have hl : lv_has ls 2 [(0, .ref (b 0)), (1, .int x)] := hl
  have f0 := hf.n2
  have f1 := hf.n9
  have f2 := hf.fr
  have f3 := hf.gd
  refine lv_iload_n hz.1 hz.2.1 dX6_count_0 rfl (lv_at hl 1 rfl) ?_
  refine lv_i2l (v := x.toInt64) hz.1 hz.2.1 dX6_count_1 (rfl) ?_
  refine lv_lconst (v := lN 0) hz.1 hz.2.1 dX6_count_2 (by decide) ?_
  refine lv_ldc2 (own := RX6) (v := lN 5) hz.1 hz.2.1 hz.2.2.2.1 (hz.2.2.2.2 (.constantLong RX6 86 (5)) (List.mem_of_getElem? (i := 1) rfl)) dX6_count_3 ?_
  refine rdS (As := [.long x.toInt64, .long (lN 0), .long (lN 5)]) (rest := []) hz (c6_in l_ x 0 5 (by omega) (by omega)) rfl (va_cwS 3 hz.2.2.2.2 gX6_count_X6_in rfl rfl rfl (by decide +kernel) ⟨Nat.le_of_ble_eq_true rfl, Nat.le_of_ble_eq_true rfl⟩) rfl hl.1 rfl (Nat.le_of_ble_eq_true rfl) dX6_count_6 ⟨Nat.zero_le _, Nat.zero_le _⟩ ?_
  refine zeq (tgt := 20) hz dX6_count_9 (by decide) (fun c_9 => ?_) (fun c_9 => ?_)
  · refine lv_aload_n hz.1 hz.2.1 dX6_count_20 rfl (lv_at hl 0 rfl) ?_
    refine lv_bipush (v := (-2)) hz.1 hz.2.1 dX6_count_21 (by decide) ?_
    refine wrV (A := wA (mw b k I J G)) (As := [.int (-2)]) (rest := []) hz okYT (c6_bad l_ D k b I J G (-2) ) (cwV 1 hz.2.2.2.2 gX6_count_X6_bad rfl rfl rfl (by decide +kernel) ⟨Nat.le_of_ble_eq_true rfl, Nat.le_of_ble_eq_true rfl⟩) hK trivial hP hD hS 0 6 rfl rfl rfl rfl hl.1 rfl (Nat.le_of_ble_eq_true rfl) dX6_count_23 ⟨Nat.zero_le _, Nat.zero_le _⟩ (fun r u H locs hp hP hS _ => ?_)
    obtain rfl : r = -2 := hp
    have hP : va_P D vwCl (mw b k I J (gset G 3 (sRef (G 3) 0))) H := hP
    have hD := mw_D (I' := I) (J' := J) (G' := gset G 3 (sRef (G 3) 0)) hD
    exact wr_iret hz hr hlk dX6_count_26 hS (()) hP (rfl)
  · simp [c_9] at hb

set_option maxHeartbeats 4000000 in
set_option maxRecDepth 100000 in
theorem c6_count_ok (l_ : Launch) (D : va_G) (k : Nat → ClassId) (b I J : Nat → Nat) (G : Nat → Nat → Nat) (wh : Nat) (hf : Wf (G 0)) (h : wh ≤ 5) : Met l_ yX6_count wsX6_count ({ frames := 2, cells := 0, slots := 0, locals := 43 }) (va_Pc [.ref (b 0), .int (nI wh)] (wH YT D k (mw b k I J G))) (QcRead (nI (sCount (G 0) (I 0) wh))) 0 0 (fun _ => False) := by
  refine my_entry (cc := cX6_count) (maxL := 2) (ret := some .int) (by decide) rfl (Nat.le_of_ble_eq_true rfl) ?_
  intro p_ e_ s_ m_ bl_ me_ c_ hz hr hlk hB ls hl
  obtain ⟨hP, hK, hD0, -⟩ := hB
  have hD := wA.self hD0
  have hS : va_S (wA (mw b k I J G)) s_.heap s_.heap [] := va_S.rf
  have hl : lv_has ls 2 [(0, .ref (b 0)), (1, .int (nI wh))] := hl
  have f0 := hf.n2
  have f1 := hf.n9
  have f2 := hf.fr
  have f3 := hf.gd
  refine lv_iload_n hz.1 hz.2.1 dX6_count_0 rfl (lv_at hl 1 rfl) ?_
  refine lv_i2l (v := (nI wh).toInt64) hz.1 hz.2.1 dX6_count_1 (rfl) ?_
  refine lv_lconst (v := lN 0) hz.1 hz.2.1 dX6_count_2 (by decide) ?_
  refine lv_ldc2 (own := RX6) (v := lN 5) hz.1 hz.2.1 hz.2.2.2.1 (hz.2.2.2.2 (.constantLong RX6 86 (5)) (List.mem_of_getElem? (i := 1) rfl)) dX6_count_3 ?_
  refine rdS (As := [.long ((nI wh).toInt64), .long (lN 0), .long (lN 5)]) (rest := []) hz (c6_in l_ (nI wh) 0 5 (by omega) (by omega)) rfl (va_cwS 3 hz.2.2.2.2 gX6_count_X6_in rfl rfl rfl (by decide +kernel) ⟨Nat.le_of_ble_eq_true rfl, Nat.le_of_ble_eq_true rfl⟩) rfl hl.1 rfl (Nat.le_of_ble_eq_true rfl) dX6_count_6 ⟨Nat.zero_le _, Nat.zero_le _⟩ ?_
  refine zeq (tgt := 20) hz dX6_count_9 (by decide) (fun c_9 => ?_) (fun c_9 => ?_)
  · exact absurd ((wIn_ok (by omega) (by omega) (by omega)).symm.trans c_9) (by decide)
  · refine lv_aload_n hz.1 hz.2.1 dX6_count_12 rfl (lv_at hl 0 rfl) ?_
    refine lv_iload_n hz.1 hz.2.1 dX6_count_13 rfl (lv_at hl 1 rfl) ?_
    refine rdV (A := wA (mw b k I J G)) (As := [.int (nI wh)]) (rest := []) hz okYT (c6_counted l_ D k b I J G wh hf (by omega)) (cwV 1 hz.2.2.2.2 gX6_count_X6_counted rfl rfl rfl (by decide +kernel) ⟨Nat.le_of_ble_eq_true rfl, Nat.le_of_ble_eq_true rfl⟩) hK trivial hP hD hS 0 6 rfl rfl rfl rfl hl.1 rfl (Nat.le_of_ble_eq_true rfl) dX6_count_14 ⟨Nat.zero_le _, Nat.zero_le _⟩ ?_
    refine lv_goto (tgt := 26) hz.1 hz.2.1 dX6_count_17 (by decide) ?_
    exact rd_iret hz hr hlk dX6_count_26 (rfl)

theorem hinX6_sums : ∀ w ∈ wsX60, w ∈ wsX6_sums := fun _ h => List.mem_cons_of_mem _ (List.mem_append_right _ h)
set_option maxHeartbeats 4000000 in
set_option maxRecDepth 100000 in
theorem c6_sums (l_ : Launch) (D : va_G) (k : Nat → ClassId) (b I J : Nat → Nat) (G : Nat → Nat → Nat) (h0 f n : Nat) (hn : n < 60) (hi : f + n ≤ 57) (hv : ∀ j, j < n → G 0 (f + j) < 1000) : Met l_ yX6_sums wsX6_sums ({ frames := 0, cells := 0, slots := 0, locals := 0 }) (va_Pc [.ref (b 0), .long (lN h0), .int (nI f), .int (nI n)] (wH YT D k (mw b k I J G))) (k2_QcV (.long (lN (sSums (fun z_ => G 0 (f + z_)) h0 n)))) 0 0 (fun _ => False) := by
  refine my_entry (cc := cX6_sums) (maxL := 8) (ret := some .long) (by decide) rfl (Nat.le_of_ble_eq_true rfl) ?_
  intro p_ e_ s_ m_ bl_ me_ c_ hz hr hlk hB ls hl
  obtain ⟨hP, hK, hD0, -⟩ := hB
  have hD := wA.self hD0
  have hS : va_S (wA (mw b k I J G)) s_.heap s_.heap [] := va_S.rf
  have hl : lv_has ls 8 [(0, .ref (b 0)), (1, .long (lN h0)), (3, .int (nI f)), (4, .int (nI n))] := hl
  refine lv_lload_n hz.1 hz.2.1 dX6_sums_0 rfl (lv_at hl 1 rfl) ?_
  refine lv_lstore (lv' := [(5, .long (lN h0)), (0, .ref (b 0)), (1, .long (lN h0)), (3, .int (nI f)), (4, .int (nI n))]) hz.1 hz.2.1 dX6_sums_1 hl (by decide) rfl (fun ls hl => ?_)
  refine lv_iconst (v := nI 0) hz.1 hz.2.1 dX6_sums_3 (by decide) ?_
  refine lv_istore (lv' := [(7, .int (nI 0)), (5, .long (lN h0)), (0, .ref (b 0)), (1, .long (lN h0)), (3, .int (nI f)), (4, .int (nI n))]) hz.1 hz.2.1 dX6_sums_4 hl (by decide) rfl (fun ls hl => ?_)
  have lp_6 : ∀ (fu : Nat) (i : Nat), (i ≤ n) → n - i < fu → ∀ ls : Array Slot, lv_has ls 8 [(0, .ref (b 0)), (1, .long (lN h0)), (3, .int (nI f)), (4, .int (nI n)), (5, .long (lN (sSums (fun z_ => G 0 (f + z_)) h0 i))), (7, .int (nI i))] → W p_ l_ e_ ({ frames := 0, cells := 0, slots := 0, locals := 0 }) s_ m_ [.ref (b 0), .long (lN h0), .int (nI f), .int (nI n)].toArray bl_ me_ c_ s_.heap [] 0 0 (MQ bl_ (k2_QcV (.long (lN (sSums (fun z_ => G 0 (f + z_)) h0 n)))) [.ref (b 0), .long (lN h0), .int (nI f), .int (nI n)].toArray s_ 0 0 (fun _ => False)) (F0 m_ 6 ls []) := by
    intro fu
    induction fu with
    | zero => intro i hi2 hm; exact absurd hm (Nat.not_lt_zero _)
    | succ fu ih6 =>
      intro i hi2 hm ls hl
      refine lv_iload hz.1 hz.2.1 dX6_sums_6 (lv_at hl 5 rfl) ?_
      refine lv_iload hz.1 hz.2.1 dX6_sums_8 (lv_at hl 3 rfl) ?_
      refine jge (tgt := 38) hz dX6_sums_10 (by decide) (by omega) (by omega) (fun c_10 => ?_) (fun c_10 => ?_)
      · obtain rfl : n = i := by omega
        refine lv_lload hz.1 hz.2.1 dX6_sums_38 (lv_at hl 4 rfl) ?_
        exact rd_lret hz hr hlk dX6_sums_40 (rfl)
      · have v1 := hv i c_10
        refine lv_ldc2 (own := RX6) (v := lN 31) hz.1 hz.2.1 hz.2.2.2.1 (hz.2.2.2.2 (.constantLong RX6 276 (31)) (List.mem_of_getElem? (i := 1) rfl)) dX6_sums_13 ?_
        refine lv_lload hz.1 hz.2.1 dX6_sums_16 (lv_at hl 4 rfl) ?_
        refine lv_lmul hz.1 hz.2.1 dX6_sums_18 ?_
        refine toeL (z := lN (31 * (sSums (fun z_ => G 0 (f + z_)) h0 i))) (lN_mul _ _) ?_
        refine lv_aload_n hz.1 hz.2.1 dX6_sums_19 rfl (lv_at hl 0 rfl) ?_
        refine rg hz hinX6_sums hK hP 0 rfl rfl 0 (by decide) (List.mem_of_getElem? (i := 2) rfl) rfl (v := .ref (b 1)) rfl dX6_sums_20 ?_
        refine lv_iload_n hz.1 hz.2.1 dX6_sums_23 rfl (lv_at hl 2 rfl) ?_
        refine lv_iload hz.1 hz.2.1 dX6_sums_24 (lv_at hl 5 rfl) ?_
        refine lv_iadd hz.1 hz.2.1 dX6_sums_26 ?_
        refine toe (z := nI (f + i)) (nI_add _ _) ?_
        refine rald hz hK hP 1 0 rfl rfl (i := (f + i)) (by omega) (by decide) (v := nI (G 0 (f + i))) rfl dX6_sums_27 ?_
        refine lv_i2l (v := lN (G 0 (f + i))) hz.1 hz.2.1 dX6_sums_28 (nI_l (by omega)) ?_
        refine lv_ladd hz.1 hz.2.1 dX6_sums_29 ?_
        refine toeL (z := lN ((31 * (sSums (fun z_ => G 0 (f + z_)) h0 i)) + (G 0 (f + i)))) (lN_add _ _) ?_
        refine lv_lstore (lv' := [(5, .long (lN ((31 * (sSums (fun z_ => G 0 (f + z_)) h0 i)) + (G 0 (f + i))))), (0, .ref (b 0)), (1, .long (lN h0)), (3, .int (nI f)), (4, .int (nI n)), (7, .int (nI i))]) hz.1 hz.2.1 dX6_sums_30 hl (by decide) rfl (fun ls hl => ?_)
        refine lv_iinc (v := nI (i + 1)) (lv' := [(7, .int (nI (i + 1))), (5, .long (lN ((31 * (sSums (fun z_ => G 0 (f + z_)) h0 i)) + (G 0 (f + i))))), (0, .ref (b 0)), (1, .long (lN h0)), (3, .int (nI f)), (4, .int (nI n))]) hz.1 hz.2.1 dX6_sums_32 hl (k := 5) rfl (nI_add _ 1) (by decide) rfl (fun ls hl => ?_)
        refine lv_goto (tgt := 6) hz.1 hz.2.1 dX6_sums_35 (by decide) ?_
        exact ih6 (i + 1) (by omega) (by omega) ls (lv_sub hl [2, 3, 4, 5, 1, 0] rfl)
  exact lp_6 _ 0 (by omega) (Nat.lt_succ_self _) ls (lv_sub hl [2, 3, 4, 5, 1, 0] rfl)

theorem hinX6_digest : ∀ w ∈ wsX60, w ∈ wsX6_digest := fun _ h => List.mem_cons_of_mem _ (List.mem_append_right _ h)
set_option maxHeartbeats 4000000 in
set_option maxRecDepth 100000 in
theorem c6_digest (l_ : Launch) (D : va_G) (k : Nat → ClassId) (b I J : Nat → Nat) (G : Nat → Nat → Nat)  (hf : Wf (G 0)) (hI : I 0 ≤ 200) : Met l_ yX6_digest wsX6_digest ({ frames := 2, cells := 0, slots := 0, locals := 43 }) (va_Pc [.ref (b 0)] (wH YT D k (mw b k I J G))) (k2_QcV (.long (lN (sDig (G 0) (I 0) (J 0) (J 1))))) 0 0 (fun _ => False) := by
  refine my_entry (cc := cX6_digest) (maxL := 4) (ret := some .long) (by decide) rfl (Nat.le_of_ble_eq_true rfl) ?_
  intro p_ e_ s_ m_ bl_ me_ c_ hz hr hlk hB ls hl
  obtain ⟨hP, hK, hD0, -⟩ := hB
  have hD := wA.self hD0
  have hS : va_S (wA (mw b k I J G)) s_.heap s_.heap [] := va_S.rf
  have hl : lv_has ls 4 [(0, .ref (b 0))] := hl
  have f0 := hf.n2
  have f1 := hf.n9
  have f2 := hf.fr
  have f3 := hf.gd
  have f4 := hf.wc
  have f5 := hf.pc
  have v1 : ∀ j, j < 2 * G 0 19 → G 0 (20 + j) < 1000 := fun j hj => by have := hf.wrow hj; omega
  have v2 : ∀ j, j < 3 * G 0 32 → G 0 (33 + j) < 1000 := fun j hj => by have := hf.prow hj; omega
  refine lv_ldc2 (own := RX6) (v := lN 787) hz.1 hz.2.1 hz.2.2.2.1 (hz.2.2.2.2 (.constantLong RX6 278 (787)) (List.mem_of_getElem? (i := 1) rfl)) dX6_digest_0 ?_
  refine lv_lstore_n (lv' := [(1, .long (lN 787)), (0, .ref (b 0))]) hz.1 hz.2.1 dX6_digest_3 rfl hl (by decide) rfl (fun ls hl => ?_)
  refine lv_iconst (v := nI 0) hz.1 hz.2.1 dX6_digest_4 (by decide) ?_
  refine lv_istore_n (lv' := [(3, .int (nI 0)), (1, .long (lN 787)), (0, .ref (b 0))]) hz.1 hz.2.1 dX6_digest_5 rfl hl (by decide) rfl (fun ls hl => ?_)
  have lp_6 : ∀ (fu : Nat) (i : Nat), (i ≤ 6) → 6 - i < fu → ∀ ls : Array Slot, lv_has ls 4 [(0, .ref (b 0)), (1, .long (lN (sSums (sCount (G 0) (I 0)) 787 i))), (3, .int (nI i))] → W p_ l_ e_ ({ frames := 2, cells := 0, slots := 0, locals := 43 }) s_ m_ [.ref (b 0)].toArray bl_ me_ c_ s_.heap [] 0 0 (MQ bl_ (k2_QcV (.long (lN (sDig (G 0) (I 0) (J 0) (J 1))))) [.ref (b 0)].toArray s_ 0 0 (fun _ => False)) (F0 m_ 6 ls []) := by
    intro fu
    induction fu with
    | zero => intro i hi hm; exact absurd hm (Nat.not_lt_zero _)
    | succ fu ih6 =>
      intro i hi hm ls hl
      refine lv_iload_n hz.1 hz.2.1 dX6_digest_6 rfl (lv_at hl 2 rfl) ?_
      refine lv_bipush (v := nI 6) hz.1 hz.2.1 dX6_digest_7 (by decide) ?_
      refine jge (tgt := 31) hz dX6_digest_9 (by decide) (by omega) (by omega) (fun c_9 => ?_) (fun c_9 => ?_)
      · obtain rfl : i = 6 := by omega
        refine lv_ldc2 (own := RX6) (v := lN 31) hz.1 hz.2.1 hz.2.2.2.1 (hz.2.2.2.2 (.constantLong RX6 276 (31)) (List.mem_of_getElem? (i := 2) rfl)) dX6_digest_31 ?_
        refine lv_lload_n hz.1 hz.2.1 dX6_digest_34 rfl (lv_at hl 1 rfl) ?_
        refine lv_lmul hz.1 hz.2.1 dX6_digest_35 ?_
        refine toeL (z := lN (31 * (sSums (sCount (G 0) (I 0)) 787 6))) (lN_mul _ _) ?_
        refine lv_aload_n hz.1 hz.2.1 dX6_digest_36 rfl (lv_at hl 0 rfl) ?_
        refine rg hz hinX6_digest hK hP 0 rfl rfl 0 (by decide) (List.mem_of_getElem? (i := 3) rfl) rfl (v := .ref (b 1)) rfl dX6_digest_37 ?_
        refine lv_iconst (v := nI 2) hz.1 hz.2.1 dX6_digest_40 (by decide) ?_
        refine rald hz hK hP 1 0 rfl rfl (i := 2) (by omega) (by decide) (v := nI (G 0 2)) rfl dX6_digest_41 ?_
        refine lv_i2l (v := lN (G 0 2)) hz.1 hz.2.1 dX6_digest_42 (nI_l (by omega)) ?_
        refine lv_ladd hz.1 hz.2.1 dX6_digest_43 ?_
        refine toeL (z := lN ((31 * (sSums (sCount (G 0) (I 0)) 787 6)) + (G 0 2))) (lN_add _ _) ?_
        refine lv_lstore_n (lv' := [(1, .long (lN ((31 * (sSums (sCount (G 0) (I 0)) 787 6)) + (G 0 2)))), (0, .ref (b 0)), (3, .int (nI 6))]) hz.1 hz.2.1 dX6_digest_44 rfl hl (by decide) rfl (fun ls hl => ?_)
        refine lv_iconst (v := nI 0) hz.1 hz.2.1 dX6_digest_45 (by decide) ?_
        refine lv_istore_n (lv' := [(3, .int (nI 0)), (1, .long (lN ((31 * (sSums (sCount (G 0) (I 0)) 787 6)) + (G 0 2)))), (0, .ref (b 0))]) hz.1 hz.2.1 dX6_digest_46 rfl hl (by decide) rfl (fun ls hl => ?_)
        have lp_47 : ∀ (fu : Nat) (i : Nat), (i ≤ G 0 0 - 1) → G 0 0 - 1 - i < fu → ∀ ls : Array Slot, lv_has ls 4 [(0, .ref (b 0)), (1, .long (lN (sWsum (G 0) (31 * sSums (sCount (G 0) (I 0)) 787 6 + G 0 2) i))), (3, .int (nI i))] → W p_ l_ e_ ({ frames := 2, cells := 0, slots := 0, locals := 43 }) s_ m_ [.ref (b 0)].toArray bl_ me_ c_ s_.heap [] 0 0 (MQ bl_ (k2_QcV (.long (lN (sDig (G 0) (I 0) (J 0) (J 1))))) [.ref (b 0)].toArray s_ 0 0 (fun _ => False)) (F0 m_ 47 ls []) := by
          intro fu
          induction fu with
          | zero => intro i hi hm; exact absurd hm (Nat.not_lt_zero _)
          | succ fu ih47 =>
            intro i hi hm ls hl
            refine lv_iload_n hz.1 hz.2.1 dX6_digest_47 rfl (lv_at hl 2 rfl) ?_
            refine lv_aload_n hz.1 hz.2.1 dX6_digest_48 rfl (lv_at hl 0 rfl) ?_
            refine rdV (A := wA (mw b k I J G)) (As := []) (rest := [.int (nI i)]) hz okYT (c6_wires l_ D k b I J G  (by omega)) (cwV 0 hz.2.2.2.2 gX6_digest_X6_wires rfl rfl rfl (by decide +kernel) ⟨Nat.le_of_ble_eq_true rfl, Nat.le_of_ble_eq_true rfl⟩) hK trivial hP hD hS 0 6 rfl rfl rfl rfl hl.1 rfl (Nat.le_of_ble_eq_true rfl) dX6_digest_49 ⟨Nat.zero_le _, Nat.zero_le _⟩ ?_
            refine jge (tgt := 92) hz dX6_digest_52 (by decide) (by omega) (by omega) (fun c_52 => ?_) (fun c_52 => ?_)
            · obtain rfl : i = G 0 0 - 1 := by omega
              refine lv_aload_n hz.1 hz.2.1 dX6_digest_92 rfl (lv_at hl 0 rfl) ?_
              refine lv_lload_n hz.1 hz.2.1 dX6_digest_93 rfl (lv_at hl 1 rfl) ?_
              refine lv_bipush (v := nI 20) hz.1 hz.2.1 dX6_digest_94 (by decide) ?_
              refine lv_iconst (v := nI 2) hz.1 hz.2.1 dX6_digest_96 (by decide) ?_
              refine lv_aload_n hz.1 hz.2.1 dX6_digest_97 rfl (lv_at hl 0 rfl) ?_
              refine rg hz hinX6_digest hK hP 0 rfl rfl 0 (by decide) (List.mem_of_getElem? (i := 3) rfl) rfl (v := .ref (b 1)) rfl dX6_digest_98 ?_
              refine lv_bipush (v := nI 19) hz.1 hz.2.1 dX6_digest_101 (by decide) ?_
              refine rald hz hK hP 1 0 rfl rfl (i := 19) (by omega) (by decide) (v := nI (G 0 19)) rfl dX6_digest_103 ?_
              refine lv_imul hz.1 hz.2.1 dX6_digest_104 ?_
              refine toe (z := nI (2 * (G 0 19))) (pk_mul _ _) ?_
              refine rdVl (A := wA (mw b k I J G)) (As := [.long (lN (sWsum (G 0) (31 * sSums (sCount (G 0) (I 0)) 787 6 + G 0 2) (G 0 0 - 1))), .int (nI 20), .int (nI (2 * (G 0 19)))]) (rest := []) hz okYT (c6_sums l_ D k b I J G (sWsum (G 0) (31 * sSums (sCount (G 0) (I 0)) 787 6 + G 0 2) (G 0 0 - 1)) 20 (2 * (G 0 19)) (by omega) (by omega) (by assumption)) (cwV 3 hz.2.2.2.2 gX6_digest_X6_sums rfl rfl rfl (by decide +kernel) ⟨Nat.le_of_ble_eq_true rfl, Nat.le_of_ble_eq_true rfl⟩) hK trivial hP hD hS 0 6 rfl rfl rfl rfl hl.1 rfl (Nat.le_of_ble_eq_true rfl) dX6_digest_105 ⟨Nat.zero_le _, Nat.zero_le _⟩ ?_
              refine lv_lstore_n (lv' := [(1, .long (lN (sSums (fun z_ => (G 0) (20 + z_)) (sWsum (G 0) (31 * sSums (sCount (G 0) (I 0)) 787 6 + G 0 2) (G 0 0 - 1)) (2 * (G 0 19))))), (0, .ref (b 0)), (3, .int (nI (G 0 0 - 1)))]) hz.1 hz.2.1 dX6_digest_108 rfl hl (by decide) rfl (fun ls hl => ?_)
              refine lv_aload_n hz.1 hz.2.1 dX6_digest_109 rfl (lv_at hl 1 rfl) ?_
              refine lv_lload_n hz.1 hz.2.1 dX6_digest_110 rfl (lv_at hl 0 rfl) ?_
              refine lv_bipush (v := nI 33) hz.1 hz.2.1 dX6_digest_111 (by decide) ?_
              refine lv_iconst (v := nI 3) hz.1 hz.2.1 dX6_digest_113 (by decide) ?_
              refine lv_aload_n hz.1 hz.2.1 dX6_digest_114 rfl (lv_at hl 1 rfl) ?_
              refine rg hz hinX6_digest hK hP 0 rfl rfl 0 (by decide) (List.mem_of_getElem? (i := 3) rfl) rfl (v := .ref (b 1)) rfl dX6_digest_115 ?_
              refine lv_bipush (v := nI 32) hz.1 hz.2.1 dX6_digest_118 (by decide) ?_
              refine rald hz hK hP 1 0 rfl rfl (i := 32) (by omega) (by decide) (v := nI (G 0 32)) rfl dX6_digest_120 ?_
              refine lv_imul hz.1 hz.2.1 dX6_digest_121 ?_
              refine toe (z := nI (3 * (G 0 32))) (pk_mul _ _) ?_
              refine rdVl (A := wA (mw b k I J G)) (As := [.long (lN (sSums (fun z_ => (G 0) (20 + z_)) (sWsum (G 0) (31 * sSums (sCount (G 0) (I 0)) 787 6 + G 0 2) (G 0 0 - 1)) (2 * (G 0 19)))), .int (nI 33), .int (nI (3 * (G 0 32)))]) (rest := []) hz okYT (c6_sums l_ D k b I J G (sSums (fun z_ => (G 0) (20 + z_)) (sWsum (G 0) (31 * sSums (sCount (G 0) (I 0)) 787 6 + G 0 2) (G 0 0 - 1)) (2 * (G 0 19))) 33 (3 * (G 0 32)) (by omega) (by omega) (by assumption)) (cwV 3 hz.2.2.2.2 gX6_digest_X6_sums rfl rfl rfl (by decide +kernel) ⟨Nat.le_of_ble_eq_true rfl, Nat.le_of_ble_eq_true rfl⟩) hK trivial hP hD hS 0 6 rfl rfl rfl rfl hl.1 rfl (Nat.le_of_ble_eq_true rfl) dX6_digest_122 ⟨Nat.zero_le _, Nat.zero_le _⟩ ?_
              refine lv_lstore_n (lv' := [(1, .long (lN (sSums (fun z_ => (G 0) (33 + z_)) (sSums (fun z_ => (G 0) (20 + z_)) (sWsum (G 0) (31 * sSums (sCount (G 0) (I 0)) 787 6 + G 0 2) (G 0 0 - 1)) (2 * (G 0 19))) (3 * (G 0 32))))), (0, .ref (b 0)), (3, .int (nI (G 0 0 - 1)))]) hz.1 hz.2.1 dX6_digest_125 rfl hl (by decide) rfl (fun ls hl => ?_)
              refine lv_ldc2 (own := RX6) (v := lN 31) hz.1 hz.2.1 hz.2.2.2.1 (hz.2.2.2.2 (.constantLong RX6 276 (31)) (List.mem_of_getElem? (i := 2) rfl)) dX6_digest_126 ?_
              refine lv_ldc2 (own := RX6) (v := lN 31) hz.1 hz.2.1 hz.2.2.2.1 (hz.2.2.2.2 (.constantLong RX6 276 (31)) (List.mem_of_getElem? (i := 2) rfl)) dX6_digest_129 ?_
              refine lv_lload_n hz.1 hz.2.1 dX6_digest_132 rfl (lv_at hl 0 rfl) ?_
              refine lv_lmul hz.1 hz.2.1 dX6_digest_133 ?_
              refine toeL (z := lN (31 * (sSums (fun z_ => (G 0) (33 + z_)) (sSums (fun z_ => (G 0) (20 + z_)) (sWsum (G 0) (31 * sSums (sCount (G 0) (I 0)) 787 6 + G 0 2) (G 0 0 - 1)) (2 * (G 0 19))) (3 * (G 0 32))))) (lN_mul _ _) ?_
              refine lv_aload_n hz.1 hz.2.1 dX6_digest_134 rfl (lv_at hl 1 rfl) ?_
              refine rg hz hinX6_digest hK hP 0 rfl rfl 4 (by decide) (List.mem_of_getElem? (i := 4) rfl) rfl (v := .long (lN (J 0))) rfl dX6_digest_135 ?_
              refine lv_ladd hz.1 hz.2.1 dX6_digest_138 ?_
              refine toeL (z := lN ((31 * (sSums (fun z_ => (G 0) (33 + z_)) (sSums (fun z_ => (G 0) (20 + z_)) (sWsum (G 0) (31 * sSums (sCount (G 0) (I 0)) 787 6 + G 0 2) (G 0 0 - 1)) (2 * (G 0 19))) (3 * (G 0 32)))) + (J 0))) (lN_add _ _) ?_
              refine lv_lmul hz.1 hz.2.1 dX6_digest_139 ?_
              refine toeL (z := lN (31 * ((31 * (sSums (fun z_ => (G 0) (33 + z_)) (sSums (fun z_ => (G 0) (20 + z_)) (sWsum (G 0) (31 * sSums (sCount (G 0) (I 0)) 787 6 + G 0 2) (G 0 0 - 1)) (2 * (G 0 19))) (3 * (G 0 32)))) + (J 0)))) (lN_mul _ _) ?_
              refine lv_aload_n hz.1 hz.2.1 dX6_digest_140 rfl (lv_at hl 1 rfl) ?_
              refine rg hz hinX6_digest hK hP 0 rfl rfl 5 (by decide) (List.mem_of_getElem? (i := 5) rfl) rfl (v := .long (lN (J 1))) rfl dX6_digest_141 ?_
              refine lv_ladd hz.1 hz.2.1 dX6_digest_144 ?_
              refine toeL (z := lN ((31 * ((31 * (sSums (fun z_ => (G 0) (33 + z_)) (sSums (fun z_ => (G 0) (20 + z_)) (sWsum (G 0) (31 * sSums (sCount (G 0) (I 0)) 787 6 + G 0 2) (G 0 0 - 1)) (2 * (G 0 19))) (3 * (G 0 32)))) + (J 0))) + (J 1))) (lN_add _ _) ?_
              exact rd_lret hz hr hlk dX6_digest_145 (rfl)
            · have k1 := hf.kd (w := i) (by omega)
              have t1 := hf.tn (w := i) (by omega)
              refine lv_ldc2 (own := RX6) (v := lN 31) hz.1 hz.2.1 hz.2.2.2.1 (hz.2.2.2.2 (.constantLong RX6 276 (31)) (List.mem_of_getElem? (i := 2) rfl)) dX6_digest_55 ?_
              refine lv_ldc2 (own := RX6) (v := lN 31) hz.1 hz.2.1 hz.2.2.2.1 (hz.2.2.2.2 (.constantLong RX6 276 (31)) (List.mem_of_getElem? (i := 2) rfl)) dX6_digest_58 ?_
              refine lv_lload_n hz.1 hz.2.1 dX6_digest_61 rfl (lv_at hl 1 rfl) ?_
              refine lv_lmul hz.1 hz.2.1 dX6_digest_62 ?_
              refine toeL (z := lN (31 * (sWsum (G 0) (31 * sSums (sCount (G 0) (I 0)) 787 6 + G 0 2) i))) (lN_mul _ _) ?_
              refine lv_aload_n hz.1 hz.2.1 dX6_digest_63 rfl (lv_at hl 0 rfl) ?_
              refine rg hz hinX6_digest hK hP 0 rfl rfl 0 (by decide) (List.mem_of_getElem? (i := 3) rfl) rfl (v := .ref (b 1)) rfl dX6_digest_64 ?_
              refine lv_iconst (v := nI 3) hz.1 hz.2.1 dX6_digest_67 (by decide) ?_
              refine lv_iload_n hz.1 hz.2.1 dX6_digest_68 rfl (lv_at hl 2 rfl) ?_
              refine lv_iadd hz.1 hz.2.1 dX6_digest_69 ?_
              refine toe (z := nI (3 + i)) (nI_add _ _) ?_
              refine rald hz hK hP 1 0 rfl rfl (i := (3 + i)) (by omega) (by decide) (v := nI (G 0 (3 + i))) rfl dX6_digest_70 ?_
              refine lv_i2l (v := lN (G 0 (3 + i))) hz.1 hz.2.1 dX6_digest_71 (nI_l (by omega)) ?_
              refine lv_ladd hz.1 hz.2.1 dX6_digest_72 ?_
              refine toeL (z := lN ((31 * (sWsum (G 0) (31 * sSums (sCount (G 0) (I 0)) 787 6 + G 0 2) i)) + (G 0 (3 + i)))) (lN_add _ _) ?_
              refine lv_lmul hz.1 hz.2.1 dX6_digest_73 ?_
              refine toeL (z := lN (31 * ((31 * (sWsum (G 0) (31 * sSums (sCount (G 0) (I 0)) 787 6 + G 0 2) i)) + (G 0 (3 + i))))) (lN_mul _ _) ?_
              refine lv_aload_n hz.1 hz.2.1 dX6_digest_74 rfl (lv_at hl 0 rfl) ?_
              refine rg hz hinX6_digest hK hP 0 rfl rfl 0 (by decide) (List.mem_of_getElem? (i := 3) rfl) rfl (v := .ref (b 1)) rfl dX6_digest_75 ?_
              refine lv_bipush (v := nI 11) hz.1 hz.2.1 dX6_digest_78 (by decide) ?_
              refine lv_iload_n hz.1 hz.2.1 dX6_digest_80 rfl (lv_at hl 2 rfl) ?_
              refine lv_iadd hz.1 hz.2.1 dX6_digest_81 ?_
              refine toe (z := nI (11 + i)) (nI_add _ _) ?_
              refine rald hz hK hP 1 0 rfl rfl (i := (11 + i)) (by omega) (by decide) (v := nI (G 0 (11 + i))) rfl dX6_digest_82 ?_
              refine lv_i2l (v := lN (G 0 (11 + i))) hz.1 hz.2.1 dX6_digest_83 (nI_l (by omega)) ?_
              refine lv_ladd hz.1 hz.2.1 dX6_digest_84 ?_
              refine toeL (z := lN ((31 * ((31 * (sWsum (G 0) (31 * sSums (sCount (G 0) (I 0)) 787 6 + G 0 2) i)) + (G 0 (3 + i)))) + (G 0 (11 + i)))) (lN_add _ _) ?_
              refine lv_lstore_n (lv' := [(1, .long (lN ((31 * ((31 * (sWsum (G 0) (31 * sSums (sCount (G 0) (I 0)) 787 6 + G 0 2) i)) + (G 0 (3 + i)))) + (G 0 (11 + i))))), (0, .ref (b 0)), (3, .int (nI i))]) hz.1 hz.2.1 dX6_digest_85 rfl hl (by decide) rfl (fun ls hl => ?_)
              refine lv_iinc (v := nI (i + 1)) (lv' := [(3, .int (nI (i + 1))), (1, .long (lN ((31 * ((31 * (sWsum (G 0) (31 * sSums (sCount (G 0) (I 0)) 787 6 + G 0 2) i)) + (G 0 (3 + i)))) + (G 0 (11 + i))))), (0, .ref (b 0))]) hz.1 hz.2.1 dX6_digest_86 hl (k := 2) rfl (nI_add _ 1) (by decide) rfl (fun ls hl => ?_)
              refine lv_goto (tgt := 47) hz.1 hz.2.1 dX6_digest_89 (by decide) ?_
              exact ih47 (i + 1) (by omega) (by omega) ls (lv_sub hl [2, 1, 0] rfl)
        exact lp_47 _ 0 (by omega) (Nat.lt_succ_self _) ls (lv_sub hl [2, 1, 0] rfl)
      · have c1 := sCount_lt hf hI i
        refine lv_ldc2 (own := RX6) (v := lN 31) hz.1 hz.2.1 hz.2.2.2.1 (hz.2.2.2.2 (.constantLong RX6 276 (31)) (List.mem_of_getElem? (i := 2) rfl)) dX6_digest_12 ?_
        refine lv_lload_n hz.1 hz.2.1 dX6_digest_15 rfl (lv_at hl 1 rfl) ?_
        refine lv_lmul hz.1 hz.2.1 dX6_digest_16 ?_
        refine toeL (z := lN (31 * (sSums (sCount (G 0) (I 0)) 787 i))) (lN_mul _ _) ?_
        refine lv_aload_n hz.1 hz.2.1 dX6_digest_17 rfl (lv_at hl 0 rfl) ?_
        refine lv_iload_n hz.1 hz.2.1 dX6_digest_18 rfl (lv_at hl 2 rfl) ?_
        refine rdV (A := wA (mw b k I J G)) (As := [.int (nI i)]) (rest := [.long (lN (31 * (sSums (sCount (G 0) (I 0)) 787 i)))]) hz okYT (c6_counted l_ D k b I J G i hf (by omega)) (cwV 1 hz.2.2.2.2 gX6_digest_X6_counted rfl rfl rfl (by decide +kernel) ⟨Nat.le_of_ble_eq_true rfl, Nat.le_of_ble_eq_true rfl⟩) hK trivial hP hD hS 0 6 rfl rfl rfl rfl hl.1 rfl (Nat.le_of_ble_eq_true rfl) dX6_digest_19 ⟨Nat.zero_le _, Nat.zero_le _⟩ ?_
        refine lv_i2l (v := lN (sCount (G 0) (I 0) i)) hz.1 hz.2.1 dX6_digest_22 (nI_l (by omega)) ?_
        refine lv_ladd hz.1 hz.2.1 dX6_digest_23 ?_
        refine toeL (z := lN ((31 * (sSums (sCount (G 0) (I 0)) 787 i)) + (sCount (G 0) (I 0) i))) (lN_add _ _) ?_
        refine lv_lstore_n (lv' := [(1, .long (lN ((31 * (sSums (sCount (G 0) (I 0)) 787 i)) + (sCount (G 0) (I 0) i)))), (0, .ref (b 0)), (3, .int (nI i))]) hz.1 hz.2.1 dX6_digest_24 rfl hl (by decide) rfl (fun ls hl => ?_)
        refine lv_iinc (v := nI (i + 1)) (lv' := [(3, .int (nI (i + 1))), (1, .long (lN ((31 * (sSums (sCount (G 0) (I 0)) 787 i)) + (sCount (G 0) (I 0) i)))), (0, .ref (b 0))]) hz.1 hz.2.1 dX6_digest_25 hl (k := 2) rfl (nI_add _ 1) (by decide) rfl (fun ls hl => ?_)
        refine lv_goto (tgt := 6) hz.1 hz.2.1 dX6_digest_28 (by decide) ?_
        exact ih6 (i + 1) (by omega) (by omega) ls (lv_sub hl [2, 1, 0] rfl)
  exact lp_6 _ 0 (by omega) (Nat.lt_succ_self _) ls (lv_sub hl [2, 1, 0] rfl)
