set_option maxHeartbeats 4000000 in
set_option maxRecDepth 100000 in
theorem c6_isSmall (l_ : Launch) (x : Nat) (hx : x < 1000) : Met l_ yX6_isSmall wsX6_isSmall ({ frames := 1, cells := 0, slots := 0, locals := 25 }) (va_Pc [.int (nI x)] (fun _ => True)) (QcRead (bI (decide (kTok x = 1)))) 0 0 (fun _ => False) := by
  refine my_entry (cc := cX6_isSmall) (maxL := 1) (ret := some .boolean) (by decide) rfl (Nat.le_of_ble_eq_true rfl) ?_
  intro p_ e_ s_ m_ bl_ me_ c_ hz hr hlk hB ls hl
  have hl : lv_has ls 1 [(0, .int (nI x))] := hl
  refine lv_iload_n hz.1 hz.2.1 dX6_isSmall_0 rfl (lv_at hl 0 rfl) ?_
  refine lv_i2l (v := (nI x).toInt64) hz.1 hz.2.1 dX6_isSmall_1 (rfl) ?_
  refine lv_ldc2 (own := RX6) (v := lN 97) hz.1 hz.2.1 hz.2.2.2.1 (hz.2.2.2.2 (.constantLong RX6 211 (97)) (List.mem_of_getElem? (i := 1) rfl)) dX6_isSmall_2 ?_
  refine lv_ldc2 (own := RX6) (v := lN 122) hz.1 hz.2.1 hz.2.2.2.1 (hz.2.2.2.2 (.constantLong RX6 213 (122)) (List.mem_of_getElem? (i := 2) rfl)) dX6_isSmall_5 ?_
  refine rdS (As := [.long ((nI x).toInt64), .long (lN 97), .long (lN 122)]) (rest := []) hz (c6_in l_ (nI x) 97 122 (by omega) (by omega)) rfl (va_cwS 3 hz.2.2.2.2 gX6_isSmall_X6_in rfl rfl rfl (by decide +kernel) ⟨Nat.le_of_ble_eq_true rfl, Nat.le_of_ble_eq_true rfl⟩) rfl hl.1 rfl (Nat.le_of_ble_eq_true rfl) dX6_isSmall_8 ⟨Nat.zero_le _, Nat.zero_le _⟩ ?_
  exact rd_zret hz hr hlk dX6_isSmall_11 (by rw [wIn_n (by omega) (by omega) (by omega)]; simp [kTok_1])

set_option maxHeartbeats 4000000 in
set_option maxRecDepth 100000 in
theorem c6_isFigure (l_ : Launch) (x : Nat) (hx : x < 1000) : Met l_ yX6_isFigure wsX6_isFigure ({ frames := 1, cells := 0, slots := 0, locals := 25 }) (va_Pc [.int (nI x)] (fun _ => True)) (QcRead (bI (decide (kTok x = 2)))) 0 0 (fun _ => False) := by
  refine my_entry (cc := cX6_isFigure) (maxL := 1) (ret := some .boolean) (by decide) rfl (Nat.le_of_ble_eq_true rfl) ?_
  intro p_ e_ s_ m_ bl_ me_ c_ hz hr hlk hB ls hl
  have hl : lv_has ls 1 [(0, .int (nI x))] := hl
  refine lv_iload_n hz.1 hz.2.1 dX6_isFigure_0 rfl (lv_at hl 0 rfl) ?_
  refine lv_i2l (v := (nI x).toInt64) hz.1 hz.2.1 dX6_isFigure_1 (rfl) ?_
  refine lv_ldc2 (own := RX6) (v := lN 48) hz.1 hz.2.1 hz.2.2.2.1 (hz.2.2.2.2 (.constantLong RX6 215 (48)) (List.mem_of_getElem? (i := 1) rfl)) dX6_isFigure_2 ?_
  refine lv_ldc2 (own := RX6) (v := lN 57) hz.1 hz.2.1 hz.2.2.2.1 (hz.2.2.2.2 (.constantLong RX6 217 (57)) (List.mem_of_getElem? (i := 2) rfl)) dX6_isFigure_5 ?_
  refine rdS (As := [.long ((nI x).toInt64), .long (lN 48), .long (lN 57)]) (rest := []) hz (c6_in l_ (nI x) 48 57 (by omega) (by omega)) rfl (va_cwS 3 hz.2.2.2.2 gX6_isFigure_X6_in rfl rfl rfl (by decide +kernel) ⟨Nat.le_of_ble_eq_true rfl, Nat.le_of_ble_eq_true rfl⟩) rfl hl.1 rfl (Nat.le_of_ble_eq_true rfl) dX6_isFigure_8 ⟨Nat.zero_le _, Nat.zero_le _⟩ ?_
  exact rd_zret hz hr hlk dX6_isFigure_11 (by rw [wIn_n (by omega) (by omega) (by omega)]; simp [kTok_2])

theorem hinX6_look : ∀ w ∈ wsX60, w ∈ wsX6_look := fun _ h => List.mem_cons_of_mem _ (List.mem_append_right _ h)
set_option maxHeartbeats 4000000 in
set_option maxRecDepth 100000 in
theorem c6_look (l_ : Launch) (D : va_G) (k : Nat → ClassId) (b I J : Nat → Nat) (G : Nat → Nat → Nat) (fr : Nat) (hL : I 0 ≤ 200) (hfr : fr ≤ I 0) (hT : ∀ j, G 9 j < 256) : Met l_ yX6_look wsX6_look ({ frames := 2, cells := 0, slots := 0, locals := 45 }) (va_Pc [.ref (b 0), .int (nI fr)] (wH YT D k (mw b k I J G))) (va_Qv (fun (u : Unit) => True) (fun (u : Unit) (t_ : State) => va_P D vwCl ((fun (_ : Unit) => mw b k (nset (nset (nset (nset I 1 (sAt (G 9) (I 0) fr)) 2 (sEd (G 9) (I 0) (sAt (G 9) (I 0) fr) - (sAt (G 9) (I 0) fr))) 3 (sKd (G 9) (I 0) (sAt (G 9) (I 0) fr))) 4 (sVl (G 9) (I 0) (sAt (G 9) (I 0) fr))) J G) u) t_.heap) (wA (mw b k I J G))) 0 0 (wA (mw b k I J G)) := by
  refine my_entry (cc := cX6_look) (maxL := 5) (ret := none) (by decide) rfl (Nat.le_of_ble_eq_true rfl) ?_
  intro p_ e_ s_ m_ bl_ me_ c_ hz hr hlk hB ls hl
  obtain ⟨hP, hK, hD0, -⟩ := hB
  have hD := wA.self hD0
  have hS : va_S (wA (mw b k I J G)) s_.heap s_.heap [] := va_S.rf
  have hl : lv_has ls 5 [(0, .ref (b 0)), (1, .int (nI fr))] := hl
  refine lv_aload_n hz.1 hz.2.1 dX6_look_0 rfl (lv_at hl 0 rfl) ?_
  refine lv_iload_n hz.1 hz.2.1 dX6_look_1 rfl (lv_at hl 1 rfl) ?_
  refine rput (v := .int (nI fr)) (ty := .int) hz hinX6_look tyX6 tyX6_ok nmX6 hK hP hD hS 0 rfl rfl 13 (by decide) (List.mem_of_getElem? (i := 1) rfl) rfl rfl (by decide +kernel) rfl rfl (Nat.le_of_ble_eq_true rfl) dX6_look_2 (fun H locs hP hS => ?_)
  have hP : va_P D vwCl (mw b k (nset I 1 fr) J G) H := hP
  have hD := mw_D (I' := nset I 1 fr) (J' := J) (G' := G) hD
  have jn_43 : ∀ (p : Nat), (p = sAt (G 9) (I 0) fr) → (p ≤ I 0) → ∀ ls : Array Slot, ∀ (H : Heap) (locs : List Loc), va_P D vwCl (mw b k (nset I 1 p) J G) H → va_S (wA (mw b k I J G)) s_.heap H locs → lv_has ls 5 [(0, .ref (b 0)), (1, .int (nI fr))] → W p_ l_ e_ ({ frames := 2, cells := 0, slots := 0, locals := 45 }) s_ m_ [.ref (b 0), .int (nI fr)].toArray bl_ me_ c_ H locs 0 0 (MQ bl_ (va_Qv (fun (u : Unit) => True) (fun (u : Unit) (t_ : State) => va_P D vwCl ((fun (_ : Unit) => mw b k (nset (nset (nset (nset I 1 (sAt (G 9) (I 0) fr)) 2 (sEd (G 9) (I 0) (sAt (G 9) (I 0) fr) - (sAt (G 9) (I 0) fr))) 3 (sKd (G 9) (I 0) (sAt (G 9) (I 0) fr))) 4 (sVl (G 9) (I 0) (sAt (G 9) (I 0) fr))) J G) u) t_.heap) (wA (mw b k I J G))) [.ref (b 0), .int (nI fr)].toArray s_ 0 0 (wA (mw b k I J G))) (F0 m_ 43 ls []) := by
    intro p hp hpl ls H locs hP hS hl
    have hD := mw_D (I' := nset I 1 p) (J' := J) (G' := G) hD
    refine lv_aload_n hz.1 hz.2.1 dX6_look_43 rfl (lv_at hl 0 rfl) ?_
    refine lv_iconst (v := nI 0) hz.1 hz.2.1 dX6_look_44 (by decide) ?_
    refine rput (v := .int (nI 0)) (ty := .int) hz hinX6_look tyX6 tyX6_ok nmX6 hK hP hD hS 0 rfl rfl 14 (by decide) (List.mem_of_getElem? (i := 4) rfl) rfl rfl (by decide +kernel) rfl rfl (Nat.le_of_ble_eq_true rfl) dX6_look_45 (fun H locs hP hS => ?_)
    have hP : va_P D vwCl (mw b k (nset (nset I 1 p) 2 0) J G) H := hP
    have hD := mw_D (I' := nset (nset I 1 p) 2 0) (J' := J) (G' := G) hD
    refine lv_aload_n hz.1 hz.2.1 dX6_look_48 rfl (lv_at hl 0 rfl) ?_
    refine lv_iconst (v := nI 0) hz.1 hz.2.1 dX6_look_49 (by decide) ?_
    refine rput (v := .int (nI 0)) (ty := .int) hz hinX6_look tyX6 tyX6_ok nmX6 hK hP hD hS 0 rfl rfl 15 (by decide) (List.mem_of_getElem? (i := 5) rfl) rfl rfl (by decide +kernel) rfl rfl (Nat.le_of_ble_eq_true rfl) dX6_look_50 (fun H locs hP hS => ?_)
    have hP : va_P D vwCl (mw b k (nset (nset (nset I 1 p) 2 0) 3 0) J G) H := hP
    have hD := mw_D (I' := nset (nset (nset I 1 p) 2 0) 3 0) (J' := J) (G' := G) hD
    refine lv_aload_n hz.1 hz.2.1 dX6_look_53 rfl (lv_at hl 0 rfl) ?_
    refine lv_iconst (v := nI 0) hz.1 hz.2.1 dX6_look_54 (by decide) ?_
    refine rput (v := .int (nI 0)) (ty := .int) hz hinX6_look tyX6 tyX6_ok nmX6 hK hP hD hS 0 rfl rfl 16 (by decide) (List.mem_of_getElem? (i := 6) rfl) rfl rfl (by decide +kernel) rfl rfl (Nat.le_of_ble_eq_true rfl) dX6_look_55 (fun H locs hP hS => ?_)
    have hP : va_P D vwCl (mw b k (nset (nset (nset (nset I 1 p) 2 0) 3 0) 4 0) J G) H := hP
    have hD := mw_D (I' := nset (nset (nset (nset I 1 p) 2 0) 3 0) 4 0) (J' := J) (G' := G) hD
    refine lv_aload_n hz.1 hz.2.1 dX6_look_58 rfl (lv_at hl 0 rfl) ?_
    refine rg hz hinX6_look hK hP 0 rfl rfl 13 (by decide) (List.mem_of_getElem? (i := 1) rfl) rfl (v := .int (nI p)) rfl dX6_look_59 ?_
    refine lv_aload_n hz.1 hz.2.1 dX6_look_62 rfl (lv_at hl 0 rfl) ?_
    refine rg hz hinX6_look hK hP 0 rfl rfl 12 (by decide) (List.mem_of_getElem? (i := 2) rfl) rfl (v := .int (nI (I 0))) rfl dX6_look_63 ?_
    refine jne (tgt := 70) hz dX6_look_66 (by decide) (by omega) (by omega) (fun c_66 => ?_) (fun c_66 => ?_)
    · have hpl2 : p < I 0 := by omega
      have hc := hT p
      have hEd := sEd_in (T := G 9) hpl2
      have hTk := sTk_in (T := G 9) hpl2
      have hk4 := kTok_in (G 9 p)
      refine lv_aload_n hz.1 hz.2.1 dX6_look_70 rfl (lv_at hl 0 rfl) ?_
      refine rg hz hinX6_look hK hP 0 rfl rfl 11 (by decide) (List.mem_of_getElem? (i := 3) rfl) rfl (v := .ref (b 10)) rfl dX6_look_71 ?_
      refine lv_aload_n hz.1 hz.2.1 dX6_look_74 rfl (lv_at hl 0 rfl) ?_
      refine rg hz hinX6_look hK hP 0 rfl rfl 13 (by decide) (List.mem_of_getElem? (i := 1) rfl) rfl (v := .int (nI p)) rfl dX6_look_75 ?_
      refine rald hz hK hP 10 0 rfl rfl (i := p) (by omega) (by decide) (v := nI (G 9 p)) rfl dX6_look_78 ?_
      refine lv_istore_n (lv' := [(2, .int (nI (G 9 p))), (0, .ref (b 0)), (1, .int (nI fr))]) hz.1 hz.2.1 dX6_look_79 rfl hl (by decide) rfl (fun ls hl => ?_)
      have jn_114 : ∀ (_ : Unit), ∀ ls : Array Slot, ∀ (H : Heap) (locs : List Loc), va_P D vwCl (mw b k (nset (nset (nset (nset I 1 p) 2 0) 3 0) 4 0) J G) H → va_S (wA (mw b k I J G)) s_.heap H locs → lv_has ls 5 [(0, .ref (b 0)), (1, .int (nI fr)), (2, .int (nI (G 9 p)))] → W p_ l_ e_ ({ frames := 2, cells := 0, slots := 0, locals := 45 }) s_ m_ [.ref (b 0), .int (nI fr)].toArray bl_ me_ c_ H locs 0 0 (MQ bl_ (va_Qv (fun (u : Unit) => True) (fun (u : Unit) (t_ : State) => va_P D vwCl ((fun (_ : Unit) => mw b k (nset (nset (nset (nset I 1 (sAt (G 9) (I 0) fr)) 2 (sEd (G 9) (I 0) (sAt (G 9) (I 0) fr) - (sAt (G 9) (I 0) fr))) 3 (sKd (G 9) (I 0) (sAt (G 9) (I 0) fr))) 4 (sVl (G 9) (I 0) (sAt (G 9) (I 0) fr))) J G) u) t_.heap) (wA (mw b k I J G))) [.ref (b 0), .int (nI fr)].toArray s_ 0 0 (wA (mw b k I J G))) (F0 m_ 114 ls [.int (nI (kTok (G 9 p))), .ref (b 0)]) := by
        intro _  ls H locs hP hS hl
        have hD := mw_D (I' := nset (nset (nset (nset I 1 p) 2 0) 3 0) 4 0) (J' := J) (G' := G) hD
        refine rput (v := .int (nI (kTok (G 9 p)))) (ty := .int) hz hinX6_look tyX6 tyX6_ok nmX6 hK hP hD hS 0 rfl rfl 15 (by decide) (List.mem_of_getElem? (i := 5) rfl) rfl rfl (by decide +kernel) rfl rfl (Nat.le_of_ble_eq_true rfl) dX6_look_114 (fun H locs hP hS => ?_)
        have hP : va_P D vwCl (mw b k (nset (nset (nset (nset I 1 p) 2 0) 3 (kTok (G 9 p))) 4 0) J G) H := hP
        have hD := mw_D (I' := nset (nset (nset (nset I 1 p) 2 0) 3 (kTok (G 9 p))) 4 0) (J' := J) (G' := G) hD
        refine lv_aload_n hz.1 hz.2.1 dX6_look_117 rfl (lv_at hl 0 rfl) ?_
        refine lv_iconst (v := nI 1) hz.1 hz.2.1 dX6_look_118 (by decide) ?_
        refine rput (v := .int (nI 1)) (ty := .int) hz hinX6_look tyX6 tyX6_ok nmX6 hK hP hD hS 0 rfl rfl 14 (by decide) (List.mem_of_getElem? (i := 4) rfl) rfl rfl (by decide +kernel) rfl rfl (Nat.le_of_ble_eq_true rfl) dX6_look_119 (fun H locs hP hS => ?_)
        have hP : va_P D vwCl (mw b k (nset (nset (nset (nset I 1 p) 2 1) 3 (kTok (G 9 p))) 4 0) J G) H := hP
        have hD := mw_D (I' := nset (nset (nset (nset I 1 p) 2 1) 3 (kTok (G 9 p))) 4 0) (J' := J) (G' := G) hD
        have jn_135 : ∀ (_ : Unit), ∀ ls : Array Slot, ∀ (H : Heap) (locs : List Loc), va_P D vwCl (mw b k (nset (nset (nset (nset I 1 p) 2 1) 3 (kTok (G 9 p))) 4 0) J G) H → va_S (wA (mw b k I J G)) s_.heap H locs → lv_has ls 5 [(0, .ref (b 0)), (1, .int (nI fr)), (2, .int (nI (G 9 p)))] → W p_ l_ e_ ({ frames := 2, cells := 0, slots := 0, locals := 45 }) s_ m_ [.ref (b 0), .int (nI fr)].toArray bl_ me_ c_ H locs 0 0 (MQ bl_ (va_Qv (fun (u : Unit) => True) (fun (u : Unit) (t_ : State) => va_P D vwCl ((fun (_ : Unit) => mw b k (nset (nset (nset (nset I 1 (sAt (G 9) (I 0) fr)) 2 (sEd (G 9) (I 0) (sAt (G 9) (I 0) fr) - (sAt (G 9) (I 0) fr))) 3 (sKd (G 9) (I 0) (sAt (G 9) (I 0) fr))) 4 (sVl (G 9) (I 0) (sAt (G 9) (I 0) fr))) J G) u) t_.heap) (wA (mw b k I J G))) [.ref (b 0), .int (nI fr)].toArray s_ 0 0 (wA (mw b k I J G))) (F0 m_ 135 ls [.int (bI (decide (kTok (G 9 p) < 3)))]) := by
          intro _  ls H locs hP hS hl
          have hD := mw_D (I' := nset (nset (nset (nset I 1 p) 2 1) 3 (kTok (G 9 p))) 4 0) (J' := J) (G' := G) hD
          refine lv_istore_n (lv' := [(3, .int (bI (decide (kTok (G 9 p) < 3)))), (0, .ref (b 0)), (1, .int (nI fr)), (2, .int (nI (G 9 p)))]) hz.1 hz.2.1 dX6_look_135 rfl hl (by decide) rfl (fun ls hl => ?_)
          have jn_215 : ∀ (_ : Unit), ∀ ls : Array Slot, ∀ (H : Heap) (locs : List Loc), va_P D vwCl (mw b k (nset (nset (nset (nset I 1 p) 2 (sEd (G 9) (I 0) p - p)) 3 (kTok (G 9 p))) 4 0) J G) H → va_S (wA (mw b k I J G)) s_.heap H locs → lv_has ls 5 [(0, .ref (b 0)), (1, .int (nI fr))] → W p_ l_ e_ ({ frames := 2, cells := 0, slots := 0, locals := 45 }) s_ m_ [.ref (b 0), .int (nI fr)].toArray bl_ me_ c_ H locs 0 0 (MQ bl_ (va_Qv (fun (u : Unit) => True) (fun (u : Unit) (t_ : State) => va_P D vwCl ((fun (_ : Unit) => mw b k (nset (nset (nset (nset I 1 (sAt (G 9) (I 0) fr)) 2 (sEd (G 9) (I 0) (sAt (G 9) (I 0) fr) - (sAt (G 9) (I 0) fr))) 3 (sKd (G 9) (I 0) (sAt (G 9) (I 0) fr))) 4 (sVl (G 9) (I 0) (sAt (G 9) (I 0) fr))) J G) u) t_.heap) (wA (mw b k I J G))) [.ref (b 0), .int (nI fr)].toArray s_ 0 0 (wA (mw b k I J G))) (F0 m_ 215 ls []) := by
            intro _  ls H locs hP hS hl
            have hD := mw_D (I' := nset (nset (nset (nset I 1 p) 2 (sEd (G 9) (I 0) p - p)) 3 (kTok (G 9 p))) 4 0) (J' := J) (G' := G) hD
            refine lv_iconst (v := nI 0) hz.1 hz.2.1 dX6_look_215 (by decide) ?_
            refine lv_istore (lv' := [(4, .int (nI 0)), (0, .ref (b 0)), (1, .int (nI fr))]) hz.1 hz.2.1 dX6_look_216 hl (by decide) rfl (fun ls hl => ?_)
            have jn_274 : ∀ (_ : Unit), ∀ ls : Array Slot, ∀ (H : Heap) (locs : List Loc), va_P D vwCl (mw b k (nset (nset (nset (nset I 1 p) 2 (sEd (G 9) (I 0) p - p)) 3 (kTok (G 9 p))) 4 (sVl (G 9) (I 0) p)) J G) H → va_S (wA (mw b k I J G)) s_.heap H locs → lv_has ls 5 [(0, .ref (b 0)), (1, .int (nI fr))] → W p_ l_ e_ ({ frames := 2, cells := 0, slots := 0, locals := 45 }) s_ m_ [.ref (b 0), .int (nI fr)].toArray bl_ me_ c_ H locs 0 0 (MQ bl_ (va_Qv (fun (u : Unit) => True) (fun (u : Unit) (t_ : State) => va_P D vwCl ((fun (_ : Unit) => mw b k (nset (nset (nset (nset I 1 (sAt (G 9) (I 0) fr)) 2 (sEd (G 9) (I 0) (sAt (G 9) (I 0) fr) - (sAt (G 9) (I 0) fr))) 3 (sKd (G 9) (I 0) (sAt (G 9) (I 0) fr))) 4 (sVl (G 9) (I 0) (sAt (G 9) (I 0) fr))) J G) u) t_.heap) (wA (mw b k I J G))) [.ref (b 0), .int (nI fr)].toArray s_ 0 0 (wA (mw b k I J G))) (F0 m_ 274 ls []) := by
              intro _  ls H locs hP hS hl
              have hD := mw_D (I' := nset (nset (nset (nset I 1 p) 2 (sEd (G 9) (I 0) p - p)) 3 (kTok (G 9 p))) 4 (sVl (G 9) (I 0) p)) (J' := J) (G' := G) hD
              refine lv_aload_n hz.1 hz.2.1 dX6_look_274 rfl (lv_at hl 0 rfl) ?_
              refine lv_aload_n hz.1 hz.2.1 dX6_look_275 rfl (lv_at hl 0 rfl) ?_
              refine rg hz hinX6_look hK hP 0 rfl rfl 15 (by decide) (List.mem_of_getElem? (i := 5) rfl) rfl (v := .int (nI (kTok (G 9 p)))) rfl dX6_look_276 ?_
              refine lv_iconst (v := nI 2) hz.1 hz.2.1 dX6_look_279 (by decide) ?_
              refine jne (tgt := 295) hz dX6_look_280 (by decide) (by omega) (by omega) (fun c_280 => ?_) (fun c_280 => ?_)
              · refine lv_aload_n hz.1 hz.2.1 dX6_look_295 rfl (lv_at hl 0 rfl) ?_
                refine rg hz hinX6_look hK hP 0 rfl rfl 15 (by decide) (List.mem_of_getElem? (i := 5) rfl) rfl (v := .int (nI (kTok (G 9 p)))) rfl dX6_look_296 ?_
                refine toe (z := nI (sKd (G 9) (I 0) p)) (by rw [sKd, hTk, if_neg (fun q => c_280 q.1)]) ?_
                refine rput (v := .int (nI (sKd (G 9) (I 0) p))) (ty := .int) hz hinX6_look tyX6 tyX6_ok nmX6 hK hP hD hS 0 rfl rfl 15 (by decide) (List.mem_of_getElem? (i := 5) rfl) rfl rfl (by decide +kernel) rfl rfl (Nat.le_of_ble_eq_true rfl) dX6_look_299 (fun H locs hP hS => ?_)
                have hP : va_P D vwCl (mw b k (nset (nset (nset (nset I 1 p) 2 (sEd (G 9) (I 0) p - p)) 3 (sKd (G 9) (I 0) p)) 4 (sVl (G 9) (I 0) p)) J G) H := hP
                have hD := mw_D (I' := nset (nset (nset (nset I 1 p) 2 (sEd (G 9) (I 0) p - p)) 3 (sKd (G 9) (I 0) p)) 4 (sVl (G 9) (I 0) p)) (J' := J) (G' := G) hD
                subst hp
                exact wr_vret hz hr hlk dX6_look_302 hS (()) hP (trivial)
              · refine lv_aload_n hz.1 hz.2.1 dX6_look_283 rfl (lv_at hl 0 rfl) ?_
                refine rg hz hinX6_look hK hP 0 rfl rfl 14 (by decide) (List.mem_of_getElem? (i := 4) rfl) rfl (v := .int (nI (sEd (G 9) (I 0) p - p))) rfl dX6_look_284 ?_
                refine lv_iconst (v := nI 2) hz.1 hz.2.1 dX6_look_287 (by decide) ?_
                refine jle (tgt := 295) hz dX6_look_288 (by decide) (by omega) (by omega) (fun c_288 => ?_) (fun c_288 => ?_)
                · refine lv_aload_n hz.1 hz.2.1 dX6_look_295 rfl (lv_at hl 0 rfl) ?_
                  refine rg hz hinX6_look hK hP 0 rfl rfl 15 (by decide) (List.mem_of_getElem? (i := 5) rfl) rfl (v := .int (nI (kTok (G 9 p)))) rfl dX6_look_296 ?_
                  refine toe (z := nI (sKd (G 9) (I 0) p)) (by rw [sKd, hTk, if_neg (fun q => c_288 q.2)]) ?_
                  refine rput (v := .int (nI (sKd (G 9) (I 0) p))) (ty := .int) hz hinX6_look tyX6 tyX6_ok nmX6 hK hP hD hS 0 rfl rfl 15 (by decide) (List.mem_of_getElem? (i := 5) rfl) rfl rfl (by decide +kernel) rfl rfl (Nat.le_of_ble_eq_true rfl) dX6_look_299 (fun H locs hP hS => ?_)
                  have hP : va_P D vwCl (mw b k (nset (nset (nset (nset I 1 p) 2 (sEd (G 9) (I 0) p - p)) 3 (sKd (G 9) (I 0) p)) 4 (sVl (G 9) (I 0) p)) J G) H := hP
                  have hD := mw_D (I' := nset (nset (nset (nset I 1 p) 2 (sEd (G 9) (I 0) p - p)) 3 (sKd (G 9) (I 0) p)) 4 (sVl (G 9) (I 0) p)) (J' := J) (G' := G) hD
                  subst hp
                  exact wr_vret hz hr hlk dX6_look_302 hS (()) hP (trivial)
                · refine lv_iconst (v := nI 4) hz.1 hz.2.1 dX6_look_291 (by decide) ?_
                  refine lv_goto (tgt := 299) hz.1 hz.2.1 dX6_look_292 (by decide) ?_
                  refine toe (z := nI (sKd (G 9) (I 0) p)) (by rw [sKd, hTk, if_pos ⟨c_280, c_288⟩]) ?_
                  refine rput (v := .int (nI (sKd (G 9) (I 0) p))) (ty := .int) hz hinX6_look tyX6 tyX6_ok nmX6 hK hP hD hS 0 rfl rfl 15 (by decide) (List.mem_of_getElem? (i := 5) rfl) rfl rfl (by decide +kernel) rfl rfl (Nat.le_of_ble_eq_true rfl) dX6_look_299 (fun H locs hP hS => ?_)
                  have hP : va_P D vwCl (mw b k (nset (nset (nset (nset I 1 p) 2 (sEd (G 9) (I 0) p - p)) 3 (sKd (G 9) (I 0) p)) 4 (sVl (G 9) (I 0) p)) J G) H := hP
                  have hD := mw_D (I' := nset (nset (nset (nset I 1 p) 2 (sEd (G 9) (I 0) p - p)) 3 (sKd (G 9) (I 0) p)) 4 (sVl (G 9) (I 0) p)) (J' := J) (G' := G) hD
                  subst hp
                  exact wr_vret hz hr hlk dX6_look_302 hS (()) hP (trivial)
            have lp_218 : ∀ (fu : Nat) (q : Nat), (q ≤ 2) → (q ≤ sEd (G 9) (I 0) p - p) → (0 < q → kTok (G 9 p) = 2) → 2 - q < fu → ∀ ls : Array Slot, ∀ (H : Heap) (locs : List Loc), va_P D vwCl (mw b k (nset (nset (nset (nset I 1 p) 2 (sEd (G 9) (I 0) p - p)) 3 (kTok (G 9 p))) 4 (sVp (G 9) p q)) J G) H → va_S (wA (mw b k I J G)) s_.heap H locs → lv_has ls 5 [(0, .ref (b 0)), (1, .int (nI fr)), (4, .int (nI q))] → W p_ l_ e_ ({ frames := 2, cells := 0, slots := 0, locals := 45 }) s_ m_ [.ref (b 0), .int (nI fr)].toArray bl_ me_ c_ H locs 0 0 (MQ bl_ (va_Qv (fun (u : Unit) => True) (fun (u : Unit) (t_ : State) => va_P D vwCl ((fun (_ : Unit) => mw b k (nset (nset (nset (nset I 1 (sAt (G 9) (I 0) fr)) 2 (sEd (G 9) (I 0) (sAt (G 9) (I 0) fr) - (sAt (G 9) (I 0) fr))) 3 (sKd (G 9) (I 0) (sAt (G 9) (I 0) fr))) 4 (sVl (G 9) (I 0) (sAt (G 9) (I 0) fr))) J G) u) t_.heap) (wA (mw b k I J G))) [.ref (b 0), .int (nI fr)].toArray s_ 0 0 (wA (mw b k I J G))) (F0 m_ 218 ls []) := by
              intro fu
              induction fu with
              | zero => intro q hq1 hq2 hq3 hm; exact absurd hm (Nat.not_lt_zero _)
              | succ fu ih218 =>
                intro q hq1 hq2 hq3 hm ls H locs hP hS hl
                have hD := mw_D (I' := nset (nset (nset (nset I 1 p) 2 (sEd (G 9) (I 0) p - p)) 3 (kTok (G 9 p))) 4 (sVp (G 9) p q)) (J' := J) (G' := G) hD
                refine lv_iload hz.1 hz.2.1 dX6_look_218 (lv_at hl 2 rfl) ?_
                refine lv_aload_n hz.1 hz.2.1 dX6_look_220 rfl (lv_at hl 0 rfl) ?_
                refine rg hz hinX6_look hK hP 0 rfl rfl 14 (by decide) (List.mem_of_getElem? (i := 4) rfl) rfl (v := .int (nI (sEd (G 9) (I 0) p - p))) rfl dX6_look_221 ?_
                refine jge (tgt := 274) hz dX6_look_224 (by decide) (by omega) (by omega) (fun c_224 => ?_) (fun c_224 => ?_)
                · have hV : sVl (G 9) (I 0) p = sVp (G 9) p q := sVl_is hpl2 (hq3 (by omega)) (by omega)
                  have hP : va_P D vwCl (mw b k (nset (nset (nset (nset I 1 p) 2 (sEd (G 9) (I 0) p - p)) 3 (kTok (G 9 p))) 4 (sVl (G 9) (I 0) p)) J G) H := by rw [hV]; exact hP
                  exact jn_274 (())  ls _ _ hP hS (lv_sub hl [0, 1] rfl)
                · refine lv_iload hz.1 hz.2.1 dX6_look_227 (lv_at hl 2 rfl) ?_
                  refine lv_iconst (v := nI 2) hz.1 hz.2.1 dX6_look_229 (by decide) ?_
                  refine jge (tgt := 274) hz dX6_look_230 (by decide) (by omega) (by omega) (fun c_230 => ?_) (fun c_230 => ?_)
                  · have hV : sVl (G 9) (I 0) p = sVp (G 9) p q := sVl_is hpl2 (hq3 (by omega)) (by omega)
                    have hP : va_P D vwCl (mw b k (nset (nset (nset (nset I 1 p) 2 (sEd (G 9) (I 0) p - p)) 3 (kTok (G 9 p))) 4 (sVl (G 9) (I 0) p)) J G) H := by rw [hV]; exact hP
                    exact jn_274 (())  ls _ _ hP hS (lv_sub hl [0, 1] rfl)
                  · refine lv_aload_n hz.1 hz.2.1 dX6_look_233 rfl (lv_at hl 0 rfl) ?_
                    refine rg hz hinX6_look hK hP 0 rfl rfl 15 (by decide) (List.mem_of_getElem? (i := 5) rfl) rfl (v := .int (nI (kTok (G 9 p)))) rfl dX6_look_234 ?_
                    refine lv_iconst (v := nI 2) hz.1 hz.2.1 dX6_look_237 (by decide) ?_
                    refine jne (tgt := 274) hz dX6_look_238 (by decide) (by omega) (by omega) (fun c_238 => ?_) (fun c_238 => ?_)
                    · have hV : sVl (G 9) (I 0) p = sVp (G 9) p q := by rw [sVl_no hpl2 c_238, show q = 0 by rcases Nat.eq_zero_or_pos q with z | z; exact z; exact absurd (hq3 z) c_238]; rfl
                      have hP : va_P D vwCl (mw b k (nset (nset (nset (nset I 1 p) 2 (sEd (G 9) (I 0) p - p)) 3 (kTok (G 9 p))) 4 (sVl (G 9) (I 0) p)) J G) H := by rw [hV]; exact hP
                      exact jn_274 (())  ls _ _ hP hS (lv_sub hl [0, 1] rfl)
                    · have hdg := sEd_dig (T := G 9) (L := I 0) (p := p) (j := p + q) (hTk.trans c_238) (by omega) (by omega)
                      have hvp := sVp_lt (p := p) hT q hq1
                      have hdt := hT (p + q)
                      refine lv_aload_n hz.1 hz.2.1 dX6_look_241 rfl (lv_at hl 0 rfl) ?_
                      refine lv_bipush (v := nI 10) hz.1 hz.2.1 dX6_look_242 (by decide) ?_
                      refine lv_aload_n hz.1 hz.2.1 dX6_look_244 rfl (lv_at hl 0 rfl) ?_
                      refine rg hz hinX6_look hK hP 0 rfl rfl 16 (by decide) (List.mem_of_getElem? (i := 6) rfl) rfl (v := .int (nI (sVp (G 9) p q))) rfl dX6_look_245 ?_
                      refine lv_imul hz.1 hz.2.1 dX6_look_248 ?_
                      refine toe (z := nI (10 * (sVp (G 9) p q))) (pk_mul _ _) ?_
                      refine lv_aload_n hz.1 hz.2.1 dX6_look_249 rfl (lv_at hl 0 rfl) ?_
                      refine rg hz hinX6_look hK hP 0 rfl rfl 11 (by decide) (List.mem_of_getElem? (i := 3) rfl) rfl (v := .ref (b 10)) rfl dX6_look_250 ?_
                      refine lv_aload_n hz.1 hz.2.1 dX6_look_253 rfl (lv_at hl 0 rfl) ?_
                      refine rg hz hinX6_look hK hP 0 rfl rfl 13 (by decide) (List.mem_of_getElem? (i := 1) rfl) rfl (v := .int (nI p)) rfl dX6_look_254 ?_
                      refine lv_iload hz.1 hz.2.1 dX6_look_257 (lv_at hl 2 rfl) ?_
                      refine lv_iadd hz.1 hz.2.1 dX6_look_259 ?_
                      refine toe (z := nI (p + q)) (nI_add _ _) ?_
                      refine rald hz hK hP 10 0 rfl rfl (i := (p + q)) (by omega) (by decide) (v := nI (G 9 (p + q))) rfl dX6_look_260 ?_
                      refine lv_iadd hz.1 hz.2.1 dX6_look_261 ?_
                      refine toe (z := nI ((10 * (sVp (G 9) p q)) + (G 9 (p + q)))) (nI_add _ _) ?_
                      refine lv_bipush (v := nI 48) hz.1 hz.2.1 dX6_look_262 (by decide) ?_
                      refine lv_isub hz.1 hz.2.1 dX6_look_264 ?_
                      refine toe (z := nI (sVp (G 9) p (q + 1))) (pk_sub (by omega)) ?_
                      refine rput (v := .int (nI (sVp (G 9) p (q + 1)))) (ty := .int) hz hinX6_look tyX6 tyX6_ok nmX6 hK hP hD hS 0 rfl rfl 16 (by decide) (List.mem_of_getElem? (i := 6) rfl) rfl rfl (by decide +kernel) rfl rfl (Nat.le_of_ble_eq_true rfl) dX6_look_265 (fun H locs hP hS => ?_)
                      have hP : va_P D vwCl (mw b k (nset (nset (nset (nset I 1 p) 2 (sEd (G 9) (I 0) p - p)) 3 (kTok (G 9 p))) 4 (sVp (G 9) p (q + 1))) J G) H := hP
                      have hD := mw_D (I' := nset (nset (nset (nset I 1 p) 2 (sEd (G 9) (I 0) p - p)) 3 (kTok (G 9 p))) 4 (sVp (G 9) p (q + 1))) (J' := J) (G' := G) hD
                      refine lv_iinc (v := nI (q + 1)) (lv' := [(4, .int (nI (q + 1))), (0, .ref (b 0)), (1, .int (nI fr))]) hz.1 hz.2.1 dX6_look_268 hl (k := 2) rfl (nI_add _ 1) (by decide) rfl (fun ls hl => ?_)
                      refine lv_goto (tgt := 218) hz.1 hz.2.1 dX6_look_271 (by decide) ?_
                      exact ih218 (q + 1) (by omega) (by omega) (fun _ => c_238) (by omega) ls H locs hP hS (lv_sub hl [1, 2, 0] rfl)
            exact lp_218 _ 0 (by omega) (by omega) (fun q => absurd q (by omega)) (Nat.lt_succ_self _) ls _ _ hP hS (lv_sub hl [1, 2, 0] rfl)
          have lp_136 : ∀ (fu : Nat) (e : Nat) (mo : Bool), (p + 1 ≤ e) → (e ≤ I 0) → ((mo = true → kTok (G 9 p) < 3 ∧ sEd (G 9) (I 0) p = sRun (G 9) (I 0) (kTok (G 9 p)) e) ∧ (mo = false → sEd (G 9) (I 0) p = e)) → 2 * (I 0 - e) + bN mo < fu → ∀ ls : Array Slot, ∀ (H : Heap) (locs : List Loc), va_P D vwCl (mw b k (nset (nset (nset (nset I 1 p) 2 (e - p)) 3 (kTok (G 9 p))) 4 0) J G) H → va_S (wA (mw b k I J G)) s_.heap H locs → lv_has ls 5 [(0, .ref (b 0)), (1, .int (nI fr)), (2, .int (nI (G 9 p))), (3, .int (bI mo))] → W p_ l_ e_ ({ frames := 2, cells := 0, slots := 0, locals := 45 }) s_ m_ [.ref (b 0), .int (nI fr)].toArray bl_ me_ c_ H locs 0 0 (MQ bl_ (va_Qv (fun (u : Unit) => True) (fun (u : Unit) (t_ : State) => va_P D vwCl ((fun (_ : Unit) => mw b k (nset (nset (nset (nset I 1 (sAt (G 9) (I 0) fr)) 2 (sEd (G 9) (I 0) (sAt (G 9) (I 0) fr) - (sAt (G 9) (I 0) fr))) 3 (sKd (G 9) (I 0) (sAt (G 9) (I 0) fr))) 4 (sVl (G 9) (I 0) (sAt (G 9) (I 0) fr))) J G) u) t_.heap) (wA (mw b k I J G))) [.ref (b 0), .int (nI fr)].toArray s_ 0 0 (wA (mw b k I J G))) (F0 m_ 136 ls []) := by
            intro fu
            induction fu with
            | zero => intro e mo he1 he2 hmo hm; exact absurd hm (Nat.not_lt_zero _)
            | succ fu ih136 =>
              intro e mo he1 he2 hmo hm ls H locs hP hS hl
              have hD := mw_D (I' := nset (nset (nset (nset I 1 p) 2 (e - p)) 3 (kTok (G 9 p))) 4 0) (J' := J) (G' := G) hD
              refine lv_iload_n hz.1 hz.2.1 dX6_look_136 rfl (lv_at hl 3 rfl) ?_
              refine zeq (tgt := 215) hz dX6_look_137 (by decide) (fun c_137 => ?_) (fun c_137 => ?_)
              · have hE : sEd (G 9) (I 0) p = e := hmo.2 c_137
                have hP : va_P D vwCl (mw b k (nset (nset (nset (nset I 1 p) 2 (sEd (G 9) (I 0) p - p)) 3 (kTok (G 9 p))) 4 (0)) J G) H := by rw [hE]; exact hP
                exact jn_215 (())  ls _ _ hP hS (lv_sub hl [0, 1] rfl)
              · have bm : bN mo = 1 := by rw [c_137]; rfl
                have hde := hT e
                refine lv_aload_n hz.1 hz.2.1 dX6_look_140 rfl (lv_at hl 0 rfl) ?_
                refine rg hz hinX6_look hK hP 0 rfl rfl 13 (by decide) (List.mem_of_getElem? (i := 1) rfl) rfl (v := .int (nI p)) rfl dX6_look_141 ?_
                refine lv_aload_n hz.1 hz.2.1 dX6_look_144 rfl (lv_at hl 0 rfl) ?_
                refine rg hz hinX6_look hK hP 0 rfl rfl 14 (by decide) (List.mem_of_getElem? (i := 4) rfl) rfl (v := .int (nI (e - p))) rfl dX6_look_145 ?_
                refine lv_iadd hz.1 hz.2.1 dX6_look_148 ?_
                refine toe (z := nI (p + (e - p))) (nI_add _ _) ?_
                refine lv_aload_n hz.1 hz.2.1 dX6_look_149 rfl (lv_at hl 0 rfl) ?_
                refine rg hz hinX6_look hK hP 0 rfl rfl 12 (by decide) (List.mem_of_getElem? (i := 2) rfl) rfl (v := .int (nI (I 0))) rfl dX6_look_150 ?_
                refine jge (tgt := 215) hz dX6_look_153 (by decide) (by omega) (by omega) (fun c_153 => ?_) (fun c_153 => ?_)
                · have hE : sEd (G 9) (I 0) p = e := by rw [(hmo.1 c_137).2]; exact sRun_e (by omega)
                  have hP : va_P D vwCl (mw b k (nset (nset (nset (nset I 1 p) 2 (sEd (G 9) (I 0) p - p)) 3 (kTok (G 9 p))) 4 (0)) J G) H := by rw [hE]; exact hP
                  exact jn_215 (())  ls _ _ hP hS (lv_sub hl [0, 1] rfl)
                · refine lv_aload_n hz.1 hz.2.1 dX6_look_156 rfl (lv_at hl 0 rfl) ?_
                  refine rg hz hinX6_look hK hP 0 rfl rfl 11 (by decide) (List.mem_of_getElem? (i := 3) rfl) rfl (v := .ref (b 10)) rfl dX6_look_157 ?_
                  refine lv_aload_n hz.1 hz.2.1 dX6_look_160 rfl (lv_at hl 0 rfl) ?_
                  refine rg hz hinX6_look hK hP 0 rfl rfl 13 (by decide) (List.mem_of_getElem? (i := 1) rfl) rfl (v := .int (nI p)) rfl dX6_look_161 ?_
                  refine lv_aload_n hz.1 hz.2.1 dX6_look_164 rfl (lv_at hl 0 rfl) ?_
                  refine rg hz hinX6_look hK hP 0 rfl rfl 14 (by decide) (List.mem_of_getElem? (i := 4) rfl) rfl (v := .int (nI (e - p))) rfl dX6_look_165 ?_
                  refine lv_iadd hz.1 hz.2.1 dX6_look_168 ?_
                  refine toe (z := nI (p + (e - p))) (nI_add _ _) ?_
                  refine rald hz hK hP 10 0 rfl rfl (i := (p + (e - p))) (by omega) (by decide) (v := nI (G 9 (p + (e - p)))) rfl dX6_look_169 ?_
                  refine toe (z := nI (G 9 e)) (by rw [show p + (e - p) = e by omega]) ?_
                  refine lv_istore (lv' := [(4, .int (nI (G 9 e))), (0, .ref (b 0)), (1, .int (nI fr)), (2, .int (nI (G 9 p))), (3, .int (bI mo))]) hz.1 hz.2.1 dX6_look_170 hl (by decide) rfl (fun ls hl => ?_)
                  refine lv_aload_n hz.1 hz.2.1 dX6_look_172 rfl (lv_at hl 1 rfl) ?_
                  refine rg hz hinX6_look hK hP 0 rfl rfl 15 (by decide) (List.mem_of_getElem? (i := 5) rfl) rfl (v := .int (nI (kTok (G 9 p)))) rfl dX6_look_173 ?_
                  refine lv_iconst (v := nI 1) hz.1 hz.2.1 dX6_look_176 (by decide) ?_
                  refine jne (tgt := 188) hz dX6_look_177 (by decide) (by omega) (by omega) (fun c_177 => ?_) (fun c_177 => ?_)
                  · refine lv_iload hz.1 hz.2.1 dX6_look_188 (lv_at hl 0 rfl) ?_
                    refine rdS (As := [.int (nI (G 9 e))]) (rest := []) hz (c6_isFigure l_ (G 9 e) (by omega)) rfl (va_cwS 1 hz.2.2.2.2 gX6_look_X6_isFigure rfl rfl rfl (by decide +kernel) ⟨Nat.le_of_ble_eq_true rfl, Nat.le_of_ble_eq_true rfl⟩) rfl hl.1 rfl (Nat.le_of_ble_eq_true rfl) dX6_look_190 ⟨Nat.zero_le _, Nat.zero_le _⟩ ?_
                    refine lv_istore_n (lv' := [(3, .int (bI (decide (kTok (G 9 e) = 2)))), (4, .int (nI (G 9 e))), (0, .ref (b 0)), (1, .int (nI fr)), (2, .int (nI (G 9 p)))]) hz.1 hz.2.1 dX6_look_193 rfl hl (by decide) rfl (fun ls hl => ?_)
                    refine lv_aload_n hz.1 hz.2.1 dX6_look_194 rfl (lv_at hl 2 rfl) ?_
                    refine lv_dup hz.1 hz.2.1 dX6_look_195 rfl ?_
                    refine rg hz hinX6_look hK hP 0 rfl rfl 14 (by decide) (List.mem_of_getElem? (i := 4) rfl) rfl (v := .int (nI (e - p))) rfl dX6_look_196 ?_
                    refine lv_iload_n hz.1 hz.2.1 dX6_look_199 rfl (lv_at hl 0 rfl) ?_
                    refine zeq (tgt := 207) hz dX6_look_200 (by decide) (fun c_200 => ?_) (fun c_200 => ?_)
                    · refine lv_iconst (v := nI 0) hz.1 hz.2.1 dX6_look_207 (by decide) ?_
                      refine lv_iadd hz.1 hz.2.1 dX6_look_208 ?_
                      refine toe (z := nI ((e - p) + 0)) (nI_add _ _) ?_
                      refine rput (v := .int (nI ((e - p) + 0))) (ty := .int) hz hinX6_look tyX6 tyX6_ok nmX6 hK hP hD hS 0 rfl rfl 14 (by decide) (List.mem_of_getElem? (i := 4) rfl) rfl rfl (by decide +kernel) rfl rfl (Nat.le_of_ble_eq_true rfl) dX6_look_209 (fun H locs hP hS => ?_)
                      have hP : va_P D vwCl (mw b k (nset (nset (nset (nset I 1 p) 2 ((e - p) + 0)) 3 (kTok (G 9 p))) 4 0) J G) H := hP
                      have hD := mw_D (I' := nset (nset (nset (nset I 1 p) 2 ((e - p) + 0)) 3 (kTok (G 9 p))) 4 0) (J' := J) (G' := G) hD
                      refine lv_goto (tgt := 136) hz.1 hz.2.1 dX6_look_212 (by decide) ?_
                      have bx : bN (decide (kTok (G 9 e) = 2)) = 0 := by rw [c_200]; rfl
                      exact ih136 e (decide (kTok (G 9 e) = 2)) (by omega) (by omega) (⟨fun q => absurd (c_200.symm.trans q) (by decide), fun _ => by rw [(hmo.1 c_137).2]; exact sRun_e (fun q => (of_decide_eq_false c_200) (by rw [q.2, (show kTok (G 9 p) = 2 by have := kTok_in (G 9 p); have := (hmo.1 c_137).1; omega)]))⟩) (by omega) ls H locs hP hS (lv_sub hl [2, 3, 4, 0] rfl)
                    · refine lv_iconst (v := nI 1) hz.1 hz.2.1 dX6_look_203 (by decide) ?_
                      refine lv_goto (tgt := 208) hz.1 hz.2.1 dX6_look_204 (by decide) ?_
                      refine lv_iadd hz.1 hz.2.1 dX6_look_208 ?_
                      refine toe (z := nI ((e - p) + 1)) (nI_add _ _) ?_
                      refine rput (v := .int (nI ((e - p) + 1))) (ty := .int) hz hinX6_look tyX6 tyX6_ok nmX6 hK hP hD hS 0 rfl rfl 14 (by decide) (List.mem_of_getElem? (i := 4) rfl) rfl rfl (by decide +kernel) rfl rfl (Nat.le_of_ble_eq_true rfl) dX6_look_209 (fun H locs hP hS => ?_)
                      have hP : va_P D vwCl (mw b k (nset (nset (nset (nset I 1 p) 2 ((e - p) + 1)) 3 (kTok (G 9 p))) 4 0) J G) H := hP
                      have hD := mw_D (I' := nset (nset (nset (nset I 1 p) 2 ((e - p) + 1)) 3 (kTok (G 9 p))) 4 0) (J' := J) (G' := G) hD
                      refine lv_goto (tgt := 136) hz.1 hz.2.1 dX6_look_212 (by decide) ?_
                      have bx : bN (decide (kTok (G 9 e) = 2)) = 1 := by rw [c_200]; rfl
                      have hP : va_P D vwCl (mw b k (nset (nset (nset (nset I 1 p) 2 (e + 1 - p)) 3 (kTok (G 9 p))) 4 (0)) J G) H := by rw [show e + 1 - p = (e - p) + 1 by omega]; exact hP
                      exact ih136 (e + 1) (decide (kTok (G 9 e) = 2)) (by omega) (by omega) (⟨fun _ => ⟨(hmo.1 c_137).1, by rw [(hmo.1 c_137).2]; exact sRun_s (by omega) (by rw [(show kTok (G 9 p) = 2 by have := kTok_in (G 9 p); have := (hmo.1 c_137).1; omega)]; exact of_decide_eq_true c_200)⟩, fun q => absurd (c_200.symm.trans q) (by decide)⟩) (by omega) ls H locs hP hS (lv_sub hl [2, 3, 4, 0] rfl)
                  · refine lv_iload hz.1 hz.2.1 dX6_look_180 (lv_at hl 0 rfl) ?_
                    refine rdS (As := [.int (nI (G 9 e))]) (rest := []) hz (c6_isSmall l_ (G 9 e) (by omega)) rfl (va_cwS 1 hz.2.2.2.2 gX6_look_X6_isSmall rfl rfl rfl (by decide +kernel) ⟨Nat.le_of_ble_eq_true rfl, Nat.le_of_ble_eq_true rfl⟩) rfl hl.1 rfl (Nat.le_of_ble_eq_true rfl) dX6_look_182 ⟨Nat.zero_le _, Nat.zero_le _⟩ ?_
                    refine lv_goto (tgt := 193) hz.1 hz.2.1 dX6_look_185 (by decide) ?_
                    refine lv_istore_n (lv' := [(3, .int (bI (decide (kTok (G 9 e) = 1)))), (4, .int (nI (G 9 e))), (0, .ref (b 0)), (1, .int (nI fr)), (2, .int (nI (G 9 p)))]) hz.1 hz.2.1 dX6_look_193 rfl hl (by decide) rfl (fun ls hl => ?_)
                    refine lv_aload_n hz.1 hz.2.1 dX6_look_194 rfl (lv_at hl 2 rfl) ?_
                    refine lv_dup hz.1 hz.2.1 dX6_look_195 rfl ?_
                    refine rg hz hinX6_look hK hP 0 rfl rfl 14 (by decide) (List.mem_of_getElem? (i := 4) rfl) rfl (v := .int (nI (e - p))) rfl dX6_look_196 ?_
                    refine lv_iload_n hz.1 hz.2.1 dX6_look_199 rfl (lv_at hl 0 rfl) ?_
                    refine zeq (tgt := 207) hz dX6_look_200 (by decide) (fun c_200 => ?_) (fun c_200 => ?_)
                    · refine lv_iconst (v := nI 0) hz.1 hz.2.1 dX6_look_207 (by decide) ?_
                      refine lv_iadd hz.1 hz.2.1 dX6_look_208 ?_
                      refine toe (z := nI ((e - p) + 0)) (nI_add _ _) ?_
                      refine rput (v := .int (nI ((e - p) + 0))) (ty := .int) hz hinX6_look tyX6 tyX6_ok nmX6 hK hP hD hS 0 rfl rfl 14 (by decide) (List.mem_of_getElem? (i := 4) rfl) rfl rfl (by decide +kernel) rfl rfl (Nat.le_of_ble_eq_true rfl) dX6_look_209 (fun H locs hP hS => ?_)
                      have hP : va_P D vwCl (mw b k (nset (nset (nset (nset I 1 p) 2 ((e - p) + 0)) 3 (kTok (G 9 p))) 4 0) J G) H := hP
                      have hD := mw_D (I' := nset (nset (nset (nset I 1 p) 2 ((e - p) + 0)) 3 (kTok (G 9 p))) 4 0) (J' := J) (G' := G) hD
                      refine lv_goto (tgt := 136) hz.1 hz.2.1 dX6_look_212 (by decide) ?_
                      have bx : bN (decide (kTok (G 9 e) = 1)) = 0 := by rw [c_200]; rfl
                      exact ih136 e (decide (kTok (G 9 e) = 1)) (by omega) (by omega) (⟨fun q => absurd (c_200.symm.trans q) (by decide), fun _ => by rw [(hmo.1 c_137).2]; exact sRun_e (fun q => (of_decide_eq_false c_200) (by rw [q.2, c_177]))⟩) (by omega) ls H locs hP hS (lv_sub hl [2, 3, 4, 0] rfl)
                    · refine lv_iconst (v := nI 1) hz.1 hz.2.1 dX6_look_203 (by decide) ?_
                      refine lv_goto (tgt := 208) hz.1 hz.2.1 dX6_look_204 (by decide) ?_
                      refine lv_iadd hz.1 hz.2.1 dX6_look_208 ?_
                      refine toe (z := nI ((e - p) + 1)) (nI_add _ _) ?_
                      refine rput (v := .int (nI ((e - p) + 1))) (ty := .int) hz hinX6_look tyX6 tyX6_ok nmX6 hK hP hD hS 0 rfl rfl 14 (by decide) (List.mem_of_getElem? (i := 4) rfl) rfl rfl (by decide +kernel) rfl rfl (Nat.le_of_ble_eq_true rfl) dX6_look_209 (fun H locs hP hS => ?_)
                      have hP : va_P D vwCl (mw b k (nset (nset (nset (nset I 1 p) 2 ((e - p) + 1)) 3 (kTok (G 9 p))) 4 0) J G) H := hP
                      have hD := mw_D (I' := nset (nset (nset (nset I 1 p) 2 ((e - p) + 1)) 3 (kTok (G 9 p))) 4 0) (J' := J) (G' := G) hD
                      refine lv_goto (tgt := 136) hz.1 hz.2.1 dX6_look_212 (by decide) ?_
                      have bx : bN (decide (kTok (G 9 e) = 1)) = 1 := by rw [c_200]; rfl
                      have hP : va_P D vwCl (mw b k (nset (nset (nset (nset I 1 p) 2 (e + 1 - p)) 3 (kTok (G 9 p))) 4 (0)) J G) H := by rw [show e + 1 - p = (e - p) + 1 by omega]; exact hP
                      exact ih136 (e + 1) (decide (kTok (G 9 e) = 1)) (by omega) (by omega) (⟨fun _ => ⟨(hmo.1 c_137).1, by rw [(hmo.1 c_137).2]; exact sRun_s (by omega) (by rw [c_177]; exact of_decide_eq_true c_200)⟩, fun q => absurd (c_200.symm.trans q) (by decide)⟩) (by omega) ls H locs hP hS (lv_sub hl [2, 3, 4, 0] rfl)
          have hP : va_P D vwCl (mw b k (nset (nset (nset (nset I 1 p) 2 (p + 1 - p)) 3 (kTok (G 9 p))) 4 (0)) J G) H := by rw [show p + 1 - p = 1 by omega]; exact hP
          exact lp_136 _ (p + 1) (decide (kTok (G 9 p) < 3)) (by omega) (by omega) (⟨fun q => ⟨of_decide_eq_true q, by unfold sEd; rw [if_pos hpl2, if_pos (of_decide_eq_true q)]⟩, fun q => by unfold sEd; rw [if_pos hpl2, if_neg (of_decide_eq_false q)]⟩) (Nat.lt_succ_self _) ls _ _ hP hS (lv_sub hl [1, 2, 3, 0] rfl)
        refine lv_aload_n hz.1 hz.2.1 dX6_look_122 rfl (lv_at hl 0 rfl) ?_
        refine rg hz hinX6_look hK hP 0 rfl rfl 15 (by decide) (List.mem_of_getElem? (i := 5) rfl) rfl (v := .int (nI (kTok (G 9 p)))) rfl dX6_look_123 ?_
        refine lv_iconst (v := nI 3) hz.1 hz.2.1 dX6_look_126 (by decide) ?_
        refine jge (tgt := 134) hz dX6_look_127 (by decide) (by omega) (by omega) (fun c_127 => ?_) (fun c_127 => ?_)
        · refine lv_iconst (v := nI 0) hz.1 hz.2.1 dX6_look_134 (by decide) ?_
          refine toe (z := bI (decide (kTok (G 9 p) < 3))) (bI_0 (by simp [Nat.not_lt.mp c_127])) ?_
          exact jn_135 (())  ls _ _ hP hS (lv_sub hl [0, 1, 2] rfl)
        · refine lv_iconst (v := nI 1) hz.1 hz.2.1 dX6_look_130 (by decide) ?_
          refine lv_goto (tgt := 135) hz.1 hz.2.1 dX6_look_131 (by decide) ?_
          refine toe (z := bI (decide (kTok (G 9 p) < 3))) (bI_1 (by simp [c_127])) ?_
          exact jn_135 (())  ls _ _ hP hS (lv_sub hl [0, 1, 2] rfl)
      refine lv_aload_n hz.1 hz.2.1 dX6_look_80 rfl (lv_at hl 1 rfl) ?_
      refine lv_iload_n hz.1 hz.2.1 dX6_look_81 rfl (lv_at hl 0 rfl) ?_
      refine rdS (As := [.int (nI (G 9 p))]) (rest := [.ref (b 0)]) hz (c6_isSmall l_ (G 9 p) (by omega)) rfl (va_cwS 1 hz.2.2.2.2 gX6_look_X6_isSmall rfl rfl rfl (by decide +kernel) ⟨Nat.le_of_ble_eq_true rfl, Nat.le_of_ble_eq_true rfl⟩) rfl hl.1 rfl (Nat.le_of_ble_eq_true rfl) dX6_look_82 ⟨Nat.zero_le _, Nat.zero_le _⟩ ?_
      refine zeq (tgt := 92) hz dX6_look_85 (by decide) (fun c_85 => ?_) (fun c_85 => ?_)
      · refine lv_iload_n hz.1 hz.2.1 dX6_look_92 rfl (lv_at hl 0 rfl) ?_
        refine rdS (As := [.int (nI (G 9 p))]) (rest := [.ref (b 0)]) hz (c6_isFigure l_ (G 9 p) (by omega)) rfl (va_cwS 1 hz.2.2.2.2 gX6_look_X6_isFigure rfl rfl rfl (by decide +kernel) ⟨Nat.le_of_ble_eq_true rfl, Nat.le_of_ble_eq_true rfl⟩) rfl hl.1 rfl (Nat.le_of_ble_eq_true rfl) dX6_look_93 ⟨Nat.zero_le _, Nat.zero_le _⟩ ?_
        refine zeq (tgt := 103) hz dX6_look_96 (by decide) (fun c_96 => ?_) (fun c_96 => ?_)
        · refine lv_iload_n hz.1 hz.2.1 dX6_look_103 rfl (lv_at hl 0 rfl) ?_
          refine lv_bipush (v := nI 59) hz.1 hz.2.1 dX6_look_104 (by decide) ?_
          refine jne (tgt := 113) hz dX6_look_106 (by decide) (by omega) (by omega) (fun c_106 => ?_) (fun c_106 => ?_)
          · refine lv_iconst (v := nI 4) hz.1 hz.2.1 dX6_look_113 (by decide) ?_
            refine toe (z := nI (kTok (G 9 p))) (by rw [kTok_4 (of_decide_eq_false c_85) (of_decide_eq_false c_96) c_106]) ?_
            exact jn_114 (())  ls _ _ hP hS (lv_sub hl [1, 2, 0] rfl)
          · refine lv_iconst (v := nI 3) hz.1 hz.2.1 dX6_look_109 (by decide) ?_
            refine lv_goto (tgt := 114) hz.1 hz.2.1 dX6_look_110 (by decide) ?_
            refine toe (z := nI (kTok (G 9 p))) (by rw [c_106]; decide) ?_
            exact jn_114 (())  ls _ _ hP hS (lv_sub hl [1, 2, 0] rfl)
        · refine lv_iconst (v := nI 2) hz.1 hz.2.1 dX6_look_99 (by decide) ?_
          refine lv_goto (tgt := 114) hz.1 hz.2.1 dX6_look_100 (by decide) ?_
          refine toe (z := nI (kTok (G 9 p))) (by rw [of_decide_eq_true c_96]) ?_
          exact jn_114 (())  ls _ _ hP hS (lv_sub hl [1, 2, 0] rfl)
      · refine lv_iconst (v := nI 1) hz.1 hz.2.1 dX6_look_88 (by decide) ?_
        refine lv_goto (tgt := 114) hz.1 hz.2.1 dX6_look_89 (by decide) ?_
        refine toe (z := nI (kTok (G 9 p))) (by rw [of_decide_eq_true c_85]) ?_
        exact jn_114 (())  ls _ _ hP hS (lv_sub hl [1, 2, 0] rfl)
    · obtain ⟨e2, e3, e4⟩ := tk_end (T := G 9) (L := I 0) (p := p) (by omega)
      have hP : va_P D vwCl (mw b k (nset (nset (nset (nset I 1 p) 2 (sEd (G 9) (I 0) p - p)) 3 (sKd (G 9) (I 0) p)) 4 (sVl (G 9) (I 0) p)) J G) H := by rw [e2, e3, e4]; exact hP
      subst hp
      exact wr_vret hz hr hlk dX6_look_69 hS (()) hP (trivial)
  have lp_5 : ∀ (fu : Nat) (a : Nat), (a ≤ I 0) → (sAt (G 9) (I 0) a = sAt (G 9) (I 0) fr) → I 0 - a < fu → ∀ ls : Array Slot, ∀ (H : Heap) (locs : List Loc), va_P D vwCl (mw b k (nset I 1 a) J G) H → va_S (wA (mw b k I J G)) s_.heap H locs → lv_has ls 5 [(0, .ref (b 0)), (1, .int (nI fr))] → W p_ l_ e_ ({ frames := 2, cells := 0, slots := 0, locals := 45 }) s_ m_ [.ref (b 0), .int (nI fr)].toArray bl_ me_ c_ H locs 0 0 (MQ bl_ (va_Qv (fun (u : Unit) => True) (fun (u : Unit) (t_ : State) => va_P D vwCl ((fun (_ : Unit) => mw b k (nset (nset (nset (nset I 1 (sAt (G 9) (I 0) fr)) 2 (sEd (G 9) (I 0) (sAt (G 9) (I 0) fr) - (sAt (G 9) (I 0) fr))) 3 (sKd (G 9) (I 0) (sAt (G 9) (I 0) fr))) 4 (sVl (G 9) (I 0) (sAt (G 9) (I 0) fr))) J G) u) t_.heap) (wA (mw b k I J G))) [.ref (b 0), .int (nI fr)].toArray s_ 0 0 (wA (mw b k I J G))) (F0 m_ 5 ls []) := by
    intro fu
    induction fu with
    | zero => intro a ha hs hm; exact absurd hm (Nat.not_lt_zero _)
    | succ fu ih5 =>
      intro a ha hs hm ls H locs hP hS hl
      have hD := mw_D (I' := nset I 1 a) (J' := J) (G' := G) hD
      refine lv_aload_n hz.1 hz.2.1 dX6_look_5 rfl (lv_at hl 0 rfl) ?_
      refine rg hz hinX6_look hK hP 0 rfl rfl 13 (by decide) (List.mem_of_getElem? (i := 1) rfl) rfl (v := .int (nI a)) rfl dX6_look_6 ?_
      refine lv_aload_n hz.1 hz.2.1 dX6_look_9 rfl (lv_at hl 0 rfl) ?_
      refine rg hz hinX6_look hK hP 0 rfl rfl 12 (by decide) (List.mem_of_getElem? (i := 2) rfl) rfl (v := .int (nI (I 0))) rfl dX6_look_10 ?_
      refine jge (tgt := 43) hz dX6_look_13 (by decide) (by omega) (by omega) (fun c_13 => ?_) (fun c_13 => ?_)
      · exact jn_43 a (by rw [← hs]; exact (sAt_e (fun q => c_13 q.1)).symm) (ha) ls _ _ hP hS (lv_sub hl [0, 1] rfl)
      · have hTa := hT a
        refine lv_aload_n hz.1 hz.2.1 dX6_look_16 rfl (lv_at hl 0 rfl) ?_
        refine rg hz hinX6_look hK hP 0 rfl rfl 11 (by decide) (List.mem_of_getElem? (i := 3) rfl) rfl (v := .ref (b 10)) rfl dX6_look_17 ?_
        refine lv_aload_n hz.1 hz.2.1 dX6_look_20 rfl (lv_at hl 0 rfl) ?_
        refine rg hz hinX6_look hK hP 0 rfl rfl 13 (by decide) (List.mem_of_getElem? (i := 1) rfl) rfl (v := .int (nI a)) rfl dX6_look_21 ?_
        refine rald hz hK hP 10 0 rfl rfl (i := a) (by omega) (by decide) (v := nI (G 9 a)) rfl dX6_look_24 ?_
        refine lv_bipush (v := nI 32) hz.1 hz.2.1 dX6_look_25 (by decide) ?_
        refine jne (tgt := 43) hz dX6_look_27 (by decide) (by omega) (by omega) (fun c_27 => ?_) (fun c_27 => ?_)
        · exact jn_43 a (by rw [← hs]; exact (sAt_e (fun q => c_27 q.2)).symm) (ha) ls _ _ hP hS (lv_sub hl [0, 1] rfl)
        · refine lv_aload_n hz.1 hz.2.1 dX6_look_30 rfl (lv_at hl 0 rfl) ?_
          refine lv_dup hz.1 hz.2.1 dX6_look_31 rfl ?_
          refine rg hz hinX6_look hK hP 0 rfl rfl 13 (by decide) (List.mem_of_getElem? (i := 1) rfl) rfl (v := .int (nI a)) rfl dX6_look_32 ?_
          refine lv_iconst (v := nI 1) hz.1 hz.2.1 dX6_look_35 (by decide) ?_
          refine lv_iadd hz.1 hz.2.1 dX6_look_36 ?_
          refine toe (z := nI (a + 1)) (nI_add _ _) ?_
          refine rput (v := .int (nI (a + 1))) (ty := .int) hz hinX6_look tyX6 tyX6_ok nmX6 hK hP hD hS 0 rfl rfl 13 (by decide) (List.mem_of_getElem? (i := 1) rfl) rfl rfl (by decide +kernel) rfl rfl (Nat.le_of_ble_eq_true rfl) dX6_look_37 (fun H locs hP hS => ?_)
          have hP : va_P D vwCl (mw b k (nset I 1 (a + 1)) J G) H := hP
          have hD := mw_D (I' := nset I 1 (a + 1)) (J' := J) (G' := G) hD
          refine lv_goto (tgt := 5) hz.1 hz.2.1 dX6_look_40 (by decide) ?_
          exact ih5 (a + 1) (by omega) (by rw [← hs]; exact (sAt_s c_13 c_27).symm) (by omega) ls H locs hP hS (lv_sub hl [0, 1] rfl)
  exact lp_5 _ fr (hfr) (rfl) (Nat.lt_succ_self _) ls _ _ hP hS (lv_sub hl [0, 1] rfl)

theorem hinX6_goOn : ∀ w ∈ wsX60, w ∈ wsX6_goOn := fun _ h => List.mem_cons_of_mem _ (List.mem_append_right _ h)
set_option maxHeartbeats 4000000 in
set_option maxRecDepth 100000 in
theorem c6_goOn (l_ : Launch) (D : va_G) (k : Nat → ClassId) (b I J : Nat → Nat) (G : Nat → Nat → Nat) (p : Nat) (hL : I 0 ≤ 200) (hp : p ≤ I 0) (hT : ∀ j, G 9 j < 256) : Met l_ yX6_goOn wsX6_goOn ({ frames := 3, cells := 0, slots := 0, locals := 69 }) (va_Pc [.ref (b 0)] (wH YT D k (mw b k (nset (nset (nset (nset I 1 p) 2 (sEd (G 9) (I 0) p - p)) 3 (sKd (G 9) (I 0) p)) 4 (sVl (G 9) (I 0) p)) J G))) (va_Qv (fun (u : Unit) => True) (fun (u : Unit) (t_ : State) => va_P D vwCl ((fun (_ : Unit) => mw b k (nset (nset (nset (nset I 1 (sNx (G 9) (I 0) p)) 2 (sEd (G 9) (I 0) (sNx (G 9) (I 0) p) - (sNx (G 9) (I 0) p))) 3 (sKd (G 9) (I 0) (sNx (G 9) (I 0) p))) 4 (sVl (G 9) (I 0) (sNx (G 9) (I 0) p))) J G) u) t_.heap) (wA (mw b k (nset (nset (nset (nset I 1 p) 2 (sEd (G 9) (I 0) p - p)) 3 (sKd (G 9) (I 0) p)) 4 (sVl (G 9) (I 0) p)) J G))) 0 0 (wA (mw b k (nset (nset (nset (nset I 1 p) 2 (sEd (G 9) (I 0) p - p)) 3 (sKd (G 9) (I 0) p)) 4 (sVl (G 9) (I 0) p)) J G)) := by
  refine my_entry (cc := cX6_goOn) (maxL := 1) (ret := none) (by decide) rfl (Nat.le_of_ble_eq_true rfl) ?_
  intro p_ e_ s_ m_ bl_ me_ c_ hz hr hlk hB ls hl
  obtain ⟨hP, hK, hD0, -⟩ := hB
  have hD := wA.self hD0
  have hS : va_S (wA (mw b k (nset (nset (nset (nset I 1 p) 2 (sEd (G 9) (I 0) p - p)) 3 (sKd (G 9) (I 0) p)) 4 (sVl (G 9) (I 0) p)) J G)) s_.heap s_.heap [] := va_S.rf
  have hl : lv_has ls 1 [(0, .ref (b 0))] := hl
  have hE := sEd_le (T := G 9) hp
  refine lv_aload_n hz.1 hz.2.1 dX6_goOn_0 rfl (lv_at hl 0 rfl) ?_
  refine lv_aload_n hz.1 hz.2.1 dX6_goOn_1 rfl (lv_at hl 0 rfl) ?_
  refine rg hz hinX6_goOn hK hP 0 rfl rfl 13 (by decide) (List.mem_of_getElem? (i := 1) rfl) rfl (v := .int (nI p)) rfl dX6_goOn_2 ?_
  refine lv_aload_n hz.1 hz.2.1 dX6_goOn_5 rfl (lv_at hl 0 rfl) ?_
  refine rg hz hinX6_goOn hK hP 0 rfl rfl 14 (by decide) (List.mem_of_getElem? (i := 2) rfl) rfl (v := .int (nI (sEd (G 9) (I 0) p - p))) rfl dX6_goOn_6 ?_
  refine lv_iadd hz.1 hz.2.1 dX6_goOn_9 ?_
  refine toe (z := nI (sEd (G 9) (I 0) p)) (by rw [nI_add, show p + (sEd (G 9) (I 0) p - p) = sEd (G 9) (I 0) p by omega]) ?_
  refine wrVv (A := wA (mw b k (nset (nset (nset (nset I 1 p) 2 (sEd (G 9) (I 0) p - p)) 3 (sKd (G 9) (I 0) p)) 4 (sVl (G 9) (I 0) p)) J G)) (As := [.int (nI (sEd (G 9) (I 0) p))]) (rest := []) hz okYT (c6_look l_ D k b (nset (nset (nset (nset I 1 p) 2 (sEd (G 9) (I 0) p - p)) 3 (sKd (G 9) (I 0) p)) 4 (sVl (G 9) (I 0) p)) J G (sEd (G 9) (I 0) p) hL hE.2 hT) (cwV 1 hz.2.2.2.2 gX6_goOn_X6_look rfl rfl rfl (by decide +kernel) ⟨Nat.le_of_ble_eq_true rfl, Nat.le_of_ble_eq_true rfl⟩) hK trivial hP hD hS 0 6 rfl rfl rfl rfl hl.1 rfl (Nat.le_of_ble_eq_true rfl) dX6_goOn_10 ⟨Nat.zero_le _, Nat.zero_le _⟩ (fun u H locs hp hP hS _ => ?_)
  have hP : va_P D vwCl (mw b k (nset (nset (nset (nset I 1 (sAt (G 9) (I 0) (sEd (G 9) (I 0) p))) 2 (sEd (G 9) (I 0) (sAt (G 9) (I 0) (sEd (G 9) (I 0) p)) - (sAt (G 9) (I 0) (sEd (G 9) (I 0) p)))) 3 (sKd (G 9) (I 0) (sAt (G 9) (I 0) (sEd (G 9) (I 0) p)))) 4 (sVl (G 9) (I 0) (sAt (G 9) (I 0) (sEd (G 9) (I 0) p)))) J G) H := hP
  have hD := mw_D (I' := nset (nset (nset (nset I 1 (sAt (G 9) (I 0) (sEd (G 9) (I 0) p))) 2 (sEd (G 9) (I 0) (sAt (G 9) (I 0) (sEd (G 9) (I 0) p)) - (sAt (G 9) (I 0) (sEd (G 9) (I 0) p)))) 3 (sKd (G 9) (I 0) (sAt (G 9) (I 0) (sEd (G 9) (I 0) p)))) 4 (sVl (G 9) (I 0) (sAt (G 9) (I 0) (sEd (G 9) (I 0) p)))) (J' := J) (G' := G) hD
  exact wr_vret hz hr hlk dX6_goOn_13 hS (()) hP (trivial)
