theorem hinX6_bad : ∀ w ∈ wsX60, w ∈ wsX6_bad := fun _ h => List.mem_cons_of_mem _ (List.mem_append_right _ h)
set_option maxHeartbeats 4000000 in
set_option maxRecDepth 100000 in
theorem c6_bad (l_ : Launch) (D : va_G) (k : Nat → ClassId) (b I J : Nat → Nat) (G : Nat → Nat → Nat) (x : Int32)  : Met l_ yX6_bad wsX6_bad ({ frames := 0, cells := 0, slots := 0, locals := 0 }) (va_Pc [.ref (b 0), .int x] (wH YT D k (mw b k I J G))) (va_Qi (fun (r : Int32) (u : Unit) => r = x) (fun (u : Unit) (t_ : State) => va_P D vwCl ((fun (_ : Unit) => mw b k I J (gset G 3 (sRef (G 3) 0))) u) t_.heap) (wA (mw b k I J G))) 0 0 (wA (mw b k I J G)) := by
  refine my_entry (cc := cX6_bad) (maxL := 2) (ret := some .int) (by decide) rfl (Nat.le_of_ble_eq_true rfl) ?_
  intro p_ e_ s_ m_ bl_ me_ c_ hz hr hlk hB ls hl
  obtain ⟨hP, hK, hD0, -⟩ := hB
  have hD := wA.self hD0
  have hS : va_S (wA (mw b k I J G)) s_.heap s_.heap [] := va_S.rf
  have hl : lv_has ls 2 [(0, .ref (b 0)), (1, .int x)] := hl
  refine lv_aload_n hz.1 hz.2.1 dX6_bad_0 rfl (lv_at hl 0 rfl) ?_
  refine rg hz hinX6_bad hK hP 0 rfl rfl 3 (by decide) (List.mem_of_getElem? (i := 1) rfl) rfl (v := .ref (b 4)) rfl dX6_bad_1 ?_
  refine lv_iconst (v := nI 0) hz.1 hz.2.1 dX6_bad_4 (by decide) ?_
  refine lv_dup2_11 hz.1 hz.2.1 dX6_bad_5 rfl rfl ?_
  refine rald hz hK hP 4 0 rfl rfl (i := 0) (by omega) (by decide) (v := nI (G 3 0)) rfl dX6_bad_6 ?_
  refine lv_iconst (v := nI 1) hz.1 hz.2.1 dX6_bad_7 (by decide) ?_
  refine lv_iadd hz.1 hz.2.1 dX6_bad_8 ?_
  refine toe (z := nI ((G 3 0) + 1)) (nI_add _ _) ?_
  refine rast hz hK hP hD hS 4 0 rfl rfl (i := 0) (v := ((G 3 0) + 1)) (by omega) (by decide) dX6_bad_9 (fun H locs hP hS => ?_)
  have hP : va_P D vwCl (mw b k I J (gset G 3 (nset (G 3) 0 ((G 3 0) + 1)))) H := hP
  have hD := mw_D (I' := I) (J' := J) (G' := gset G 3 (nset (G 3) 0 ((G 3 0) + 1))) hD
  refine lv_iload_n hz.1 hz.2.1 dX6_bad_10 rfl (lv_at hl 1 rfl) ?_
  exact wr_iret hz hr hlk dX6_bad_11 hS (()) hP (rfl)

theorem hinX6_no : ∀ w ∈ wsX60, w ∈ wsX6_no := fun _ h => List.mem_cons_of_mem _ (List.mem_append_right _ h)
set_option maxHeartbeats 4000000 in
set_option maxRecDepth 100000 in
theorem c6_no (l_ : Launch) (D : va_G) (k : Nat → ClassId) (b I J : Nat → Nat) (G : Nat → Nat → Nat)   : Met l_ yX6_no wsX6_no ({ frames := 0, cells := 0, slots := 0, locals := 0 }) (va_Pc [.ref (b 0)] (wH YT D k (mw b k I J G))) (va_Qi (fun (r : Int32) (u : Unit) => r = -3) (fun (u : Unit) (t_ : State) => va_P D vwCl ((fun (_ : Unit) => mw b k I J (gset G 3 (sRef (G 3) 1))) u) t_.heap) (wA (mw b k I J G))) 0 0 (wA (mw b k I J G)) := by
  refine my_entry (cc := cX6_no) (maxL := 1) (ret := some .int) (by decide) rfl (Nat.le_of_ble_eq_true rfl) ?_
  intro p_ e_ s_ m_ bl_ me_ c_ hz hr hlk hB ls hl
  obtain ⟨hP, hK, hD0, -⟩ := hB
  have hD := wA.self hD0
  have hS : va_S (wA (mw b k I J G)) s_.heap s_.heap [] := va_S.rf
  have hl : lv_has ls 1 [(0, .ref (b 0))] := hl
  refine lv_aload_n hz.1 hz.2.1 dX6_no_0 rfl (lv_at hl 0 rfl) ?_
  refine rg hz hinX6_no hK hP 0 rfl rfl 3 (by decide) (List.mem_of_getElem? (i := 1) rfl) rfl (v := .ref (b 4)) rfl dX6_no_1 ?_
  refine lv_iconst (v := nI 1) hz.1 hz.2.1 dX6_no_4 (by decide) ?_
  refine lv_dup2_11 hz.1 hz.2.1 dX6_no_5 rfl rfl ?_
  refine rald hz hK hP 4 0 rfl rfl (i := 1) (by omega) (by decide) (v := nI (G 3 1)) rfl dX6_no_6 ?_
  refine lv_iconst (v := nI 1) hz.1 hz.2.1 dX6_no_7 (by decide) ?_
  refine lv_iadd hz.1 hz.2.1 dX6_no_8 ?_
  refine toe (z := nI ((G 3 1) + 1)) (nI_add _ _) ?_
  refine rast hz hK hP hD hS 4 0 rfl rfl (i := 1) (v := ((G 3 1) + 1)) (by omega) (by decide) dX6_no_9 (fun H locs hP hS => ?_)
  have hP : va_P D vwCl (mw b k I J (gset G 3 (nset (G 3) 1 ((G 3 1) + 1)))) H := hP
  have hD := mw_D (I' := I) (J' := J) (G' := gset G 3 (nset (G 3) 1 ((G 3 1) + 1))) hD
  refine lv_bipush (v := (-3)) hz.1 hz.2.1 dX6_no_10 (by decide) ?_
  exact wr_iret hz hr hlk dX6_no_12 hS (()) hP (rfl)

theorem hinX6_full : ∀ w ∈ wsX60, w ∈ wsX6_full := fun _ h => List.mem_cons_of_mem _ (List.mem_append_right _ h)
set_option maxHeartbeats 4000000 in
set_option maxRecDepth 100000 in
theorem c6_full (l_ : Launch) (D : va_G) (k : Nat → ClassId) (b I J : Nat → Nat) (G : Nat → Nat → Nat)   : Met l_ yX6_full wsX6_full ({ frames := 0, cells := 0, slots := 0, locals := 0 }) (va_Pc [.ref (b 0)] (wH YT D k (mw b k I J G))) (va_Qi (fun (r : Int32) (u : Unit) => r = -4) (fun (u : Unit) (t_ : State) => va_P D vwCl ((fun (_ : Unit) => mw b k I J (gset G 3 (sRef (G 3) 2))) u) t_.heap) (wA (mw b k I J G))) 0 0 (wA (mw b k I J G)) := by
  refine my_entry (cc := cX6_full) (maxL := 1) (ret := some .int) (by decide) rfl (Nat.le_of_ble_eq_true rfl) ?_
  intro p_ e_ s_ m_ bl_ me_ c_ hz hr hlk hB ls hl
  obtain ⟨hP, hK, hD0, -⟩ := hB
  have hD := wA.self hD0
  have hS : va_S (wA (mw b k I J G)) s_.heap s_.heap [] := va_S.rf
  have hl : lv_has ls 1 [(0, .ref (b 0))] := hl
  refine lv_aload_n hz.1 hz.2.1 dX6_full_0 rfl (lv_at hl 0 rfl) ?_
  refine rg hz hinX6_full hK hP 0 rfl rfl 3 (by decide) (List.mem_of_getElem? (i := 1) rfl) rfl (v := .ref (b 4)) rfl dX6_full_1 ?_
  refine lv_iconst (v := nI 2) hz.1 hz.2.1 dX6_full_4 (by decide) ?_
  refine lv_dup2_11 hz.1 hz.2.1 dX6_full_5 rfl rfl ?_
  refine rald hz hK hP 4 0 rfl rfl (i := 2) (by omega) (by decide) (v := nI (G 3 2)) rfl dX6_full_6 ?_
  refine lv_iconst (v := nI 1) hz.1 hz.2.1 dX6_full_7 (by decide) ?_
  refine lv_iadd hz.1 hz.2.1 dX6_full_8 ?_
  refine toe (z := nI ((G 3 2) + 1)) (nI_add _ _) ?_
  refine rast hz hK hP hD hS 4 0 rfl rfl (i := 2) (v := ((G 3 2) + 1)) (by omega) (by decide) dX6_full_9 (fun H locs hP hS => ?_)
  have hP : va_P D vwCl (mw b k I J (gset G 3 (nset (G 3) 2 ((G 3 2) + 1)))) H := hP
  have hD := mw_D (I' := I) (J' := J) (G' := gset G 3 (nset (G 3) 2 ((G 3 2) + 1))) hD
  refine lv_bipush (v := (-4)) hz.1 hz.2.1 dX6_full_10 (by decide) ?_
  exact wr_iret hz hr hlk dX6_full_12 hS (()) hP (rfl)

set_option maxHeartbeats 4000000 in
set_option maxRecDepth 100000 in
theorem c6_begin_now (l_ : Launch) (D : va_G) (k : Nat → ClassId) (b I J : Nat → Nat) (G : Nat → Nat → Nat) (n : Nat)  : Met l_ yX6_begin wsX6_begin ({ frames := 0, cells := 0, slots := 0, locals := 0 }) (va_Pc [.ref (b 1), .int (nI n)] (wH YT D k (mw b k I J G))) (va_Qv (fun (u : Unit) => True) (fun (u : Unit) (t_ : State) => va_P D vwCl ((fun (_ : Unit) => mw b k I J (gset G 0 (sBegin (G 0) n))) u) t_.heap) (wA (mw b k I J G))) 0 0 (wA (mw b k I J G)) := by
  refine my_entry (cc := cX6_begin) (maxL := 3) (ret := none) (by decide) rfl (Nat.le_of_ble_eq_true rfl) ?_
  intro p_ e_ s_ m_ bl_ me_ c_ hz hr hlk hB ls hl
  obtain ⟨hP, hK, hD0, -⟩ := hB
  have hD := wA.self hD0
  have hS : va_S (wA (mw b k I J G)) s_.heap s_.heap [] := va_S.rf
  have hl : lv_has ls 3 [(0, .ref (b 1)), (1, .int (nI n))] := hl
  refine lv_iconst (v := nI 0) hz.1 hz.2.1 dX6_begin_0 (by decide) ?_
  refine lv_istore_n (lv' := [(2, .int (nI 0)), (0, .ref (b 1)), (1, .int (nI n))]) hz.1 hz.2.1 dX6_begin_1 rfl hl (by decide) rfl (fun ls hl => ?_)
  have lp_2 : ∀ (fu : Nat) (i : Nat), (i ≤ 57) → 57 - i < fu → ∀ ls : Array Slot, ∀ (H : Heap) (locs : List Loc), va_P D vwCl (mw b k I J (gset G 0 (zfill (G 0) i))) H → va_S (wA (mw b k I J G)) s_.heap H locs → lv_has ls 3 [(0, .ref (b 1)), (1, .int (nI n)), (2, .int (nI i))] → W p_ l_ e_ ({ frames := 0, cells := 0, slots := 0, locals := 0 }) s_ m_ [.ref (b 1), .int (nI n)].toArray bl_ me_ c_ H locs 0 0 (MQ bl_ (va_Qv (fun (u : Unit) => True) (fun (u : Unit) (t_ : State) => va_P D vwCl ((fun (_ : Unit) => mw b k I J (gset G 0 (sBegin (G 0) n))) u) t_.heap) (wA (mw b k I J G))) [.ref (b 1), .int (nI n)].toArray s_ 0 0 (wA (mw b k I J G))) (F0 m_ 2 ls []) := by
    intro fu
    induction fu with
    | zero => intro i hi hm; exact absurd hm (Nat.not_lt_zero _)
    | succ fu ih2 =>
      intro i hi hm ls H locs hP hS hl
      have hD := mw_D (I' := I) (J' := J) (G' := gset G 0 (zfill (G 0) i)) hD
      refine lv_iload_n hz.1 hz.2.1 dX6_begin_2 rfl (lv_at hl 2 rfl) ?_
      refine lv_bipush (v := nI 57) hz.1 hz.2.1 dX6_begin_3 (by decide) ?_
      refine jge (tgt := 18) hz dX6_begin_5 (by decide) (by omega) (by omega) (fun c_5 => ?_) (fun c_5 => ?_)
      · obtain rfl : i = 57 := by omega
        refine lv_aload_n hz.1 hz.2.1 dX6_begin_18 rfl (lv_at hl 0 rfl) ?_
        refine lv_iconst (v := nI 0) hz.1 hz.2.1 dX6_begin_19 (by decide) ?_
        refine lv_iload_n hz.1 hz.2.1 dX6_begin_20 rfl (lv_at hl 1 rfl) ?_
        refine rast hz hK hP hD hS 1 0 rfl rfl (i := 0) (v := n) (by omega) (by decide) dX6_begin_21 (fun H locs hP hS => ?_)
        have hP : va_P D vwCl (mw b k I J (gset G 0 (nset (zfill (G 0) 57) 0 n))) H := hP
        have hD := mw_D (I' := I) (J' := J) (G' := gset G 0 (nset (zfill (G 0) 57) 0 n)) hD
        exact wr_vret hz hr hlk dX6_begin_22 hS (()) hP (trivial)
      · refine lv_aload_n hz.1 hz.2.1 dX6_begin_8 rfl (lv_at hl 0 rfl) ?_
        refine lv_iload_n hz.1 hz.2.1 dX6_begin_9 rfl (lv_at hl 2 rfl) ?_
        refine lv_iconst (v := nI 0) hz.1 hz.2.1 dX6_begin_10 (by decide) ?_
        refine rast hz hK hP hD hS 1 0 rfl rfl (i := i) (v := 0) (by omega) (by decide) dX6_begin_11 (fun H locs hP hS => ?_)
        have hP : va_P D vwCl (mw b k I J (gset G 0 (nset (zfill (G 0) i) i 0))) H := hP
        have hD := mw_D (I' := I) (J' := J) (G' := gset G 0 (nset (zfill (G 0) i) i 0)) hD
        have hP : va_P D vwCl (mw b k I J (gset G 0 (zfill (G 0) (i + 1)))) H := by rw [← zfill_s]; exact hP
        have hD := mw_D (I' := I) (J' := J) (G' := gset G 0 (zfill (G 0) (i + 1))) hD
        refine lv_iinc (v := nI (i + 1)) (lv' := [(2, .int (nI (i + 1))), (0, .ref (b 1)), (1, .int (nI n))]) hz.1 hz.2.1 dX6_begin_12 hl (k := 2) rfl (nI_add _ 1) (by decide) rfl (fun ls hl => ?_)
        refine lv_goto (tgt := 2) hz.1 hz.2.1 dX6_begin_15 (by decide) ?_
        exact ih2 (i + 1) (by omega) (by omega) ls H locs hP hS (lv_sub hl [1, 2, 0] rfl)
  have hP : va_P D vwCl (mw b k I J (gset G 0 (zfill (G 0) 0))) s_.heap := by rw [zfill_0]; exact hP
  exact lp_2 _ 0 (by omega) (Nat.lt_succ_self _) ls _ _ hP hS (lv_sub hl [1, 2, 0] rfl)

set_option maxHeartbeats 4000000 in
set_option maxRecDepth 100000 in
theorem c6_layWind_now (l_ : Launch) (D : va_G) (k : Nat → ClassId) (b I J : Nat → Nat) (G : Nat → Nat → Nat) (mn w : Nat) (h : G 0 19 < 6) : Met l_ yX6_layWind wsX6_layWind ({ frames := 0, cells := 0, slots := 0, locals := 0 }) (va_Pc [.ref (b 1), .int (nI mn), .int (nI w)] (wH YT D k (mw b k I J G))) (va_Qv (fun (u : Unit) => True) (fun (u : Unit) (t_ : State) => va_P D vwCl ((fun (_ : Unit) => mw b k I J (gset G 0 (sAddWind (G 0) mn w))) u) t_.heap) (wA (mw b k I J G))) 0 0 (wA (mw b k I J G)) := by
  refine my_entry (cc := cX6_layWind) (maxL := 4) (ret := none) (by decide) rfl (Nat.le_of_ble_eq_true rfl) ?_
  intro p_ e_ s_ m_ bl_ me_ c_ hz hr hlk hB ls hl
  obtain ⟨hP, hK, hD0, -⟩ := hB
  have hD := wA.self hD0
  have hS : va_S (wA (mw b k I J G)) s_.heap s_.heap [] := va_S.rf
  have hl : lv_has ls 4 [(0, .ref (b 1)), (1, .int (nI mn)), (2, .int (nI w))] := hl
  refine lv_bipush (v := nI 20) hz.1 hz.2.1 dX6_layWind_0 (by decide) ?_
  refine lv_iconst (v := nI 2) hz.1 hz.2.1 dX6_layWind_2 (by decide) ?_
  refine lv_aload_n hz.1 hz.2.1 dX6_layWind_3 rfl (lv_at hl 0 rfl) ?_
  refine lv_bipush (v := nI 19) hz.1 hz.2.1 dX6_layWind_4 (by decide) ?_
  refine rald hz hK hP 1 0 rfl rfl (i := 19) (by omega) (by decide) (v := nI (G 0 19)) rfl dX6_layWind_6 ?_
  refine lv_imul hz.1 hz.2.1 dX6_layWind_7 ?_
  refine toe (z := nI (2 * (G 0 19))) (pk_mul _ _) ?_
  refine lv_iadd hz.1 hz.2.1 dX6_layWind_8 ?_
  refine toe (z := nI (20 + (2 * (G 0 19)))) (nI_add _ _) ?_
  refine lv_istore_n (lv' := [(3, .int (nI (20 + (2 * (G 0 19))))), (0, .ref (b 1)), (1, .int (nI mn)), (2, .int (nI w))]) hz.1 hz.2.1 dX6_layWind_9 rfl hl (by decide) rfl (fun ls hl => ?_)
  refine lv_aload_n hz.1 hz.2.1 dX6_layWind_10 rfl (lv_at hl 1 rfl) ?_
  refine lv_iload_n hz.1 hz.2.1 dX6_layWind_11 rfl (lv_at hl 0 rfl) ?_
  refine lv_iload_n hz.1 hz.2.1 dX6_layWind_12 rfl (lv_at hl 2 rfl) ?_
  refine rast hz hK hP hD hS 1 0 rfl rfl (i := (20 + (2 * (G 0 19)))) (v := mn) (by omega) (by decide) dX6_layWind_13 (fun H locs hP hS => ?_)
  have hP : va_P D vwCl (mw b k I J (gset G 0 (nset (G 0) (20 + (2 * (G 0 19))) mn))) H := hP
  have hD := mw_D (I' := I) (J' := J) (G' := gset G 0 (nset (G 0) (20 + (2 * (G 0 19))) mn)) hD
  refine lv_aload_n hz.1 hz.2.1 dX6_layWind_14 rfl (lv_at hl 1 rfl) ?_
  refine lv_iload_n hz.1 hz.2.1 dX6_layWind_15 rfl (lv_at hl 0 rfl) ?_
  refine lv_iconst (v := nI 1) hz.1 hz.2.1 dX6_layWind_16 (by decide) ?_
  refine lv_iadd hz.1 hz.2.1 dX6_layWind_17 ?_
  refine toe (z := nI ((20 + (2 * (G 0 19))) + 1)) (nI_add _ _) ?_
  refine lv_iload_n hz.1 hz.2.1 dX6_layWind_18 rfl (lv_at hl 3 rfl) ?_
  refine rast hz hK hP hD hS 1 0 rfl rfl (i := ((20 + (2 * (G 0 19))) + 1)) (v := w) (by omega) (by decide) dX6_layWind_19 (fun H locs hP hS => ?_)
  have hP : va_P D vwCl (mw b k I J (gset G 0 (nset (nset (G 0) (20 + (2 * (G 0 19))) mn) ((20 + (2 * (G 0 19))) + 1) w))) H := hP
  have hD := mw_D (I' := I) (J' := J) (G' := gset G 0 (nset (nset (G 0) (20 + (2 * (G 0 19))) mn) ((20 + (2 * (G 0 19))) + 1) w)) hD
  refine lv_aload_n hz.1 hz.2.1 dX6_layWind_20 rfl (lv_at hl 1 rfl) ?_
  refine lv_bipush (v := nI 19) hz.1 hz.2.1 dX6_layWind_21 (by decide) ?_
  refine lv_dup2_11 hz.1 hz.2.1 dX6_layWind_23 rfl rfl ?_
  refine rald hz hK hP 1 0 rfl rfl (i := 19) (by omega) (by decide) (v := nI ((nset (nset (G 0) (20 + (2 * (G 0 19))) mn) ((20 + (2 * (G 0 19))) + 1) w) 19)) rfl dX6_layWind_24 ?_
  refine toe (z := nI (G 0 19)) (by rw [nset_ne _ _ (by omega), nset_ne _ _ (by omega)]) ?_
  refine lv_iconst (v := nI 1) hz.1 hz.2.1 dX6_layWind_25 (by decide) ?_
  refine lv_iadd hz.1 hz.2.1 dX6_layWind_26 ?_
  refine toe (z := nI ((G 0 19) + 1)) (nI_add _ _) ?_
  refine rast hz hK hP hD hS 1 0 rfl rfl (i := 19) (v := ((G 0 19) + 1)) (by omega) (by decide) dX6_layWind_27 (fun H locs hP hS => ?_)
  have hP : va_P D vwCl (mw b k I J (gset G 0 (nset (nset (nset (G 0) (20 + (2 * (G 0 19))) mn) ((20 + (2 * (G 0 19))) + 1) w) 19 ((G 0 19) + 1)))) H := hP
  have hD := mw_D (I' := I) (J' := J) (G' := gset G 0 (nset (nset (nset (G 0) (20 + (2 * (G 0 19))) mn) ((20 + (2 * (G 0 19))) + 1) w) 19 ((G 0 19) + 1))) hD
  exact wr_vret hz hr hlk dX6_layWind_28 hS (()) hP (trivial)

set_option maxHeartbeats 4000000 in
set_option maxRecDepth 100000 in
theorem c6_layPass_now (l_ : Launch) (D : va_G) (k : Nat → ClassId) (b I J : Nat → Nat) (G : Nat → Nat → Nat) (mn w sp : Nat) (h : G 0 32 < 8) : Met l_ yX6_layPass wsX6_layPass ({ frames := 0, cells := 0, slots := 0, locals := 0 }) (va_Pc [.ref (b 1), .int (nI mn), .int (nI w), .int (nI sp)] (wH YT D k (mw b k I J G))) (va_Qv (fun (u : Unit) => True) (fun (u : Unit) (t_ : State) => va_P D vwCl ((fun (_ : Unit) => mw b k I J (gset G 0 (sAddPass (G 0) mn w sp))) u) t_.heap) (wA (mw b k I J G))) 0 0 (wA (mw b k I J G)) := by
  refine my_entry (cc := cX6_layPass) (maxL := 5) (ret := none) (by decide) rfl (Nat.le_of_ble_eq_true rfl) ?_
  intro p_ e_ s_ m_ bl_ me_ c_ hz hr hlk hB ls hl
  obtain ⟨hP, hK, hD0, -⟩ := hB
  have hD := wA.self hD0
  have hS : va_S (wA (mw b k I J G)) s_.heap s_.heap [] := va_S.rf
  have hl : lv_has ls 5 [(0, .ref (b 1)), (1, .int (nI mn)), (2, .int (nI w)), (3, .int (nI sp))] := hl
  refine lv_bipush (v := nI 33) hz.1 hz.2.1 dX6_layPass_0 (by decide) ?_
  refine lv_iconst (v := nI 3) hz.1 hz.2.1 dX6_layPass_2 (by decide) ?_
  refine lv_aload_n hz.1 hz.2.1 dX6_layPass_3 rfl (lv_at hl 0 rfl) ?_
  refine lv_bipush (v := nI 32) hz.1 hz.2.1 dX6_layPass_4 (by decide) ?_
  refine rald hz hK hP 1 0 rfl rfl (i := 32) (by omega) (by decide) (v := nI (G 0 32)) rfl dX6_layPass_6 ?_
  refine lv_imul hz.1 hz.2.1 dX6_layPass_7 ?_
  refine toe (z := nI (3 * (G 0 32))) (pk_mul _ _) ?_
  refine lv_iadd hz.1 hz.2.1 dX6_layPass_8 ?_
  refine toe (z := nI (33 + (3 * (G 0 32)))) (nI_add _ _) ?_
  refine lv_istore (lv' := [(4, .int (nI (33 + (3 * (G 0 32))))), (0, .ref (b 1)), (1, .int (nI mn)), (2, .int (nI w)), (3, .int (nI sp))]) hz.1 hz.2.1 dX6_layPass_9 hl (by decide) rfl (fun ls hl => ?_)
  refine lv_aload_n hz.1 hz.2.1 dX6_layPass_11 rfl (lv_at hl 1 rfl) ?_
  refine lv_iload hz.1 hz.2.1 dX6_layPass_12 (lv_at hl 0 rfl) ?_
  refine lv_iload_n hz.1 hz.2.1 dX6_layPass_14 rfl (lv_at hl 2 rfl) ?_
  refine rast hz hK hP hD hS 1 0 rfl rfl (i := (33 + (3 * (G 0 32)))) (v := mn) (by omega) (by decide) dX6_layPass_15 (fun H locs hP hS => ?_)
  have hP : va_P D vwCl (mw b k I J (gset G 0 (nset (G 0) (33 + (3 * (G 0 32))) mn))) H := hP
  have hD := mw_D (I' := I) (J' := J) (G' := gset G 0 (nset (G 0) (33 + (3 * (G 0 32))) mn)) hD
  refine lv_aload_n hz.1 hz.2.1 dX6_layPass_16 rfl (lv_at hl 1 rfl) ?_
  refine lv_iload hz.1 hz.2.1 dX6_layPass_17 (lv_at hl 0 rfl) ?_
  refine lv_iconst (v := nI 1) hz.1 hz.2.1 dX6_layPass_19 (by decide) ?_
  refine lv_iadd hz.1 hz.2.1 dX6_layPass_20 ?_
  refine toe (z := nI ((33 + (3 * (G 0 32))) + 1)) (nI_add _ _) ?_
  refine lv_iload_n hz.1 hz.2.1 dX6_layPass_21 rfl (lv_at hl 3 rfl) ?_
  refine rast hz hK hP hD hS 1 0 rfl rfl (i := ((33 + (3 * (G 0 32))) + 1)) (v := w) (by omega) (by decide) dX6_layPass_22 (fun H locs hP hS => ?_)
  have hP : va_P D vwCl (mw b k I J (gset G 0 (nset (nset (G 0) (33 + (3 * (G 0 32))) mn) ((33 + (3 * (G 0 32))) + 1) w))) H := hP
  have hD := mw_D (I' := I) (J' := J) (G' := gset G 0 (nset (nset (G 0) (33 + (3 * (G 0 32))) mn) ((33 + (3 * (G 0 32))) + 1) w)) hD
  refine lv_aload_n hz.1 hz.2.1 dX6_layPass_23 rfl (lv_at hl 1 rfl) ?_
  refine lv_iload hz.1 hz.2.1 dX6_layPass_24 (lv_at hl 0 rfl) ?_
  refine lv_iconst (v := nI 2) hz.1 hz.2.1 dX6_layPass_26 (by decide) ?_
  refine lv_iadd hz.1 hz.2.1 dX6_layPass_27 ?_
  refine toe (z := nI ((33 + (3 * (G 0 32))) + 2)) (nI_add _ _) ?_
  refine lv_iload_n hz.1 hz.2.1 dX6_layPass_28 rfl (lv_at hl 4 rfl) ?_
  refine rast hz hK hP hD hS 1 0 rfl rfl (i := ((33 + (3 * (G 0 32))) + 2)) (v := sp) (by omega) (by decide) dX6_layPass_29 (fun H locs hP hS => ?_)
  have hP : va_P D vwCl (mw b k I J (gset G 0 (nset (nset (nset (G 0) (33 + (3 * (G 0 32))) mn) ((33 + (3 * (G 0 32))) + 1) w) ((33 + (3 * (G 0 32))) + 2) sp))) H := hP
  have hD := mw_D (I' := I) (J' := J) (G' := gset G 0 (nset (nset (nset (G 0) (33 + (3 * (G 0 32))) mn) ((33 + (3 * (G 0 32))) + 1) w) ((33 + (3 * (G 0 32))) + 2) sp)) hD
  refine lv_aload_n hz.1 hz.2.1 dX6_layPass_30 rfl (lv_at hl 1 rfl) ?_
  refine lv_bipush (v := nI 32) hz.1 hz.2.1 dX6_layPass_31 (by decide) ?_
  refine lv_dup2_11 hz.1 hz.2.1 dX6_layPass_33 rfl rfl ?_
  refine rald hz hK hP 1 0 rfl rfl (i := 32) (by omega) (by decide) (v := nI ((nset (nset (nset (G 0) (33 + (3 * (G 0 32))) mn) ((33 + (3 * (G 0 32))) + 1) w) ((33 + (3 * (G 0 32))) + 2) sp) 32)) rfl dX6_layPass_34 ?_
  refine toe (z := nI (G 0 32)) (by rw [nset_ne _ _ (by omega), nset_ne _ _ (by omega), nset_ne _ _ (by omega)]) ?_
  refine lv_iconst (v := nI 1) hz.1 hz.2.1 dX6_layPass_35 (by decide) ?_
  refine lv_iadd hz.1 hz.2.1 dX6_layPass_36 ?_
  refine toe (z := nI ((G 0 32) + 1)) (nI_add _ _) ?_
  refine rast hz hK hP hD hS 1 0 rfl rfl (i := 32) (v := ((G 0 32) + 1)) (by omega) (by decide) dX6_layPass_37 (fun H locs hP hS => ?_)
  have hP : va_P D vwCl (mw b k I J (gset G 0 (nset (nset (nset (nset (G 0) (33 + (3 * (G 0 32))) mn) ((33 + (3 * (G 0 32))) + 1) w) ((33 + (3 * (G 0 32))) + 2) sp) 32 ((G 0 32) + 1)))) H := hP
  have hD := mw_D (I' := I) (J' := J) (G' := gset G 0 (nset (nset (nset (nset (G 0) (33 + (3 * (G 0 32))) mn) ((33 + (3 * (G 0 32))) + 1) w) ((33 + (3 * (G 0 32))) + 2) sp) 32 ((G 0 32) + 1))) hD
  exact wr_vret hz hr hlk dX6_layPass_38 hS (()) hP (trivial)

set_option maxHeartbeats 4000000 in
set_option maxRecDepth 100000 in
theorem c6_begin_next (l_ : Launch) (D : va_G) (k : Nat → ClassId) (b I J : Nat → Nat) (G : Nat → Nat → Nat) (n : Nat)  : Met l_ yX6_begin wsX6_begin ({ frames := 0, cells := 0, slots := 0, locals := 0 }) (va_Pc [.ref (b 11), .int (nI n)] (wH YT D k (mw b k I J G))) (va_Qv (fun (u : Unit) => True) (fun (u : Unit) (t_ : State) => va_P D vwCl ((fun (_ : Unit) => mw b k I J (gset G 10 (sBegin (G 10) n))) u) t_.heap) (wA (mw b k I J G))) 0 0 (wA (mw b k I J G)) := by
  refine my_entry (cc := cX6_begin) (maxL := 3) (ret := none) (by decide) rfl (Nat.le_of_ble_eq_true rfl) ?_
  intro p_ e_ s_ m_ bl_ me_ c_ hz hr hlk hB ls hl
  obtain ⟨hP, hK, hD0, -⟩ := hB
  have hD := wA.self hD0
  have hS : va_S (wA (mw b k I J G)) s_.heap s_.heap [] := va_S.rf
  have hl : lv_has ls 3 [(0, .ref (b 11)), (1, .int (nI n))] := hl
  refine lv_iconst (v := nI 0) hz.1 hz.2.1 dX6_begin_0 (by decide) ?_
  refine lv_istore_n (lv' := [(2, .int (nI 0)), (0, .ref (b 11)), (1, .int (nI n))]) hz.1 hz.2.1 dX6_begin_1 rfl hl (by decide) rfl (fun ls hl => ?_)
  have lp_2 : ∀ (fu : Nat) (i : Nat), (i ≤ 57) → 57 - i < fu → ∀ ls : Array Slot, ∀ (H : Heap) (locs : List Loc), va_P D vwCl (mw b k I J (gset G 10 (zfill (G 10) i))) H → va_S (wA (mw b k I J G)) s_.heap H locs → lv_has ls 3 [(0, .ref (b 11)), (1, .int (nI n)), (2, .int (nI i))] → W p_ l_ e_ ({ frames := 0, cells := 0, slots := 0, locals := 0 }) s_ m_ [.ref (b 11), .int (nI n)].toArray bl_ me_ c_ H locs 0 0 (MQ bl_ (va_Qv (fun (u : Unit) => True) (fun (u : Unit) (t_ : State) => va_P D vwCl ((fun (_ : Unit) => mw b k I J (gset G 10 (sBegin (G 10) n))) u) t_.heap) (wA (mw b k I J G))) [.ref (b 11), .int (nI n)].toArray s_ 0 0 (wA (mw b k I J G))) (F0 m_ 2 ls []) := by
    intro fu
    induction fu with
    | zero => intro i hi hm; exact absurd hm (Nat.not_lt_zero _)
    | succ fu ih2 =>
      intro i hi hm ls H locs hP hS hl
      have hD := mw_D (I' := I) (J' := J) (G' := gset G 10 (zfill (G 10) i)) hD
      refine lv_iload_n hz.1 hz.2.1 dX6_begin_2 rfl (lv_at hl 2 rfl) ?_
      refine lv_bipush (v := nI 57) hz.1 hz.2.1 dX6_begin_3 (by decide) ?_
      refine jge (tgt := 18) hz dX6_begin_5 (by decide) (by omega) (by omega) (fun c_5 => ?_) (fun c_5 => ?_)
      · obtain rfl : i = 57 := by omega
        refine lv_aload_n hz.1 hz.2.1 dX6_begin_18 rfl (lv_at hl 0 rfl) ?_
        refine lv_iconst (v := nI 0) hz.1 hz.2.1 dX6_begin_19 (by decide) ?_
        refine lv_iload_n hz.1 hz.2.1 dX6_begin_20 rfl (lv_at hl 1 rfl) ?_
        refine rast hz hK hP hD hS 11 0 rfl rfl (i := 0) (v := n) (by omega) (by decide) dX6_begin_21 (fun H locs hP hS => ?_)
        have hP : va_P D vwCl (mw b k I J (gset G 10 (nset (zfill (G 10) 57) 0 n))) H := hP
        have hD := mw_D (I' := I) (J' := J) (G' := gset G 10 (nset (zfill (G 10) 57) 0 n)) hD
        exact wr_vret hz hr hlk dX6_begin_22 hS (()) hP (trivial)
      · refine lv_aload_n hz.1 hz.2.1 dX6_begin_8 rfl (lv_at hl 0 rfl) ?_
        refine lv_iload_n hz.1 hz.2.1 dX6_begin_9 rfl (lv_at hl 2 rfl) ?_
        refine lv_iconst (v := nI 0) hz.1 hz.2.1 dX6_begin_10 (by decide) ?_
        refine rast hz hK hP hD hS 11 0 rfl rfl (i := i) (v := 0) (by omega) (by decide) dX6_begin_11 (fun H locs hP hS => ?_)
        have hP : va_P D vwCl (mw b k I J (gset G 10 (nset (zfill (G 10) i) i 0))) H := hP
        have hD := mw_D (I' := I) (J' := J) (G' := gset G 10 (nset (zfill (G 10) i) i 0)) hD
        have hP : va_P D vwCl (mw b k I J (gset G 10 (zfill (G 10) (i + 1)))) H := by rw [← zfill_s]; exact hP
        have hD := mw_D (I' := I) (J' := J) (G' := gset G 10 (zfill (G 10) (i + 1))) hD
        refine lv_iinc (v := nI (i + 1)) (lv' := [(2, .int (nI (i + 1))), (0, .ref (b 11)), (1, .int (nI n))]) hz.1 hz.2.1 dX6_begin_12 hl (k := 2) rfl (nI_add _ 1) (by decide) rfl (fun ls hl => ?_)
        refine lv_goto (tgt := 2) hz.1 hz.2.1 dX6_begin_15 (by decide) ?_
        exact ih2 (i + 1) (by omega) (by omega) ls H locs hP hS (lv_sub hl [1, 2, 0] rfl)
  have hP : va_P D vwCl (mw b k I J (gset G 10 (zfill (G 10) 0))) s_.heap := by rw [zfill_0]; exact hP
  exact lp_2 _ 0 (by omega) (Nat.lt_succ_self _) ls _ _ hP hS (lv_sub hl [1, 2, 0] rfl)

set_option maxHeartbeats 4000000 in
set_option maxRecDepth 100000 in
theorem c6_layWind_next (l_ : Launch) (D : va_G) (k : Nat → ClassId) (b I J : Nat → Nat) (G : Nat → Nat → Nat) (mn w : Nat) (h : G 10 19 < 6) : Met l_ yX6_layWind wsX6_layWind ({ frames := 0, cells := 0, slots := 0, locals := 0 }) (va_Pc [.ref (b 11), .int (nI mn), .int (nI w)] (wH YT D k (mw b k I J G))) (va_Qv (fun (u : Unit) => True) (fun (u : Unit) (t_ : State) => va_P D vwCl ((fun (_ : Unit) => mw b k I J (gset G 10 (sAddWind (G 10) mn w))) u) t_.heap) (wA (mw b k I J G))) 0 0 (wA (mw b k I J G)) := by
  refine my_entry (cc := cX6_layWind) (maxL := 4) (ret := none) (by decide) rfl (Nat.le_of_ble_eq_true rfl) ?_
  intro p_ e_ s_ m_ bl_ me_ c_ hz hr hlk hB ls hl
  obtain ⟨hP, hK, hD0, -⟩ := hB
  have hD := wA.self hD0
  have hS : va_S (wA (mw b k I J G)) s_.heap s_.heap [] := va_S.rf
  have hl : lv_has ls 4 [(0, .ref (b 11)), (1, .int (nI mn)), (2, .int (nI w))] := hl
  refine lv_bipush (v := nI 20) hz.1 hz.2.1 dX6_layWind_0 (by decide) ?_
  refine lv_iconst (v := nI 2) hz.1 hz.2.1 dX6_layWind_2 (by decide) ?_
  refine lv_aload_n hz.1 hz.2.1 dX6_layWind_3 rfl (lv_at hl 0 rfl) ?_
  refine lv_bipush (v := nI 19) hz.1 hz.2.1 dX6_layWind_4 (by decide) ?_
  refine rald hz hK hP 11 0 rfl rfl (i := 19) (by omega) (by decide) (v := nI (G 10 19)) rfl dX6_layWind_6 ?_
  refine lv_imul hz.1 hz.2.1 dX6_layWind_7 ?_
  refine toe (z := nI (2 * (G 10 19))) (pk_mul _ _) ?_
  refine lv_iadd hz.1 hz.2.1 dX6_layWind_8 ?_
  refine toe (z := nI (20 + (2 * (G 10 19)))) (nI_add _ _) ?_
  refine lv_istore_n (lv' := [(3, .int (nI (20 + (2 * (G 10 19))))), (0, .ref (b 11)), (1, .int (nI mn)), (2, .int (nI w))]) hz.1 hz.2.1 dX6_layWind_9 rfl hl (by decide) rfl (fun ls hl => ?_)
  refine lv_aload_n hz.1 hz.2.1 dX6_layWind_10 rfl (lv_at hl 1 rfl) ?_
  refine lv_iload_n hz.1 hz.2.1 dX6_layWind_11 rfl (lv_at hl 0 rfl) ?_
  refine lv_iload_n hz.1 hz.2.1 dX6_layWind_12 rfl (lv_at hl 2 rfl) ?_
  refine rast hz hK hP hD hS 11 0 rfl rfl (i := (20 + (2 * (G 10 19)))) (v := mn) (by omega) (by decide) dX6_layWind_13 (fun H locs hP hS => ?_)
  have hP : va_P D vwCl (mw b k I J (gset G 10 (nset (G 10) (20 + (2 * (G 10 19))) mn))) H := hP
  have hD := mw_D (I' := I) (J' := J) (G' := gset G 10 (nset (G 10) (20 + (2 * (G 10 19))) mn)) hD
  refine lv_aload_n hz.1 hz.2.1 dX6_layWind_14 rfl (lv_at hl 1 rfl) ?_
  refine lv_iload_n hz.1 hz.2.1 dX6_layWind_15 rfl (lv_at hl 0 rfl) ?_
  refine lv_iconst (v := nI 1) hz.1 hz.2.1 dX6_layWind_16 (by decide) ?_
  refine lv_iadd hz.1 hz.2.1 dX6_layWind_17 ?_
  refine toe (z := nI ((20 + (2 * (G 10 19))) + 1)) (nI_add _ _) ?_
  refine lv_iload_n hz.1 hz.2.1 dX6_layWind_18 rfl (lv_at hl 3 rfl) ?_
  refine rast hz hK hP hD hS 11 0 rfl rfl (i := ((20 + (2 * (G 10 19))) + 1)) (v := w) (by omega) (by decide) dX6_layWind_19 (fun H locs hP hS => ?_)
  have hP : va_P D vwCl (mw b k I J (gset G 10 (nset (nset (G 10) (20 + (2 * (G 10 19))) mn) ((20 + (2 * (G 10 19))) + 1) w))) H := hP
  have hD := mw_D (I' := I) (J' := J) (G' := gset G 10 (nset (nset (G 10) (20 + (2 * (G 10 19))) mn) ((20 + (2 * (G 10 19))) + 1) w)) hD
  refine lv_aload_n hz.1 hz.2.1 dX6_layWind_20 rfl (lv_at hl 1 rfl) ?_
  refine lv_bipush (v := nI 19) hz.1 hz.2.1 dX6_layWind_21 (by decide) ?_
  refine lv_dup2_11 hz.1 hz.2.1 dX6_layWind_23 rfl rfl ?_
  refine rald hz hK hP 11 0 rfl rfl (i := 19) (by omega) (by decide) (v := nI ((nset (nset (G 10) (20 + (2 * (G 10 19))) mn) ((20 + (2 * (G 10 19))) + 1) w) 19)) rfl dX6_layWind_24 ?_
  refine toe (z := nI (G 10 19)) (by rw [nset_ne _ _ (by omega), nset_ne _ _ (by omega)]) ?_
  refine lv_iconst (v := nI 1) hz.1 hz.2.1 dX6_layWind_25 (by decide) ?_
  refine lv_iadd hz.1 hz.2.1 dX6_layWind_26 ?_
  refine toe (z := nI ((G 10 19) + 1)) (nI_add _ _) ?_
  refine rast hz hK hP hD hS 11 0 rfl rfl (i := 19) (v := ((G 10 19) + 1)) (by omega) (by decide) dX6_layWind_27 (fun H locs hP hS => ?_)
  have hP : va_P D vwCl (mw b k I J (gset G 10 (nset (nset (nset (G 10) (20 + (2 * (G 10 19))) mn) ((20 + (2 * (G 10 19))) + 1) w) 19 ((G 10 19) + 1)))) H := hP
  have hD := mw_D (I' := I) (J' := J) (G' := gset G 10 (nset (nset (nset (G 10) (20 + (2 * (G 10 19))) mn) ((20 + (2 * (G 10 19))) + 1) w) 19 ((G 10 19) + 1))) hD
  exact wr_vret hz hr hlk dX6_layWind_28 hS (()) hP (trivial)

set_option maxHeartbeats 4000000 in
set_option maxRecDepth 100000 in
theorem c6_layPass_next (l_ : Launch) (D : va_G) (k : Nat → ClassId) (b I J : Nat → Nat) (G : Nat → Nat → Nat) (mn w sp : Nat) (h : G 10 32 < 8) : Met l_ yX6_layPass wsX6_layPass ({ frames := 0, cells := 0, slots := 0, locals := 0 }) (va_Pc [.ref (b 11), .int (nI mn), .int (nI w), .int (nI sp)] (wH YT D k (mw b k I J G))) (va_Qv (fun (u : Unit) => True) (fun (u : Unit) (t_ : State) => va_P D vwCl ((fun (_ : Unit) => mw b k I J (gset G 10 (sAddPass (G 10) mn w sp))) u) t_.heap) (wA (mw b k I J G))) 0 0 (wA (mw b k I J G)) := by
  refine my_entry (cc := cX6_layPass) (maxL := 5) (ret := none) (by decide) rfl (Nat.le_of_ble_eq_true rfl) ?_
  intro p_ e_ s_ m_ bl_ me_ c_ hz hr hlk hB ls hl
  obtain ⟨hP, hK, hD0, -⟩ := hB
  have hD := wA.self hD0
  have hS : va_S (wA (mw b k I J G)) s_.heap s_.heap [] := va_S.rf
  have hl : lv_has ls 5 [(0, .ref (b 11)), (1, .int (nI mn)), (2, .int (nI w)), (3, .int (nI sp))] := hl
  refine lv_bipush (v := nI 33) hz.1 hz.2.1 dX6_layPass_0 (by decide) ?_
  refine lv_iconst (v := nI 3) hz.1 hz.2.1 dX6_layPass_2 (by decide) ?_
  refine lv_aload_n hz.1 hz.2.1 dX6_layPass_3 rfl (lv_at hl 0 rfl) ?_
  refine lv_bipush (v := nI 32) hz.1 hz.2.1 dX6_layPass_4 (by decide) ?_
  refine rald hz hK hP 11 0 rfl rfl (i := 32) (by omega) (by decide) (v := nI (G 10 32)) rfl dX6_layPass_6 ?_
  refine lv_imul hz.1 hz.2.1 dX6_layPass_7 ?_
  refine toe (z := nI (3 * (G 10 32))) (pk_mul _ _) ?_
  refine lv_iadd hz.1 hz.2.1 dX6_layPass_8 ?_
  refine toe (z := nI (33 + (3 * (G 10 32)))) (nI_add _ _) ?_
  refine lv_istore (lv' := [(4, .int (nI (33 + (3 * (G 10 32))))), (0, .ref (b 11)), (1, .int (nI mn)), (2, .int (nI w)), (3, .int (nI sp))]) hz.1 hz.2.1 dX6_layPass_9 hl (by decide) rfl (fun ls hl => ?_)
  refine lv_aload_n hz.1 hz.2.1 dX6_layPass_11 rfl (lv_at hl 1 rfl) ?_
  refine lv_iload hz.1 hz.2.1 dX6_layPass_12 (lv_at hl 0 rfl) ?_
  refine lv_iload_n hz.1 hz.2.1 dX6_layPass_14 rfl (lv_at hl 2 rfl) ?_
  refine rast hz hK hP hD hS 11 0 rfl rfl (i := (33 + (3 * (G 10 32)))) (v := mn) (by omega) (by decide) dX6_layPass_15 (fun H locs hP hS => ?_)
  have hP : va_P D vwCl (mw b k I J (gset G 10 (nset (G 10) (33 + (3 * (G 10 32))) mn))) H := hP
  have hD := mw_D (I' := I) (J' := J) (G' := gset G 10 (nset (G 10) (33 + (3 * (G 10 32))) mn)) hD
  refine lv_aload_n hz.1 hz.2.1 dX6_layPass_16 rfl (lv_at hl 1 rfl) ?_
  refine lv_iload hz.1 hz.2.1 dX6_layPass_17 (lv_at hl 0 rfl) ?_
  refine lv_iconst (v := nI 1) hz.1 hz.2.1 dX6_layPass_19 (by decide) ?_
  refine lv_iadd hz.1 hz.2.1 dX6_layPass_20 ?_
  refine toe (z := nI ((33 + (3 * (G 10 32))) + 1)) (nI_add _ _) ?_
  refine lv_iload_n hz.1 hz.2.1 dX6_layPass_21 rfl (lv_at hl 3 rfl) ?_
  refine rast hz hK hP hD hS 11 0 rfl rfl (i := ((33 + (3 * (G 10 32))) + 1)) (v := w) (by omega) (by decide) dX6_layPass_22 (fun H locs hP hS => ?_)
  have hP : va_P D vwCl (mw b k I J (gset G 10 (nset (nset (G 10) (33 + (3 * (G 10 32))) mn) ((33 + (3 * (G 10 32))) + 1) w))) H := hP
  have hD := mw_D (I' := I) (J' := J) (G' := gset G 10 (nset (nset (G 10) (33 + (3 * (G 10 32))) mn) ((33 + (3 * (G 10 32))) + 1) w)) hD
  refine lv_aload_n hz.1 hz.2.1 dX6_layPass_23 rfl (lv_at hl 1 rfl) ?_
  refine lv_iload hz.1 hz.2.1 dX6_layPass_24 (lv_at hl 0 rfl) ?_
  refine lv_iconst (v := nI 2) hz.1 hz.2.1 dX6_layPass_26 (by decide) ?_
  refine lv_iadd hz.1 hz.2.1 dX6_layPass_27 ?_
  refine toe (z := nI ((33 + (3 * (G 10 32))) + 2)) (nI_add _ _) ?_
  refine lv_iload_n hz.1 hz.2.1 dX6_layPass_28 rfl (lv_at hl 4 rfl) ?_
  refine rast hz hK hP hD hS 11 0 rfl rfl (i := ((33 + (3 * (G 10 32))) + 2)) (v := sp) (by omega) (by decide) dX6_layPass_29 (fun H locs hP hS => ?_)
  have hP : va_P D vwCl (mw b k I J (gset G 10 (nset (nset (nset (G 10) (33 + (3 * (G 10 32))) mn) ((33 + (3 * (G 10 32))) + 1) w) ((33 + (3 * (G 10 32))) + 2) sp))) H := hP
  have hD := mw_D (I' := I) (J' := J) (G' := gset G 10 (nset (nset (nset (G 10) (33 + (3 * (G 10 32))) mn) ((33 + (3 * (G 10 32))) + 1) w) ((33 + (3 * (G 10 32))) + 2) sp)) hD
  refine lv_aload_n hz.1 hz.2.1 dX6_layPass_30 rfl (lv_at hl 1 rfl) ?_
  refine lv_bipush (v := nI 32) hz.1 hz.2.1 dX6_layPass_31 (by decide) ?_
  refine lv_dup2_11 hz.1 hz.2.1 dX6_layPass_33 rfl rfl ?_
  refine rald hz hK hP 11 0 rfl rfl (i := 32) (by omega) (by decide) (v := nI ((nset (nset (nset (G 10) (33 + (3 * (G 10 32))) mn) ((33 + (3 * (G 10 32))) + 1) w) ((33 + (3 * (G 10 32))) + 2) sp) 32)) rfl dX6_layPass_34 ?_
  refine toe (z := nI (G 10 32)) (by rw [nset_ne _ _ (by omega), nset_ne _ _ (by omega), nset_ne _ _ (by omega)]) ?_
  refine lv_iconst (v := nI 1) hz.1 hz.2.1 dX6_layPass_35 (by decide) ?_
  refine lv_iadd hz.1 hz.2.1 dX6_layPass_36 ?_
  refine toe (z := nI ((G 10 32) + 1)) (nI_add _ _) ?_
  refine rast hz hK hP hD hS 11 0 rfl rfl (i := 32) (v := ((G 10 32) + 1)) (by omega) (by decide) dX6_layPass_37 (fun H locs hP hS => ?_)
  have hP : va_P D vwCl (mw b k I J (gset G 10 (nset (nset (nset (nset (G 10) (33 + (3 * (G 10 32))) mn) ((33 + (3 * (G 10 32))) + 1) w) ((33 + (3 * (G 10 32))) + 2) sp) 32 ((G 10 32) + 1)))) H := hP
  have hD := mw_D (I' := I) (J' := J) (G' := gset G 10 (nset (nset (nset (nset (G 10) (33 + (3 * (G 10 32))) mn) ((33 + (3 * (G 10 32))) + 1) w) ((33 + (3 * (G 10 32))) + 2) sp) 32 ((G 10 32) + 1))) hD
  exact wr_vret hz hr hlk dX6_layPass_38 hS (()) hP (trivial)

theorem hinX6_posts : ∀ w ∈ wsX60, w ∈ wsX6_posts := fun _ h => List.mem_cons_of_mem _ (List.mem_append_right _ h)
set_option maxHeartbeats 4000000 in
set_option maxRecDepth 100000 in
theorem c6_posts_bad (l_ : Launch) (D : va_G) (k : Nat → ClassId) (b I J : Nat → Nat) (G : Nat → Nat → Nat) (x : Int32) (hb : wIn x 2 9 = false) : Met l_ yX6_posts wsX6_posts ({ frames := 1, cells := 0, slots := 0, locals := 25 }) (va_Pc [.ref (b 0), .int x] (wH YT D k (mw b k I J G))) (va_Qi (fun (r : Int32) (u : Unit) => r = -2) (fun (u : Unit) (t_ : State) => va_P D vwCl ((fun (_ : Unit) => mw b k I J (gset G 3 (sRef (G 3) 0))) u) t_.heap) (wA (mw b k I J G))) 0 0 (wA (mw b k I J G)) := by
  refine my_entry (cc := cX6_posts) (maxL := 3) (ret := some .int) (by decide) rfl (Nat.le_of_ble_eq_true rfl) ?_
  intro p_ e_ s_ m_ bl_ me_ c_ hz hr hlk hB ls hl
  obtain ⟨hP, hK, hD0, -⟩ := hB
  have hD := wA.self hD0
  have hS : va_S (wA (mw b k I J G)) s_.heap s_.heap [] := va_S.rf
  have hl : lv_has ls 3 [(0, .ref (b 0)), (1, .int x)] := hl
  refine lv_iload_n hz.1 hz.2.1 dX6_posts_0 rfl (lv_at hl 1 rfl) ?_
  refine lv_i2l (v := x.toInt64) hz.1 hz.2.1 dX6_posts_1 (rfl) ?_
  refine lv_ldc2 (own := RX6) (v := lN 2) hz.1 hz.2.1 hz.2.2.2.1 (hz.2.2.2.2 (.constantLong RX6 66 (2)) (List.mem_of_getElem? (i := 1) rfl)) dX6_posts_2 ?_
  refine lv_ldc2 (own := RX6) (v := lN 9) hz.1 hz.2.1 hz.2.2.2.1 (hz.2.2.2.2 (.constantLong RX6 68 (9)) (List.mem_of_getElem? (i := 2) rfl)) dX6_posts_5 ?_
  refine rdS (As := [.long x.toInt64, .long (lN 2), .long (lN 9)]) (rest := []) hz (c6_in l_ x 2 9 (by omega) (by omega)) rfl (va_cwS 3 hz.2.2.2.2 gX6_posts_X6_in rfl rfl rfl (by decide +kernel) ⟨Nat.le_of_ble_eq_true rfl, Nat.le_of_ble_eq_true rfl⟩) rfl hl.1 rfl (Nat.le_of_ble_eq_true rfl) dX6_posts_8 ⟨Nat.zero_le _, Nat.zero_le _⟩ ?_
  refine zne (tgt := 21) hz dX6_posts_11 (by decide) (fun c_11 => ?_) (fun c_11 => ?_)
  · simp [c_11] at hb
  · refine lv_aload_n hz.1 hz.2.1 dX6_posts_14 rfl (lv_at hl 0 rfl) ?_
    refine lv_bipush (v := (-2)) hz.1 hz.2.1 dX6_posts_15 (by decide) ?_
    refine wrV (A := wA (mw b k I J G)) (As := [.int (-2)]) (rest := []) hz okYT (c6_bad l_ D k b I J G (-2) ) (cwV 1 hz.2.2.2.2 gX6_posts_X6_bad rfl rfl rfl (by decide +kernel) ⟨Nat.le_of_ble_eq_true rfl, Nat.le_of_ble_eq_true rfl⟩) hK trivial hP hD hS 0 6 rfl rfl rfl rfl hl.1 rfl (Nat.le_of_ble_eq_true rfl) dX6_posts_17 ⟨Nat.zero_le _, Nat.zero_le _⟩ (fun r u H locs hp hP hS _ => ?_)
    obtain rfl : r = -2 := hp
    have hP : va_P D vwCl (mw b k I J (gset G 3 (sRef (G 3) 0))) H := hP
    have hD := mw_D (I' := I) (J' := J) (G' := gset G 3 (sRef (G 3) 0)) hD
    exact wr_iret hz hr hlk dX6_posts_20 hS (()) hP (rfl)

set_option maxHeartbeats 4000000 in
set_option maxRecDepth 100000 in
theorem c6_posts_ok (l_ : Launch) (D : va_G) (k : Nat → ClassId) (b I J : Nat → Nat) (G : Nat → Nat → Nat) (n : Nat) (h1 : 2 ≤ n) (h2 : n ≤ 9) : Met l_ yX6_posts wsX6_posts ({ frames := 1, cells := 0, slots := 0, locals := 25 }) (va_Pc [.ref (b 0), .int (nI n)] (wH YT D k (mw b k I J G))) (va_Qi (fun (r : Int32) (u : Unit) => r = nI (G 0 0)) (fun (u : Unit) (t_ : State) => va_P D vwCl ((fun (_ : Unit) => mw b k I J (gset G 0 (sBegin (G 0) n))) u) t_.heap) (wA (mw b k I J G))) 0 0 (wA (mw b k I J G)) := by
  refine my_entry (cc := cX6_posts) (maxL := 3) (ret := some .int) (by decide) rfl (Nat.le_of_ble_eq_true rfl) ?_
  intro p_ e_ s_ m_ bl_ me_ c_ hz hr hlk hB ls hl
  obtain ⟨hP, hK, hD0, -⟩ := hB
  have hD := wA.self hD0
  have hS : va_S (wA (mw b k I J G)) s_.heap s_.heap [] := va_S.rf
  have hl : lv_has ls 3 [(0, .ref (b 0)), (1, .int (nI n))] := hl
  refine lv_iload_n hz.1 hz.2.1 dX6_posts_0 rfl (lv_at hl 1 rfl) ?_
  refine lv_i2l (v := (nI n).toInt64) hz.1 hz.2.1 dX6_posts_1 (rfl) ?_
  refine lv_ldc2 (own := RX6) (v := lN 2) hz.1 hz.2.1 hz.2.2.2.1 (hz.2.2.2.2 (.constantLong RX6 66 (2)) (List.mem_of_getElem? (i := 1) rfl)) dX6_posts_2 ?_
  refine lv_ldc2 (own := RX6) (v := lN 9) hz.1 hz.2.1 hz.2.2.2.1 (hz.2.2.2.2 (.constantLong RX6 68 (9)) (List.mem_of_getElem? (i := 2) rfl)) dX6_posts_5 ?_
  refine rdS (As := [.long ((nI n).toInt64), .long (lN 2), .long (lN 9)]) (rest := []) hz (c6_in l_ (nI n) 2 9 (by omega) (by omega)) rfl (va_cwS 3 hz.2.2.2.2 gX6_posts_X6_in rfl rfl rfl (by decide +kernel) ⟨Nat.le_of_ble_eq_true rfl, Nat.le_of_ble_eq_true rfl⟩) rfl hl.1 rfl (Nat.le_of_ble_eq_true rfl) dX6_posts_8 ⟨Nat.zero_le _, Nat.zero_le _⟩ ?_
  refine zne (tgt := 21) hz dX6_posts_11 (by decide) (fun c_11 => ?_) (fun c_11 => ?_)
  · refine lv_aload_n hz.1 hz.2.1 dX6_posts_21 rfl (lv_at hl 0 rfl) ?_
    refine rdV (A := wA (mw b k I J G)) (As := []) (rest := []) hz okYT (c6_line l_ D k b I J G  ) (cwV 0 hz.2.2.2.2 gX6_posts_X6_line rfl rfl rfl (by decide +kernel) ⟨Nat.le_of_ble_eq_true rfl, Nat.le_of_ble_eq_true rfl⟩) hK trivial hP hD hS 0 6 rfl rfl rfl rfl hl.1 rfl (Nat.le_of_ble_eq_true rfl) dX6_posts_22 ⟨Nat.zero_le _, Nat.zero_le _⟩ ?_
    refine lv_istore_n (lv' := [(2, .int (nI ((G 0) 0))), (0, .ref (b 0)), (1, .int (nI n))]) hz.1 hz.2.1 dX6_posts_25 rfl hl (by decide) rfl (fun ls hl => ?_)
    refine lv_aload_n hz.1 hz.2.1 dX6_posts_26 rfl (lv_at hl 1 rfl) ?_
    refine rg hz hinX6_posts hK hP 0 rfl rfl 0 (by decide) (List.mem_of_getElem? (i := 3) rfl) rfl (v := .ref (b 1)) rfl dX6_posts_27 ?_
    refine lv_iload_n hz.1 hz.2.1 dX6_posts_30 rfl (lv_at hl 2 rfl) ?_
    refine wrSv (A := wA (mw b k I J G)) (As := [.ref (b 1), .int (nI n)]) (rest := []) hz okYT (c6_begin_now l_ D k b I J G n ) (va_cwS 2 hz.2.2.2.2 gX6_posts_X6_begin rfl rfl rfl (by decide +kernel) ⟨Nat.le_of_ble_eq_true rfl, Nat.le_of_ble_eq_true rfl⟩) hK trivial hP hD hS rfl hl.1 rfl (Nat.le_of_ble_eq_true rfl) dX6_posts_31 ⟨Nat.zero_le _, Nat.zero_le _⟩ (fun u H locs hp hP hS _ => ?_)
    have hP : va_P D vwCl (mw b k I J (gset G 0 (sBegin (G 0) n))) H := hP
    have hD := mw_D (I' := I) (J' := J) (G' := gset G 0 (sBegin (G 0) n)) hD
    refine lv_iload_n hz.1 hz.2.1 dX6_posts_34 rfl (lv_at hl 0 rfl) ?_
    exact wr_iret hz hr hlk dX6_posts_35 hS (()) hP (rfl)
  · exact absurd ((wIn_ok (by omega) (by omega) (by omega)).symm.trans c_11) (by decide)

theorem hinX6_wire : ∀ w ∈ wsX60, w ∈ wsX6_wire := fun _ h => List.mem_cons_of_mem _ (List.mem_append_right _ h)
set_option maxHeartbeats 4000000 in
set_option maxRecDepth 100000 in
theorem c6_wire_bad (l_ : Launch) (D : va_G) (k : Nat → ClassId) (b I J : Nat → Nat) (G : Nat → Nat → Nat) (x1 x2 x3 : Int32) (hf : Wf (G 0)) (hb : (wIn x1 0 (G 0 0 - 1 - 1) && wIn x2 0 4 && wIn x3 0 11) = false) : Met l_ yX6_wire wsX6_wire ({ frames := 2, cells := 0, slots := 0, locals := 46 }) (va_Pc [.ref (b 0), .int x1, .int x2, .int x3] (wH YT D k (mw b k I J G))) (va_Qi (fun (r : Int32) (u : Unit) => r = -2) (fun (u : Unit) (t_ : State) => va_P D vwCl ((fun (_ : Unit) => mw b k I J (gset G 3 (sRef (G 3) 0))) u) t_.heap) (wA (mw b k I J G))) 0 0 (wA (mw b k I J G)) := by
  refine my_entry (cc := cX6_wire) (maxL := 5) (ret := some .int) (by decide) rfl (Nat.le_of_ble_eq_true rfl) ?_
  intro p_ e_ s_ m_ bl_ me_ c_ hz hr hlk hB ls hl
  obtain ⟨hP, hK, hD0, -⟩ := hB
  have hD := wA.self hD0
  have hS : va_S (wA (mw b k I J G)) s_.heap s_.heap [] := va_S.rf
  have hl : lv_has ls 5 [(0, .ref (b 0)), (1, .int x1), (2, .int x2), (3, .int x3)] := hl
  have f0 := hf.n2
  have f1 := hf.n9
  have f2 := hf.fr
  have f3 := hf.gd
  refine lv_aload_n hz.1 hz.2.1 dX6_wire_0 rfl (lv_at hl 0 rfl) ?_
  refine lv_iload_n hz.1 hz.2.1 dX6_wire_1 rfl (lv_at hl 1 rfl) ?_
  refine rdV (A := wA (mw b k I J G)) (As := [.int x1]) (rest := []) hz okYT (c6_isWire l_ D k b I J G x1 hf) (cwV 1 hz.2.2.2.2 gX6_wire_X6_isWire rfl rfl rfl (by decide +kernel) ⟨Nat.le_of_ble_eq_true rfl, Nat.le_of_ble_eq_true rfl⟩) hK trivial hP hD hS 0 6 rfl rfl rfl rfl hl.1 rfl (Nat.le_of_ble_eq_true rfl) dX6_wire_2 ⟨Nat.zero_le _, Nat.zero_le _⟩ ?_
  refine zeq (tgt := 32) hz dX6_wire_5 (by decide) (fun c_5 => ?_) (fun c_5 => ?_)
  · refine lv_aload_n hz.1 hz.2.1 dX6_wire_32 rfl (lv_at hl 0 rfl) ?_
    refine lv_bipush (v := (-2)) hz.1 hz.2.1 dX6_wire_33 (by decide) ?_
    refine wrV (A := wA (mw b k I J G)) (As := [.int (-2)]) (rest := []) hz okYT (c6_bad l_ D k b I J G (-2) ) (cwV 1 hz.2.2.2.2 gX6_wire_X6_bad rfl rfl rfl (by decide +kernel) ⟨Nat.le_of_ble_eq_true rfl, Nat.le_of_ble_eq_true rfl⟩) hK trivial hP hD hS 0 6 rfl rfl rfl rfl hl.1 rfl (Nat.le_of_ble_eq_true rfl) dX6_wire_35 ⟨Nat.zero_le _, Nat.zero_le _⟩ (fun r u H locs hp hP hS _ => ?_)
    obtain rfl : r = -2 := hp
    have hP : va_P D vwCl (mw b k I J (gset G 3 (sRef (G 3) 0))) H := hP
    have hD := mw_D (I' := I) (J' := J) (G' := gset G 3 (sRef (G 3) 0)) hD
    exact wr_iret hz hr hlk dX6_wire_38 hS (()) hP (rfl)
  · refine lv_iload_n hz.1 hz.2.1 dX6_wire_8 rfl (lv_at hl 2 rfl) ?_
    refine lv_i2l (v := x2.toInt64) hz.1 hz.2.1 dX6_wire_9 (rfl) ?_
    refine lv_lconst (v := lN 0) hz.1 hz.2.1 dX6_wire_10 (by decide) ?_
    refine lv_ldc2 (own := RX6) (v := lN 4) hz.1 hz.2.1 hz.2.2.2.1 (hz.2.2.2.2 (.constantLong RX6 82 (4)) (List.mem_of_getElem? (i := 1) rfl)) dX6_wire_11 ?_
    refine rdS (As := [.long x2.toInt64, .long (lN 0), .long (lN 4)]) (rest := []) hz (c6_in l_ x2 0 4 (by omega) (by omega)) rfl (va_cwS 3 hz.2.2.2.2 gX6_wire_X6_in rfl rfl rfl (by decide +kernel) ⟨Nat.le_of_ble_eq_true rfl, Nat.le_of_ble_eq_true rfl⟩) rfl hl.1 rfl (Nat.le_of_ble_eq_true rfl) dX6_wire_14 ⟨Nat.zero_le _, Nat.zero_le _⟩ ?_
    refine zeq (tgt := 32) hz dX6_wire_17 (by decide) (fun c_17 => ?_) (fun c_17 => ?_)
    · refine lv_aload_n hz.1 hz.2.1 dX6_wire_32 rfl (lv_at hl 0 rfl) ?_
      refine lv_bipush (v := (-2)) hz.1 hz.2.1 dX6_wire_33 (by decide) ?_
      refine wrV (A := wA (mw b k I J G)) (As := [.int (-2)]) (rest := []) hz okYT (c6_bad l_ D k b I J G (-2) ) (cwV 1 hz.2.2.2.2 gX6_wire_X6_bad rfl rfl rfl (by decide +kernel) ⟨Nat.le_of_ble_eq_true rfl, Nat.le_of_ble_eq_true rfl⟩) hK trivial hP hD hS 0 6 rfl rfl rfl rfl hl.1 rfl (Nat.le_of_ble_eq_true rfl) dX6_wire_35 ⟨Nat.zero_le _, Nat.zero_le _⟩ (fun r u H locs hp hP hS _ => ?_)
      obtain rfl : r = -2 := hp
      have hP : va_P D vwCl (mw b k I J (gset G 3 (sRef (G 3) 0))) H := hP
      have hD := mw_D (I' := I) (J' := J) (G' := gset G 3 (sRef (G 3) 0)) hD
      exact wr_iret hz hr hlk dX6_wire_38 hS (()) hP (rfl)
    · refine lv_iload_n hz.1 hz.2.1 dX6_wire_20 rfl (lv_at hl 3 rfl) ?_
      refine lv_i2l (v := x3.toInt64) hz.1 hz.2.1 dX6_wire_21 (rfl) ?_
      refine lv_lconst (v := lN 0) hz.1 hz.2.1 dX6_wire_22 (by decide) ?_
      refine lv_ldc2 (own := RX6) (v := lN 11) hz.1 hz.2.1 hz.2.2.2.1 (hz.2.2.2.2 (.constantLong RX6 84 (11)) (List.mem_of_getElem? (i := 2) rfl)) dX6_wire_23 ?_
      refine rdS (As := [.long x3.toInt64, .long (lN 0), .long (lN 11)]) (rest := []) hz (c6_in l_ x3 0 11 (by omega) (by omega)) rfl (va_cwS 3 hz.2.2.2.2 gX6_wire_X6_in rfl rfl rfl (by decide +kernel) ⟨Nat.le_of_ble_eq_true rfl, Nat.le_of_ble_eq_true rfl⟩) rfl hl.1 rfl (Nat.le_of_ble_eq_true rfl) dX6_wire_26 ⟨Nat.zero_le _, Nat.zero_le _⟩ ?_
      refine zne (tgt := 39) hz dX6_wire_29 (by decide) (fun c_29 => ?_) (fun c_29 => ?_)
      · simp [c_5, c_17, c_29] at hb
      · refine lv_aload_n hz.1 hz.2.1 dX6_wire_32 rfl (lv_at hl 0 rfl) ?_
        refine lv_bipush (v := (-2)) hz.1 hz.2.1 dX6_wire_33 (by decide) ?_
        refine wrV (A := wA (mw b k I J G)) (As := [.int (-2)]) (rest := []) hz okYT (c6_bad l_ D k b I J G (-2) ) (cwV 1 hz.2.2.2.2 gX6_wire_X6_bad rfl rfl rfl (by decide +kernel) ⟨Nat.le_of_ble_eq_true rfl, Nat.le_of_ble_eq_true rfl⟩) hK trivial hP hD hS 0 6 rfl rfl rfl rfl hl.1 rfl (Nat.le_of_ble_eq_true rfl) dX6_wire_35 ⟨Nat.zero_le _, Nat.zero_le _⟩ (fun r u H locs hp hP hS _ => ?_)
        obtain rfl : r = -2 := hp
        have hP : va_P D vwCl (mw b k I J (gset G 3 (sRef (G 3) 0))) H := hP
        have hD := mw_D (I' := I) (J' := J) (G' := gset G 3 (sRef (G 3) 0)) hD
        exact wr_iret hz hr hlk dX6_wire_38 hS (()) hP (rfl)

set_option maxHeartbeats 4000000 in
set_option maxRecDepth 100000 in
theorem c6_wire_ok (l_ : Launch) (D : va_G) (k : Nat → ClassId) (b I J : Nat → Nat) (G : Nat → Nat → Nat) (w kd t : Nat) (hf : Wf (G 0)) (h1 : w < G 0 0 - 1) (h2 : kd ≤ 4) (h3 : t ≤ 11) : Met l_ yX6_wire wsX6_wire ({ frames := 2, cells := 0, slots := 0, locals := 46 }) (va_Pc [.ref (b 0), .int (nI w), .int (nI kd), .int (nI t)] (wH YT D k (mw b k I J G))) (va_Qi (fun (r : Int32) (u : Unit) => r = nI (12 * G 0 (3 + w) + G 0 (11 + w))) (fun (u : Unit) (t_ : State) => va_P D vwCl ((fun (_ : Unit) => mw b k I J (gset G 0 (sWire (G 0) w kd t))) u) t_.heap) (wA (mw b k I J G))) 0 0 (wA (mw b k I J G)) := by
  refine my_entry (cc := cX6_wire) (maxL := 5) (ret := some .int) (by decide) rfl (Nat.le_of_ble_eq_true rfl) ?_
  intro p_ e_ s_ m_ bl_ me_ c_ hz hr hlk hB ls hl
  obtain ⟨hP, hK, hD0, -⟩ := hB
  have hD := wA.self hD0
  have hS : va_S (wA (mw b k I J G)) s_.heap s_.heap [] := va_S.rf
  have hl : lv_has ls 5 [(0, .ref (b 0)), (1, .int (nI w)), (2, .int (nI kd)), (3, .int (nI t))] := hl
  have f0 := hf.n2
  have f1 := hf.n9
  have f2 := hf.fr
  have f3 := hf.gd
  refine lv_aload_n hz.1 hz.2.1 dX6_wire_0 rfl (lv_at hl 0 rfl) ?_
  refine lv_iload_n hz.1 hz.2.1 dX6_wire_1 rfl (lv_at hl 1 rfl) ?_
  refine rdV (A := wA (mw b k I J G)) (As := [.int (nI w)]) (rest := []) hz okYT (c6_isWire l_ D k b I J G (nI w) hf) (cwV 1 hz.2.2.2.2 gX6_wire_X6_isWire rfl rfl rfl (by decide +kernel) ⟨Nat.le_of_ble_eq_true rfl, Nat.le_of_ble_eq_true rfl⟩) hK trivial hP hD hS 0 6 rfl rfl rfl rfl hl.1 rfl (Nat.le_of_ble_eq_true rfl) dX6_wire_2 ⟨Nat.zero_le _, Nat.zero_le _⟩ ?_
  refine zeq (tgt := 32) hz dX6_wire_5 (by decide) (fun c_5 => ?_) (fun c_5 => ?_)
  · exact absurd ((wIn_ok (by omega) (by omega) (by omega)).symm.trans c_5) (by decide)
  · refine lv_iload_n hz.1 hz.2.1 dX6_wire_8 rfl (lv_at hl 2 rfl) ?_
    refine lv_i2l (v := (nI kd).toInt64) hz.1 hz.2.1 dX6_wire_9 (rfl) ?_
    refine lv_lconst (v := lN 0) hz.1 hz.2.1 dX6_wire_10 (by decide) ?_
    refine lv_ldc2 (own := RX6) (v := lN 4) hz.1 hz.2.1 hz.2.2.2.1 (hz.2.2.2.2 (.constantLong RX6 82 (4)) (List.mem_of_getElem? (i := 1) rfl)) dX6_wire_11 ?_
    refine rdS (As := [.long ((nI kd).toInt64), .long (lN 0), .long (lN 4)]) (rest := []) hz (c6_in l_ (nI kd) 0 4 (by omega) (by omega)) rfl (va_cwS 3 hz.2.2.2.2 gX6_wire_X6_in rfl rfl rfl (by decide +kernel) ⟨Nat.le_of_ble_eq_true rfl, Nat.le_of_ble_eq_true rfl⟩) rfl hl.1 rfl (Nat.le_of_ble_eq_true rfl) dX6_wire_14 ⟨Nat.zero_le _, Nat.zero_le _⟩ ?_
    refine zeq (tgt := 32) hz dX6_wire_17 (by decide) (fun c_17 => ?_) (fun c_17 => ?_)
    · exact absurd ((wIn_ok (by omega) (by omega) (by omega)).symm.trans c_17) (by decide)
    · refine lv_iload_n hz.1 hz.2.1 dX6_wire_20 rfl (lv_at hl 3 rfl) ?_
      refine lv_i2l (v := (nI t).toInt64) hz.1 hz.2.1 dX6_wire_21 (rfl) ?_
      refine lv_lconst (v := lN 0) hz.1 hz.2.1 dX6_wire_22 (by decide) ?_
      refine lv_ldc2 (own := RX6) (v := lN 11) hz.1 hz.2.1 hz.2.2.2.1 (hz.2.2.2.2 (.constantLong RX6 84 (11)) (List.mem_of_getElem? (i := 2) rfl)) dX6_wire_23 ?_
      refine rdS (As := [.long ((nI t).toInt64), .long (lN 0), .long (lN 11)]) (rest := []) hz (c6_in l_ (nI t) 0 11 (by omega) (by omega)) rfl (va_cwS 3 hz.2.2.2.2 gX6_wire_X6_in rfl rfl rfl (by decide +kernel) ⟨Nat.le_of_ble_eq_true rfl, Nat.le_of_ble_eq_true rfl⟩) rfl hl.1 rfl (Nat.le_of_ble_eq_true rfl) dX6_wire_26 ⟨Nat.zero_le _, Nat.zero_le _⟩ ?_
      refine zne (tgt := 39) hz dX6_wire_29 (by decide) (fun c_29 => ?_) (fun c_29 => ?_)
      · refine lv_bipush (v := nI 12) hz.1 hz.2.1 dX6_wire_39 (by decide) ?_
        refine lv_aload_n hz.1 hz.2.1 dX6_wire_41 rfl (lv_at hl 0 rfl) ?_
        refine rg hz hinX6_wire hK hP 0 rfl rfl 0 (by decide) (List.mem_of_getElem? (i := 3) rfl) rfl (v := .ref (b 1)) rfl dX6_wire_42 ?_
        refine lv_iconst (v := nI 3) hz.1 hz.2.1 dX6_wire_45 (by decide) ?_
        refine lv_iload_n hz.1 hz.2.1 dX6_wire_46 rfl (lv_at hl 1 rfl) ?_
        refine lv_iadd hz.1 hz.2.1 dX6_wire_47 ?_
        refine toe (z := nI (3 + w)) (nI_add _ _) ?_
        refine rald hz hK hP 1 0 rfl rfl (i := (3 + w)) (by omega) (by decide) (v := nI (G 0 (3 + w))) rfl dX6_wire_48 ?_
        refine lv_imul hz.1 hz.2.1 dX6_wire_49 ?_
        refine toe (z := nI (12 * (G 0 (3 + w)))) (pk_mul _ _) ?_
        refine lv_aload_n hz.1 hz.2.1 dX6_wire_50 rfl (lv_at hl 0 rfl) ?_
        refine rg hz hinX6_wire hK hP 0 rfl rfl 0 (by decide) (List.mem_of_getElem? (i := 3) rfl) rfl (v := .ref (b 1)) rfl dX6_wire_51 ?_
        refine lv_bipush (v := nI 11) hz.1 hz.2.1 dX6_wire_54 (by decide) ?_
        refine lv_iload_n hz.1 hz.2.1 dX6_wire_56 rfl (lv_at hl 1 rfl) ?_
        refine lv_iadd hz.1 hz.2.1 dX6_wire_57 ?_
        refine toe (z := nI (11 + w)) (nI_add _ _) ?_
        refine rald hz hK hP 1 0 rfl rfl (i := (11 + w)) (by omega) (by decide) (v := nI (G 0 (11 + w))) rfl dX6_wire_58 ?_
        refine lv_iadd hz.1 hz.2.1 dX6_wire_59 ?_
        refine toe (z := nI ((12 * (G 0 (3 + w))) + (G 0 (11 + w)))) (nI_add _ _) ?_
        refine lv_istore (lv' := [(4, .int (nI ((12 * (G 0 (3 + w))) + (G 0 (11 + w))))), (0, .ref (b 0)), (1, .int (nI w)), (2, .int (nI kd)), (3, .int (nI t))]) hz.1 hz.2.1 dX6_wire_60 hl (by decide) rfl (fun ls hl => ?_)
        refine lv_aload_n hz.1 hz.2.1 dX6_wire_62 rfl (lv_at hl 1 rfl) ?_
        refine rg hz hinX6_wire hK hP 0 rfl rfl 0 (by decide) (List.mem_of_getElem? (i := 3) rfl) rfl (v := .ref (b 1)) rfl dX6_wire_63 ?_
        refine lv_iconst (v := nI 3) hz.1 hz.2.1 dX6_wire_66 (by decide) ?_
        refine lv_iload_n hz.1 hz.2.1 dX6_wire_67 rfl (lv_at hl 2 rfl) ?_
        refine lv_iadd hz.1 hz.2.1 dX6_wire_68 ?_
        refine toe (z := nI (3 + w)) (nI_add _ _) ?_
        refine lv_iload_n hz.1 hz.2.1 dX6_wire_69 rfl (lv_at hl 3 rfl) ?_
        refine rast hz hK hP hD hS 1 0 rfl rfl (i := (3 + w)) (v := kd) (by omega) (by decide) dX6_wire_70 (fun H locs hP hS => ?_)
        have hP : va_P D vwCl (mw b k I J (gset G 0 (nset (G 0) (3 + w) kd))) H := hP
        have hD := mw_D (I' := I) (J' := J) (G' := gset G 0 (nset (G 0) (3 + w) kd)) hD
        refine lv_aload_n hz.1 hz.2.1 dX6_wire_71 rfl (lv_at hl 1 rfl) ?_
        refine rg hz hinX6_wire hK hP 0 rfl rfl 0 (by decide) (List.mem_of_getElem? (i := 3) rfl) rfl (v := .ref (b 1)) rfl dX6_wire_72 ?_
        refine lv_bipush (v := nI 11) hz.1 hz.2.1 dX6_wire_75 (by decide) ?_
        refine lv_iload_n hz.1 hz.2.1 dX6_wire_77 rfl (lv_at hl 2 rfl) ?_
        refine lv_iadd hz.1 hz.2.1 dX6_wire_78 ?_
        refine toe (z := nI (11 + w)) (nI_add _ _) ?_
        refine lv_iload_n hz.1 hz.2.1 dX6_wire_79 rfl (lv_at hl 4 rfl) ?_
        refine rast hz hK hP hD hS 1 0 rfl rfl (i := (11 + w)) (v := t) (by omega) (by decide) dX6_wire_80 (fun H locs hP hS => ?_)
        have hP : va_P D vwCl (mw b k I J (gset G 0 (nset (nset (G 0) (3 + w) kd) (11 + w) t))) H := hP
        have hD := mw_D (I' := I) (J' := J) (G' := gset G 0 (nset (nset (G 0) (3 + w) kd) (11 + w) t)) hD
        refine lv_iload hz.1 hz.2.1 dX6_wire_81 (lv_at hl 0 rfl) ?_
        exact wr_iret hz hr hlk dX6_wire_83 hS (()) hP (rfl)
      · exact absurd ((wIn_ok (by omega) (by omega) (by omega)).symm.trans c_29) (by decide)

theorem hinX6_frost : ∀ w ∈ wsX60, w ∈ wsX6_frost := fun _ h => List.mem_cons_of_mem _ (List.mem_append_right _ h)
set_option maxHeartbeats 4000000 in
set_option maxRecDepth 100000 in
theorem c6_frost_bad (l_ : Launch) (D : va_G) (k : Nat → ClassId) (b I J : Nat → Nat) (G : Nat → Nat → Nat) (x : Int32) (hb : wIn x 0 5 = false) : Met l_ yX6_frost wsX6_frost ({ frames := 1, cells := 0, slots := 0, locals := 25 }) (va_Pc [.ref (b 0), .int x] (wH YT D k (mw b k I J G))) (va_Qi (fun (r : Int32) (u : Unit) => r = -2) (fun (u : Unit) (t_ : State) => va_P D vwCl ((fun (_ : Unit) => mw b k I J (gset G 3 (sRef (G 3) 0))) u) t_.heap) (wA (mw b k I J G))) 0 0 (wA (mw b k I J G)) := by
  refine my_entry (cc := cX6_frost) (maxL := 3) (ret := some .int) (by decide) rfl (Nat.le_of_ble_eq_true rfl) ?_
  intro p_ e_ s_ m_ bl_ me_ c_ hz hr hlk hB ls hl
  obtain ⟨hP, hK, hD0, -⟩ := hB
  have hD := wA.self hD0
  have hS : va_S (wA (mw b k I J G)) s_.heap s_.heap [] := va_S.rf
  have hl : lv_has ls 3 [(0, .ref (b 0)), (1, .int x)] := hl
  refine lv_iload_n hz.1 hz.2.1 dX6_frost_0 rfl (lv_at hl 1 rfl) ?_
  refine lv_i2l (v := x.toInt64) hz.1 hz.2.1 dX6_frost_1 (rfl) ?_
  refine lv_lconst (v := lN 0) hz.1 hz.2.1 dX6_frost_2 (by decide) ?_
  refine lv_ldc2 (own := RX6) (v := lN 5) hz.1 hz.2.1 hz.2.2.2.1 (hz.2.2.2.2 (.constantLong RX6 86 (5)) (List.mem_of_getElem? (i := 1) rfl)) dX6_frost_3 ?_
  refine rdS (As := [.long x.toInt64, .long (lN 0), .long (lN 5)]) (rest := []) hz (c6_in l_ x 0 5 (by omega) (by omega)) rfl (va_cwS 3 hz.2.2.2.2 gX6_frost_X6_in rfl rfl rfl (by decide +kernel) ⟨Nat.le_of_ble_eq_true rfl, Nat.le_of_ble_eq_true rfl⟩) rfl hl.1 rfl (Nat.le_of_ble_eq_true rfl) dX6_frost_6 ⟨Nat.zero_le _, Nat.zero_le _⟩ ?_
  refine zne (tgt := 19) hz dX6_frost_9 (by decide) (fun c_9 => ?_) (fun c_9 => ?_)
  · simp [c_9] at hb
  · refine lv_aload_n hz.1 hz.2.1 dX6_frost_12 rfl (lv_at hl 0 rfl) ?_
    refine lv_bipush (v := (-2)) hz.1 hz.2.1 dX6_frost_13 (by decide) ?_
    refine wrV (A := wA (mw b k I J G)) (As := [.int (-2)]) (rest := []) hz okYT (c6_bad l_ D k b I J G (-2) ) (cwV 1 hz.2.2.2.2 gX6_frost_X6_bad rfl rfl rfl (by decide +kernel) ⟨Nat.le_of_ble_eq_true rfl, Nat.le_of_ble_eq_true rfl⟩) hK trivial hP hD hS 0 6 rfl rfl rfl rfl hl.1 rfl (Nat.le_of_ble_eq_true rfl) dX6_frost_15 ⟨Nat.zero_le _, Nat.zero_le _⟩ (fun r u H locs hp hP hS _ => ?_)
    obtain rfl : r = -2 := hp
    have hP : va_P D vwCl (mw b k I J (gset G 3 (sRef (G 3) 0))) H := hP
    have hD := mw_D (I' := I) (J' := J) (G' := gset G 3 (sRef (G 3) 0)) hD
    exact wr_iret hz hr hlk dX6_frost_18 hS (()) hP (rfl)

set_option maxHeartbeats 4000000 in
set_option maxRecDepth 100000 in
theorem c6_frost_ok (l_ : Launch) (D : va_G) (k : Nat → ClassId) (b I J : Nat → Nat) (G : Nat → Nat → Nat) (n : Nat) (h2 : n ≤ 5) : Met l_ yX6_frost wsX6_frost ({ frames := 1, cells := 0, slots := 0, locals := 25 }) (va_Pc [.ref (b 0), .int (nI n)] (wH YT D k (mw b k I J G))) (va_Qi (fun (r : Int32) (u : Unit) => r = nI (G 0 1)) (fun (u : Unit) (t_ : State) => va_P D vwCl ((fun (_ : Unit) => mw b k I J (gset G 0 (nset (G 0) 1 n))) u) t_.heap) (wA (mw b k I J G))) 0 0 (wA (mw b k I J G)) := by
  refine my_entry (cc := cX6_frost) (maxL := 3) (ret := some .int) (by decide) rfl (Nat.le_of_ble_eq_true rfl) ?_
  intro p_ e_ s_ m_ bl_ me_ c_ hz hr hlk hB ls hl
  obtain ⟨hP, hK, hD0, -⟩ := hB
  have hD := wA.self hD0
  have hS : va_S (wA (mw b k I J G)) s_.heap s_.heap [] := va_S.rf
  have hl : lv_has ls 3 [(0, .ref (b 0)), (1, .int (nI n))] := hl
  refine lv_iload_n hz.1 hz.2.1 dX6_frost_0 rfl (lv_at hl 1 rfl) ?_
  refine lv_i2l (v := (nI n).toInt64) hz.1 hz.2.1 dX6_frost_1 (rfl) ?_
  refine lv_lconst (v := lN 0) hz.1 hz.2.1 dX6_frost_2 (by decide) ?_
  refine lv_ldc2 (own := RX6) (v := lN 5) hz.1 hz.2.1 hz.2.2.2.1 (hz.2.2.2.2 (.constantLong RX6 86 (5)) (List.mem_of_getElem? (i := 1) rfl)) dX6_frost_3 ?_
  refine rdS (As := [.long ((nI n).toInt64), .long (lN 0), .long (lN 5)]) (rest := []) hz (c6_in l_ (nI n) 0 5 (by omega) (by omega)) rfl (va_cwS 3 hz.2.2.2.2 gX6_frost_X6_in rfl rfl rfl (by decide +kernel) ⟨Nat.le_of_ble_eq_true rfl, Nat.le_of_ble_eq_true rfl⟩) rfl hl.1 rfl (Nat.le_of_ble_eq_true rfl) dX6_frost_6 ⟨Nat.zero_le _, Nat.zero_le _⟩ ?_
  refine zne (tgt := 19) hz dX6_frost_9 (by decide) (fun c_9 => ?_) (fun c_9 => ?_)
  · refine lv_aload_n hz.1 hz.2.1 dX6_frost_19 rfl (lv_at hl 0 rfl) ?_
    refine rg hz hinX6_frost hK hP 0 rfl rfl 0 (by decide) (List.mem_of_getElem? (i := 2) rfl) rfl (v := .ref (b 1)) rfl dX6_frost_20 ?_
    refine lv_iconst (v := nI 1) hz.1 hz.2.1 dX6_frost_23 (by decide) ?_
    refine rald hz hK hP 1 0 rfl rfl (i := 1) (by omega) (by decide) (v := nI (G 0 1)) rfl dX6_frost_24 ?_
    refine lv_istore_n (lv' := [(2, .int (nI (G 0 1))), (0, .ref (b 0)), (1, .int (nI n))]) hz.1 hz.2.1 dX6_frost_25 rfl hl (by decide) rfl (fun ls hl => ?_)
    refine lv_aload_n hz.1 hz.2.1 dX6_frost_26 rfl (lv_at hl 1 rfl) ?_
    refine rg hz hinX6_frost hK hP 0 rfl rfl 0 (by decide) (List.mem_of_getElem? (i := 2) rfl) rfl (v := .ref (b 1)) rfl dX6_frost_27 ?_
    refine lv_iconst (v := nI 1) hz.1 hz.2.1 dX6_frost_30 (by decide) ?_
    refine lv_iload_n hz.1 hz.2.1 dX6_frost_31 rfl (lv_at hl 2 rfl) ?_
    refine rast hz hK hP hD hS 1 0 rfl rfl (i := 1) (v := n) (by omega) (by decide) dX6_frost_32 (fun H locs hP hS => ?_)
    have hP : va_P D vwCl (mw b k I J (gset G 0 (nset (G 0) 1 n))) H := hP
    have hD := mw_D (I' := I) (J' := J) (G' := gset G 0 (nset (G 0) 1 n)) hD
    refine lv_iload_n hz.1 hz.2.1 dX6_frost_33 rfl (lv_at hl 0 rfl) ?_
    exact wr_iret hz hr hlk dX6_frost_34 hS (()) hP (rfl)
  · exact absurd ((wIn_ok (by omega) (by omega) (by omega)).symm.trans c_9) (by decide)

theorem hinX6_guard : ∀ w ∈ wsX60, w ∈ wsX6_guard := fun _ h => List.mem_cons_of_mem _ (List.mem_append_right _ h)
set_option maxHeartbeats 4000000 in
set_option maxRecDepth 100000 in
theorem c6_guard_bad (l_ : Launch) (D : va_G) (k : Nat → ClassId) (b I J : Nat → Nat) (G : Nat → Nat → Nat) (x : Int32) (t : Bool) (hf : Wf (G 0)) (hb : wIn x 0 (G 0 0 - 1) = false) : Met l_ yX6_guard wsX6_guard ({ frames := 2, cells := 0, slots := 0, locals := 46 }) (va_Pc [.ref (b 0), .int x, .int (bI t)] (wH YT D k (mw b k I J G))) (va_Qi (fun (r : Int32) (u : Unit) => r = -2) (fun (u : Unit) (t_ : State) => va_P D vwCl ((fun (_ : Unit) => mw b k I J (gset G 3 (sRef (G 3) 0))) u) t_.heap) (wA (mw b k I J G))) 0 0 (wA (mw b k I J G)) := by
  refine my_entry (cc := cX6_guard) (maxL := 3) (ret := some .int) (by decide) rfl (Nat.le_of_ble_eq_true rfl) ?_
  intro p_ e_ s_ m_ bl_ me_ c_ hz hr hlk hB ls hl
  obtain ⟨hP, hK, hD0, -⟩ := hB
  have hD := wA.self hD0
  have hS : va_S (wA (mw b k I J G)) s_.heap s_.heap [] := va_S.rf
  have hl : lv_has ls 3 [(0, .ref (b 0)), (1, .int x), (2, .int (bI t))] := hl
  have f0 := hf.n2
  have f1 := hf.n9
  have f2 := hf.fr
  have f3 := hf.gd
  refine lv_aload_n hz.1 hz.2.1 dX6_guard_0 rfl (lv_at hl 0 rfl) ?_
  refine lv_iload_n hz.1 hz.2.1 dX6_guard_1 rfl (lv_at hl 1 rfl) ?_
  refine rdV (A := wA (mw b k I J G)) (As := [.int x]) (rest := []) hz okYT (c6_isPost l_ D k b I J G x hf) (cwV 1 hz.2.2.2.2 gX6_guard_X6_isPost rfl rfl rfl (by decide +kernel) ⟨Nat.le_of_ble_eq_true rfl, Nat.le_of_ble_eq_true rfl⟩) hK trivial hP hD hS 0 6 rfl rfl rfl rfl hl.1 rfl (Nat.le_of_ble_eq_true rfl) dX6_guard_2 ⟨Nat.zero_le _, Nat.zero_le _⟩ ?_
  refine zne (tgt := 15) hz dX6_guard_5 (by decide) (fun c_5 => ?_) (fun c_5 => ?_)
  · simp [c_5] at hb
  · refine lv_aload_n hz.1 hz.2.1 dX6_guard_8 rfl (lv_at hl 0 rfl) ?_
    refine lv_bipush (v := (-2)) hz.1 hz.2.1 dX6_guard_9 (by decide) ?_
    refine wrV (A := wA (mw b k I J G)) (As := [.int (-2)]) (rest := []) hz okYT (c6_bad l_ D k b I J G (-2) ) (cwV 1 hz.2.2.2.2 gX6_guard_X6_bad rfl rfl rfl (by decide +kernel) ⟨Nat.le_of_ble_eq_true rfl, Nat.le_of_ble_eq_true rfl⟩) hK trivial hP hD hS 0 6 rfl rfl rfl rfl hl.1 rfl (Nat.le_of_ble_eq_true rfl) dX6_guard_11 ⟨Nat.zero_le _, Nat.zero_le _⟩ (fun r u H locs hp hP hS _ => ?_)
    obtain rfl : r = -2 := hp
    have hP : va_P D vwCl (mw b k I J (gset G 3 (sRef (G 3) 0))) H := hP
    have hD := mw_D (I' := I) (J' := J) (G' := gset G 3 (sRef (G 3) 0)) hD
    exact wr_iret hz hr hlk dX6_guard_14 hS (()) hP (rfl)

set_option maxHeartbeats 4000000 in
set_option maxRecDepth 100000 in
theorem c6_guard_ok (l_ : Launch) (D : va_G) (k : Nat → ClassId) (b I J : Nat → Nat) (G : Nat → Nat → Nat) (p : Nat) (t : Bool) (hf : Wf (G 0)) (hp : p < G 0 0) (hb : ¬ (G 0 2).testBit p = t) : Met l_ yX6_guard wsX6_guard ({ frames := 2, cells := 0, slots := 0, locals := 46 }) (va_Pc [.ref (b 0), .int (nI p), .int (bI t)] (wH YT D k (mw b k I J G))) (va_Qi (fun (r : Int32) (u : Unit) => r = nI 1) (fun (u : Unit) (t_ : State) => va_P D vwCl ((fun (_ : Unit) => mw b k I J (gset G 0 (nset (G 0) 2 (G 0 2 ^^^ 2 ^ p)))) u) t_.heap) (wA (mw b k I J G))) 0 0 (wA (mw b k I J G)) := by
  refine my_entry (cc := cX6_guard) (maxL := 3) (ret := some .int) (by decide) rfl (Nat.le_of_ble_eq_true rfl) ?_
  intro p_ e_ s_ m_ bl_ me_ c_ hz hr hlk hB ls hl
  obtain ⟨hP, hK, hD0, -⟩ := hB
  have hD := wA.self hD0
  have hS : va_S (wA (mw b k I J G)) s_.heap s_.heap [] := va_S.rf
  have hl : lv_has ls 3 [(0, .ref (b 0)), (1, .int (nI p)), (2, .int (bI t))] := hl
  have f0 := hf.n2
  have f1 := hf.n9
  have f2 := hf.fr
  have f3 := hf.gd
  refine lv_aload_n hz.1 hz.2.1 dX6_guard_0 rfl (lv_at hl 0 rfl) ?_
  refine lv_iload_n hz.1 hz.2.1 dX6_guard_1 rfl (lv_at hl 1 rfl) ?_
  refine rdV (A := wA (mw b k I J G)) (As := [.int (nI p)]) (rest := []) hz okYT (c6_isPost l_ D k b I J G (nI p) hf) (cwV 1 hz.2.2.2.2 gX6_guard_X6_isPost rfl rfl rfl (by decide +kernel) ⟨Nat.le_of_ble_eq_true rfl, Nat.le_of_ble_eq_true rfl⟩) hK trivial hP hD hS 0 6 rfl rfl rfl rfl hl.1 rfl (Nat.le_of_ble_eq_true rfl) dX6_guard_2 ⟨Nat.zero_le _, Nat.zero_le _⟩ ?_
  refine zne (tgt := 15) hz dX6_guard_5 (by decide) (fun c_5 => ?_) (fun c_5 => ?_)
  · refine lv_aload_n hz.1 hz.2.1 dX6_guard_15 rfl (lv_at hl 0 rfl) ?_
    refine rg hz hinX6_guard hK hP 0 rfl rfl 0 (by decide) (List.mem_of_getElem? (i := 1) rfl) rfl (v := .ref (b 1)) rfl dX6_guard_16 ?_
    refine lv_iconst (v := nI 2) hz.1 hz.2.1 dX6_guard_19 (by decide) ?_
    refine rald hz hK hP 1 0 rfl rfl (i := 2) (by omega) (by decide) (v := nI (G 0 2)) rfl dX6_guard_20 ?_
    refine lv_iload_n hz.1 hz.2.1 dX6_guard_21 rfl (lv_at hl 1 rfl) ?_
    refine lv_ishr hz.1 hz.2.1 dX6_guard_22 ?_
    refine toe (z := nI ((G 0 2) / 2 ^ p)) (nI_shr (by omega) (by omega)) ?_
    refine lv_iconst (v := nI 1) hz.1 hz.2.1 dX6_guard_23 (by decide) ?_
    refine lv_iand hz.1 hz.2.1 dX6_guard_24 ?_
    refine toe (z := nI (((G 0 2) / 2 ^ p) % 2)) (nI_and1 _) ?_
    refine lv_iconst (v := nI 1) hz.1 hz.2.1 dX6_guard_25 (by decide) ?_
    refine jne (tgt := 33) hz dX6_guard_26 (by decide) (by omega) (by omega) (fun c_26 => ?_) (fun c_26 => ?_)
    · refine lv_iconst (v := nI 0) hz.1 hz.2.1 dX6_guard_33 (by decide) ?_
      refine lv_iload_n hz.1 hz.2.1 dX6_guard_34 rfl (lv_at hl 2 rfl) ?_
      refine lv_icmp_ne (tgt := 43) hz.1 hz.2.1 dX6_guard_35 (by decide) (fun c_35 => ?_) (fun c_35 => ?_)
      · refine lv_aload_n hz.1 hz.2.1 dX6_guard_43 rfl (lv_at hl 0 rfl) ?_
        refine rg hz hinX6_guard hK hP 0 rfl rfl 0 (by decide) (List.mem_of_getElem? (i := 1) rfl) rfl (v := .ref (b 1)) rfl dX6_guard_44 ?_
        refine lv_iconst (v := nI 2) hz.1 hz.2.1 dX6_guard_47 (by decide) ?_
        refine lv_dup2_11 hz.1 hz.2.1 dX6_guard_48 rfl rfl ?_
        refine rald hz hK hP 1 0 rfl rfl (i := 2) (by omega) (by decide) (v := nI (G 0 2)) rfl dX6_guard_49 ?_
        refine lv_iconst (v := nI 1) hz.1 hz.2.1 dX6_guard_50 (by decide) ?_
        refine lv_iload_n hz.1 hz.2.1 dX6_guard_51 rfl (lv_at hl 1 rfl) ?_
        refine lv_ishl hz.1 hz.2.1 dX6_guard_52 ?_
        refine toe (z := nI (2 ^ p)) (nI_shl1 (by omega)) ?_
        refine lv_ixor hz.1 hz.2.1 dX6_guard_53 ?_
        refine toe (z := nI ((G 0 2) ^^^ (2 ^ p))) (fb_xorI _ _) ?_
        refine rast hz hK hP hD hS 1 0 rfl rfl (i := 2) (v := ((G 0 2) ^^^ (2 ^ p))) (by omega) (by decide) dX6_guard_54 (fun H locs hP hS => ?_)
        have hP : va_P D vwCl (mw b k I J (gset G 0 (nset (G 0) 2 ((G 0 2) ^^^ (2 ^ p))))) H := hP
        have hD := mw_D (I' := I) (J' := J) (G' := gset G 0 (nset (G 0) 2 ((G 0 2) ^^^ (2 ^ p)))) hD
        refine lv_iconst (v := nI 1) hz.1 hz.2.1 dX6_guard_55 (by decide) ?_
        exact wr_iret hz hr hlk dX6_guard_56 hS (()) hP (rfl)
      · exfalso; rw [Nat.testBit_eq_decide_div_mod_eq] at hb; revert c_35; cases t <;> simp [bI, c_26] at hb ⊢ <;> decide
    · refine lv_iconst (v := nI 1) hz.1 hz.2.1 dX6_guard_29 (by decide) ?_
      refine lv_goto (tgt := 34) hz.1 hz.2.1 dX6_guard_30 (by decide) ?_
      refine lv_iload_n hz.1 hz.2.1 dX6_guard_34 rfl (lv_at hl 2 rfl) ?_
      refine lv_icmp_ne (tgt := 43) hz.1 hz.2.1 dX6_guard_35 (by decide) (fun c_35 => ?_) (fun c_35 => ?_)
      · refine lv_aload_n hz.1 hz.2.1 dX6_guard_43 rfl (lv_at hl 0 rfl) ?_
        refine rg hz hinX6_guard hK hP 0 rfl rfl 0 (by decide) (List.mem_of_getElem? (i := 1) rfl) rfl (v := .ref (b 1)) rfl dX6_guard_44 ?_
        refine lv_iconst (v := nI 2) hz.1 hz.2.1 dX6_guard_47 (by decide) ?_
        refine lv_dup2_11 hz.1 hz.2.1 dX6_guard_48 rfl rfl ?_
        refine rald hz hK hP 1 0 rfl rfl (i := 2) (by omega) (by decide) (v := nI (G 0 2)) rfl dX6_guard_49 ?_
        refine lv_iconst (v := nI 1) hz.1 hz.2.1 dX6_guard_50 (by decide) ?_
        refine lv_iload_n hz.1 hz.2.1 dX6_guard_51 rfl (lv_at hl 1 rfl) ?_
        refine lv_ishl hz.1 hz.2.1 dX6_guard_52 ?_
        refine toe (z := nI (2 ^ p)) (nI_shl1 (by omega)) ?_
        refine lv_ixor hz.1 hz.2.1 dX6_guard_53 ?_
        refine toe (z := nI ((G 0 2) ^^^ (2 ^ p))) (fb_xorI _ _) ?_
        refine rast hz hK hP hD hS 1 0 rfl rfl (i := 2) (v := ((G 0 2) ^^^ (2 ^ p))) (by omega) (by decide) dX6_guard_54 (fun H locs hP hS => ?_)
        have hP : va_P D vwCl (mw b k I J (gset G 0 (nset (G 0) 2 ((G 0 2) ^^^ (2 ^ p))))) H := hP
        have hD := mw_D (I' := I) (J' := J) (G' := gset G 0 (nset (G 0) 2 ((G 0 2) ^^^ (2 ^ p)))) hD
        refine lv_iconst (v := nI 1) hz.1 hz.2.1 dX6_guard_55 (by decide) ?_
        exact wr_iret hz hr hlk dX6_guard_56 hS (()) hP (rfl)
      · exfalso; rw [Nat.testBit_eq_decide_div_mod_eq] at hb; revert c_35; cases t <;> simp [bI, c_26] at hb ⊢ <;> decide
  · exact absurd ((wIn_ok (by omega) (by omega) (by omega)).symm.trans c_5) (by decide)

set_option maxHeartbeats 4000000 in
set_option maxRecDepth 100000 in
theorem c6_guard_no (l_ : Launch) (D : va_G) (k : Nat → ClassId) (b I J : Nat → Nat) (G : Nat → Nat → Nat) (p : Nat) (t : Bool) (hf : Wf (G 0)) (hp : p < G 0 0) (hb : (G 0 2).testBit p = t) : Met l_ yX6_guard wsX6_guard ({ frames := 2, cells := 0, slots := 0, locals := 46 }) (va_Pc [.ref (b 0), .int (nI p), .int (bI t)] (wH YT D k (mw b k I J G))) (va_Qi (fun (r : Int32) (u : Unit) => r = -3) (fun (u : Unit) (t_ : State) => va_P D vwCl ((fun (_ : Unit) => mw b k I J (gset G 3 (sRef (G 3) 1))) u) t_.heap) (wA (mw b k I J G))) 0 0 (wA (mw b k I J G)) := by
  refine my_entry (cc := cX6_guard) (maxL := 3) (ret := some .int) (by decide) rfl (Nat.le_of_ble_eq_true rfl) ?_
  intro p_ e_ s_ m_ bl_ me_ c_ hz hr hlk hB ls hl
  obtain ⟨hP, hK, hD0, -⟩ := hB
  have hD := wA.self hD0
  have hS : va_S (wA (mw b k I J G)) s_.heap s_.heap [] := va_S.rf
  have hl : lv_has ls 3 [(0, .ref (b 0)), (1, .int (nI p)), (2, .int (bI t))] := hl
  have f0 := hf.n2
  have f1 := hf.n9
  have f2 := hf.fr
  have f3 := hf.gd
  refine lv_aload_n hz.1 hz.2.1 dX6_guard_0 rfl (lv_at hl 0 rfl) ?_
  refine lv_iload_n hz.1 hz.2.1 dX6_guard_1 rfl (lv_at hl 1 rfl) ?_
  refine rdV (A := wA (mw b k I J G)) (As := [.int (nI p)]) (rest := []) hz okYT (c6_isPost l_ D k b I J G (nI p) hf) (cwV 1 hz.2.2.2.2 gX6_guard_X6_isPost rfl rfl rfl (by decide +kernel) ⟨Nat.le_of_ble_eq_true rfl, Nat.le_of_ble_eq_true rfl⟩) hK trivial hP hD hS 0 6 rfl rfl rfl rfl hl.1 rfl (Nat.le_of_ble_eq_true rfl) dX6_guard_2 ⟨Nat.zero_le _, Nat.zero_le _⟩ ?_
  refine zne (tgt := 15) hz dX6_guard_5 (by decide) (fun c_5 => ?_) (fun c_5 => ?_)
  · refine lv_aload_n hz.1 hz.2.1 dX6_guard_15 rfl (lv_at hl 0 rfl) ?_
    refine rg hz hinX6_guard hK hP 0 rfl rfl 0 (by decide) (List.mem_of_getElem? (i := 1) rfl) rfl (v := .ref (b 1)) rfl dX6_guard_16 ?_
    refine lv_iconst (v := nI 2) hz.1 hz.2.1 dX6_guard_19 (by decide) ?_
    refine rald hz hK hP 1 0 rfl rfl (i := 2) (by omega) (by decide) (v := nI (G 0 2)) rfl dX6_guard_20 ?_
    refine lv_iload_n hz.1 hz.2.1 dX6_guard_21 rfl (lv_at hl 1 rfl) ?_
    refine lv_ishr hz.1 hz.2.1 dX6_guard_22 ?_
    refine toe (z := nI ((G 0 2) / 2 ^ p)) (nI_shr (by omega) (by omega)) ?_
    refine lv_iconst (v := nI 1) hz.1 hz.2.1 dX6_guard_23 (by decide) ?_
    refine lv_iand hz.1 hz.2.1 dX6_guard_24 ?_
    refine toe (z := nI (((G 0 2) / 2 ^ p) % 2)) (nI_and1 _) ?_
    refine lv_iconst (v := nI 1) hz.1 hz.2.1 dX6_guard_25 (by decide) ?_
    refine jne (tgt := 33) hz dX6_guard_26 (by decide) (by omega) (by omega) (fun c_26 => ?_) (fun c_26 => ?_)
    · refine lv_iconst (v := nI 0) hz.1 hz.2.1 dX6_guard_33 (by decide) ?_
      refine lv_iload_n hz.1 hz.2.1 dX6_guard_34 rfl (lv_at hl 2 rfl) ?_
      refine lv_icmp_ne (tgt := 43) hz.1 hz.2.1 dX6_guard_35 (by decide) (fun c_35 => ?_) (fun c_35 => ?_)
      · exfalso; rw [Nat.testBit_eq_decide_div_mod_eq] at hb; revert c_35; cases t <;> simp [bI, c_26] at hb ⊢ <;> decide
      · refine lv_aload_n hz.1 hz.2.1 dX6_guard_38 rfl (lv_at hl 0 rfl) ?_
        refine wrV (A := wA (mw b k I J G)) (As := []) (rest := []) hz okYT (c6_no l_ D k b I J G  ) (cwV 0 hz.2.2.2.2 gX6_guard_X6_no rfl rfl rfl (by decide +kernel) ⟨Nat.le_of_ble_eq_true rfl, Nat.le_of_ble_eq_true rfl⟩) hK trivial hP hD hS 0 6 rfl rfl rfl rfl hl.1 rfl (Nat.le_of_ble_eq_true rfl) dX6_guard_39 ⟨Nat.zero_le _, Nat.zero_le _⟩ (fun r u H locs hp hP hS _ => ?_)
        obtain rfl : r = -3 := hp
        have hP : va_P D vwCl (mw b k I J (gset G 3 (sRef (G 3) 1))) H := hP
        have hD := mw_D (I' := I) (J' := J) (G' := gset G 3 (sRef (G 3) 1)) hD
        exact wr_iret hz hr hlk dX6_guard_42 hS (()) hP (rfl)
    · refine lv_iconst (v := nI 1) hz.1 hz.2.1 dX6_guard_29 (by decide) ?_
      refine lv_goto (tgt := 34) hz.1 hz.2.1 dX6_guard_30 (by decide) ?_
      refine lv_iload_n hz.1 hz.2.1 dX6_guard_34 rfl (lv_at hl 2 rfl) ?_
      refine lv_icmp_ne (tgt := 43) hz.1 hz.2.1 dX6_guard_35 (by decide) (fun c_35 => ?_) (fun c_35 => ?_)
      · exfalso; rw [Nat.testBit_eq_decide_div_mod_eq] at hb; revert c_35; cases t <;> simp [bI, c_26] at hb ⊢ <;> decide
      · refine lv_aload_n hz.1 hz.2.1 dX6_guard_38 rfl (lv_at hl 0 rfl) ?_
        refine wrV (A := wA (mw b k I J G)) (As := []) (rest := []) hz okYT (c6_no l_ D k b I J G  ) (cwV 0 hz.2.2.2.2 gX6_guard_X6_no rfl rfl rfl (by decide +kernel) ⟨Nat.le_of_ble_eq_true rfl, Nat.le_of_ble_eq_true rfl⟩) hK trivial hP hD hS 0 6 rfl rfl rfl rfl hl.1 rfl (Nat.le_of_ble_eq_true rfl) dX6_guard_39 ⟨Nat.zero_le _, Nat.zero_le _⟩ (fun r u H locs hp hP hS _ => ?_)
        obtain rfl : r = -3 := hp
        have hP : va_P D vwCl (mw b k I J (gset G 3 (sRef (G 3) 1))) H := hP
        have hD := mw_D (I' := I) (J' := J) (G' := gset G 3 (sRef (G 3) 1)) hD
        exact wr_iret hz hr hlk dX6_guard_42 hS (()) hP (rfl)
  · exact absurd ((wIn_ok (by omega) (by omega) (by omega)).symm.trans c_5) (by decide)

theorem hinX6_wind : ∀ w ∈ wsX60, w ∈ wsX6_wind := fun _ h => List.mem_cons_of_mem _ (List.mem_append_right _ h)
set_option maxHeartbeats 4000000 in
set_option maxRecDepth 100000 in
theorem c6_wind_bad (l_ : Launch) (D : va_G) (k : Nat → ClassId) (b I J : Nat → Nat) (G : Nat → Nat → Nat) (x1 x2 : Int32) (hf : Wf (G 0)) (hb : (wIn x1 0 59 && wIn x2 0 (G 0 0 - 1 - 1)) = false) : Met l_ yX6_wind wsX6_wind ({ frames := 2, cells := 0, slots := 0, locals := 46 }) (va_Pc [.ref (b 0), .int x1, .int x2] (wH YT D k (mw b k I J G))) (va_Qi (fun (r : Int32) (u : Unit) => r = -2) (fun (u : Unit) (t_ : State) => va_P D vwCl ((fun (_ : Unit) => mw b k I J (gset G 3 (sRef (G 3) 0))) u) t_.heap) (wA (mw b k I J G))) 0 0 (wA (mw b k I J G)) := by
  refine my_entry (cc := cX6_wind) (maxL := 3) (ret := some .int) (by decide) rfl (Nat.le_of_ble_eq_true rfl) ?_
  intro p_ e_ s_ m_ bl_ me_ c_ hz hr hlk hB ls hl
  obtain ⟨hP, hK, hD0, -⟩ := hB
  have hD := wA.self hD0
  have hS : va_S (wA (mw b k I J G)) s_.heap s_.heap [] := va_S.rf
  have hl : lv_has ls 3 [(0, .ref (b 0)), (1, .int x1), (2, .int x2)] := hl
  have f0 := hf.n2
  have f1 := hf.n9
  have f2 := hf.fr
  have f3 := hf.gd
  refine lv_iload_n hz.1 hz.2.1 dX6_wind_0 rfl (lv_at hl 1 rfl) ?_
  refine rdS (As := [.int x1]) (rest := []) hz (c6_isMinute l_ x1 ) rfl (va_cwS 1 hz.2.2.2.2 gX6_wind_X6_isMinute rfl rfl rfl (by decide +kernel) ⟨Nat.le_of_ble_eq_true rfl, Nat.le_of_ble_eq_true rfl⟩) rfl hl.1 rfl (Nat.le_of_ble_eq_true rfl) dX6_wind_1 ⟨Nat.zero_le _, Nat.zero_le _⟩ ?_
  refine zeq (tgt := 15) hz dX6_wind_4 (by decide) (fun c_4 => ?_) (fun c_4 => ?_)
  · refine lv_aload_n hz.1 hz.2.1 dX6_wind_15 rfl (lv_at hl 0 rfl) ?_
    refine lv_bipush (v := (-2)) hz.1 hz.2.1 dX6_wind_16 (by decide) ?_
    refine wrV (A := wA (mw b k I J G)) (As := [.int (-2)]) (rest := []) hz okYT (c6_bad l_ D k b I J G (-2) ) (cwV 1 hz.2.2.2.2 gX6_wind_X6_bad rfl rfl rfl (by decide +kernel) ⟨Nat.le_of_ble_eq_true rfl, Nat.le_of_ble_eq_true rfl⟩) hK trivial hP hD hS 0 6 rfl rfl rfl rfl hl.1 rfl (Nat.le_of_ble_eq_true rfl) dX6_wind_18 ⟨Nat.zero_le _, Nat.zero_le _⟩ (fun r u H locs hp hP hS _ => ?_)
    obtain rfl : r = -2 := hp
    have hP : va_P D vwCl (mw b k I J (gset G 3 (sRef (G 3) 0))) H := hP
    have hD := mw_D (I' := I) (J' := J) (G' := gset G 3 (sRef (G 3) 0)) hD
    exact wr_iret hz hr hlk dX6_wind_21 hS (()) hP (rfl)
  · refine lv_aload_n hz.1 hz.2.1 dX6_wind_7 rfl (lv_at hl 0 rfl) ?_
    refine lv_iload_n hz.1 hz.2.1 dX6_wind_8 rfl (lv_at hl 2 rfl) ?_
    refine rdV (A := wA (mw b k I J G)) (As := [.int x2]) (rest := []) hz okYT (c6_isWire l_ D k b I J G x2 hf) (cwV 1 hz.2.2.2.2 gX6_wind_X6_isWire rfl rfl rfl (by decide +kernel) ⟨Nat.le_of_ble_eq_true rfl, Nat.le_of_ble_eq_true rfl⟩) hK trivial hP hD hS 0 6 rfl rfl rfl rfl hl.1 rfl (Nat.le_of_ble_eq_true rfl) dX6_wind_9 ⟨Nat.zero_le _, Nat.zero_le _⟩ ?_
    refine zne (tgt := 22) hz dX6_wind_12 (by decide) (fun c_12 => ?_) (fun c_12 => ?_)
    · simp [c_4, c_12] at hb
    · refine lv_aload_n hz.1 hz.2.1 dX6_wind_15 rfl (lv_at hl 0 rfl) ?_
      refine lv_bipush (v := (-2)) hz.1 hz.2.1 dX6_wind_16 (by decide) ?_
      refine wrV (A := wA (mw b k I J G)) (As := [.int (-2)]) (rest := []) hz okYT (c6_bad l_ D k b I J G (-2) ) (cwV 1 hz.2.2.2.2 gX6_wind_X6_bad rfl rfl rfl (by decide +kernel) ⟨Nat.le_of_ble_eq_true rfl, Nat.le_of_ble_eq_true rfl⟩) hK trivial hP hD hS 0 6 rfl rfl rfl rfl hl.1 rfl (Nat.le_of_ble_eq_true rfl) dX6_wind_18 ⟨Nat.zero_le _, Nat.zero_le _⟩ (fun r u H locs hp hP hS _ => ?_)
      obtain rfl : r = -2 := hp
      have hP : va_P D vwCl (mw b k I J (gset G 3 (sRef (G 3) 0))) H := hP
      have hD := mw_D (I' := I) (J' := J) (G' := gset G 3 (sRef (G 3) 0)) hD
      exact wr_iret hz hr hlk dX6_wind_21 hS (()) hP (rfl)

set_option maxHeartbeats 4000000 in
set_option maxRecDepth 100000 in
theorem c6_wind_ok (l_ : Launch) (D : va_G) (k : Nat → ClassId) (b I J : Nat → Nat) (G : Nat → Nat → Nat) (mn w : Nat) (hf : Wf (G 0)) (h1 : mn < 60) (h2 : w < G 0 0 - 1) (h3 : G 0 19 < 6) : Met l_ yX6_wind wsX6_wind ({ frames := 2, cells := 0, slots := 0, locals := 46 }) (va_Pc [.ref (b 0), .int (nI mn), .int (nI w)] (wH YT D k (mw b k I J G))) (va_Qi (fun (r : Int32) (u : Unit) => r = nI (G 0 19)) (fun (u : Unit) (t_ : State) => va_P D vwCl ((fun (_ : Unit) => mw b k I J (gset G 0 (sAddWind (G 0) mn w))) u) t_.heap) (wA (mw b k I J G))) 0 0 (wA (mw b k I J G)) := by
  refine my_entry (cc := cX6_wind) (maxL := 3) (ret := some .int) (by decide) rfl (Nat.le_of_ble_eq_true rfl) ?_
  intro p_ e_ s_ m_ bl_ me_ c_ hz hr hlk hB ls hl
  obtain ⟨hP, hK, hD0, -⟩ := hB
  have hD := wA.self hD0
  have hS : va_S (wA (mw b k I J G)) s_.heap s_.heap [] := va_S.rf
  have hl : lv_has ls 3 [(0, .ref (b 0)), (1, .int (nI mn)), (2, .int (nI w))] := hl
  have f0 := hf.n2
  have f1 := hf.n9
  have f2 := hf.fr
  have f3 := hf.gd
  have f5 := hf.wc
  refine lv_iload_n hz.1 hz.2.1 dX6_wind_0 rfl (lv_at hl 1 rfl) ?_
  refine rdS (As := [.int (nI mn)]) (rest := []) hz (c6_isMinute l_ (nI mn) ) rfl (va_cwS 1 hz.2.2.2.2 gX6_wind_X6_isMinute rfl rfl rfl (by decide +kernel) ⟨Nat.le_of_ble_eq_true rfl, Nat.le_of_ble_eq_true rfl⟩) rfl hl.1 rfl (Nat.le_of_ble_eq_true rfl) dX6_wind_1 ⟨Nat.zero_le _, Nat.zero_le _⟩ ?_
  refine zeq (tgt := 15) hz dX6_wind_4 (by decide) (fun c_4 => ?_) (fun c_4 => ?_)
  · exact absurd ((wIn_ok (by omega) (by omega) (by omega)).symm.trans c_4) (by decide)
  · refine lv_aload_n hz.1 hz.2.1 dX6_wind_7 rfl (lv_at hl 0 rfl) ?_
    refine lv_iload_n hz.1 hz.2.1 dX6_wind_8 rfl (lv_at hl 2 rfl) ?_
    refine rdV (A := wA (mw b k I J G)) (As := [.int (nI w)]) (rest := []) hz okYT (c6_isWire l_ D k b I J G (nI w) hf) (cwV 1 hz.2.2.2.2 gX6_wind_X6_isWire rfl rfl rfl (by decide +kernel) ⟨Nat.le_of_ble_eq_true rfl, Nat.le_of_ble_eq_true rfl⟩) hK trivial hP hD hS 0 6 rfl rfl rfl rfl hl.1 rfl (Nat.le_of_ble_eq_true rfl) dX6_wind_9 ⟨Nat.zero_le _, Nat.zero_le _⟩ ?_
    refine zne (tgt := 22) hz dX6_wind_12 (by decide) (fun c_12 => ?_) (fun c_12 => ?_)
    · refine lv_aload_n hz.1 hz.2.1 dX6_wind_22 rfl (lv_at hl 0 rfl) ?_
      refine rg hz hinX6_wind hK hP 0 rfl rfl 0 (by decide) (List.mem_of_getElem? (i := 1) rfl) rfl (v := .ref (b 1)) rfl dX6_wind_23 ?_
      refine lv_bipush (v := nI 19) hz.1 hz.2.1 dX6_wind_26 (by decide) ?_
      refine rald hz hK hP 1 0 rfl rfl (i := 19) (by omega) (by decide) (v := nI (G 0 19)) rfl dX6_wind_28 ?_
      refine lv_bipush (v := nI 6) hz.1 hz.2.1 dX6_wind_29 (by decide) ?_
      refine jne (tgt := 39) hz dX6_wind_31 (by decide) (by omega) (by omega) (fun c_31 => ?_) (fun c_31 => ?_)
      · refine lv_aload_n hz.1 hz.2.1 dX6_wind_39 rfl (lv_at hl 0 rfl) ?_
        refine rg hz hinX6_wind hK hP 0 rfl rfl 0 (by decide) (List.mem_of_getElem? (i := 1) rfl) rfl (v := .ref (b 1)) rfl dX6_wind_40 ?_
        refine lv_iload_n hz.1 hz.2.1 dX6_wind_43 rfl (lv_at hl 1 rfl) ?_
        refine lv_iload_n hz.1 hz.2.1 dX6_wind_44 rfl (lv_at hl 2 rfl) ?_
        refine wrSv (A := wA (mw b k I J G)) (As := [.ref (b 1), .int (nI mn), .int (nI w)]) (rest := []) hz okYT (c6_layWind_now l_ D k b I J G mn w (show G 0 19 < 6 by omega)) (va_cwS 3 hz.2.2.2.2 gX6_wind_X6_layWind rfl rfl rfl (by decide +kernel) ⟨Nat.le_of_ble_eq_true rfl, Nat.le_of_ble_eq_true rfl⟩) hK trivial hP hD hS rfl hl.1 rfl (Nat.le_of_ble_eq_true rfl) dX6_wind_45 ⟨Nat.zero_le _, Nat.zero_le _⟩ (fun u H locs hp hP hS _ => ?_)
        have hP : va_P D vwCl (mw b k I J (gset G 0 (sAddWind (G 0) mn w))) H := hP
        have hD := mw_D (I' := I) (J' := J) (G' := gset G 0 (sAddWind (G 0) mn w)) hD
        refine lv_aload_n hz.1 hz.2.1 dX6_wind_48 rfl (lv_at hl 0 rfl) ?_
        refine rg hz hinX6_wind hK hP 0 rfl rfl 0 (by decide) (List.mem_of_getElem? (i := 1) rfl) rfl (v := .ref (b 1)) rfl dX6_wind_49 ?_
        refine lv_bipush (v := nI 19) hz.1 hz.2.1 dX6_wind_52 (by decide) ?_
        refine rald hz hK hP 1 0 rfl rfl (i := 19) (by omega) (by decide) (v := nI ((sAddWind (G 0) mn w) 19)) rfl dX6_wind_54 ?_
        refine toe (z := nI (G 0 19 + 1)) (rfl) ?_
        refine lv_iconst (v := nI 1) hz.1 hz.2.1 dX6_wind_55 (by decide) ?_
        refine lv_isub hz.1 hz.2.1 dX6_wind_56 ?_
        refine toe (z := nI (G 0 19)) (pk_sub (a := G 0 19 + 1) (b := 1) (by omega)) ?_
        exact wr_iret hz hr hlk dX6_wind_57 hS (()) hP (rfl)
      · exact absurd c_31 (by omega)
    · exact absurd ((wIn_ok (by omega) (by omega) (by omega)).symm.trans c_12) (by decide)

set_option maxHeartbeats 4000000 in
set_option maxRecDepth 100000 in
theorem c6_wind_full (l_ : Launch) (D : va_G) (k : Nat → ClassId) (b I J : Nat → Nat) (G : Nat → Nat → Nat) (mn w : Nat) (hf : Wf (G 0)) (h1 : mn < 60) (h2 : w < G 0 0 - 1) (h3 : G 0 19 = 6) : Met l_ yX6_wind wsX6_wind ({ frames := 2, cells := 0, slots := 0, locals := 46 }) (va_Pc [.ref (b 0), .int (nI mn), .int (nI w)] (wH YT D k (mw b k I J G))) (va_Qi (fun (r : Int32) (u : Unit) => r = -4) (fun (u : Unit) (t_ : State) => va_P D vwCl ((fun (_ : Unit) => mw b k I J (gset G 3 (sRef (G 3) 2))) u) t_.heap) (wA (mw b k I J G))) 0 0 (wA (mw b k I J G)) := by
  refine my_entry (cc := cX6_wind) (maxL := 3) (ret := some .int) (by decide) rfl (Nat.le_of_ble_eq_true rfl) ?_
  intro p_ e_ s_ m_ bl_ me_ c_ hz hr hlk hB ls hl
  obtain ⟨hP, hK, hD0, -⟩ := hB
  have hD := wA.self hD0
  have hS : va_S (wA (mw b k I J G)) s_.heap s_.heap [] := va_S.rf
  have hl : lv_has ls 3 [(0, .ref (b 0)), (1, .int (nI mn)), (2, .int (nI w))] := hl
  have f0 := hf.n2
  have f1 := hf.n9
  have f2 := hf.fr
  have f3 := hf.gd
  have f5 := hf.wc
  refine lv_iload_n hz.1 hz.2.1 dX6_wind_0 rfl (lv_at hl 1 rfl) ?_
  refine rdS (As := [.int (nI mn)]) (rest := []) hz (c6_isMinute l_ (nI mn) ) rfl (va_cwS 1 hz.2.2.2.2 gX6_wind_X6_isMinute rfl rfl rfl (by decide +kernel) ⟨Nat.le_of_ble_eq_true rfl, Nat.le_of_ble_eq_true rfl⟩) rfl hl.1 rfl (Nat.le_of_ble_eq_true rfl) dX6_wind_1 ⟨Nat.zero_le _, Nat.zero_le _⟩ ?_
  refine zeq (tgt := 15) hz dX6_wind_4 (by decide) (fun c_4 => ?_) (fun c_4 => ?_)
  · exact absurd ((wIn_ok (by omega) (by omega) (by omega)).symm.trans c_4) (by decide)
  · refine lv_aload_n hz.1 hz.2.1 dX6_wind_7 rfl (lv_at hl 0 rfl) ?_
    refine lv_iload_n hz.1 hz.2.1 dX6_wind_8 rfl (lv_at hl 2 rfl) ?_
    refine rdV (A := wA (mw b k I J G)) (As := [.int (nI w)]) (rest := []) hz okYT (c6_isWire l_ D k b I J G (nI w) hf) (cwV 1 hz.2.2.2.2 gX6_wind_X6_isWire rfl rfl rfl (by decide +kernel) ⟨Nat.le_of_ble_eq_true rfl, Nat.le_of_ble_eq_true rfl⟩) hK trivial hP hD hS 0 6 rfl rfl rfl rfl hl.1 rfl (Nat.le_of_ble_eq_true rfl) dX6_wind_9 ⟨Nat.zero_le _, Nat.zero_le _⟩ ?_
    refine zne (tgt := 22) hz dX6_wind_12 (by decide) (fun c_12 => ?_) (fun c_12 => ?_)
    · refine lv_aload_n hz.1 hz.2.1 dX6_wind_22 rfl (lv_at hl 0 rfl) ?_
      refine rg hz hinX6_wind hK hP 0 rfl rfl 0 (by decide) (List.mem_of_getElem? (i := 1) rfl) rfl (v := .ref (b 1)) rfl dX6_wind_23 ?_
      refine lv_bipush (v := nI 19) hz.1 hz.2.1 dX6_wind_26 (by decide) ?_
      refine rald hz hK hP 1 0 rfl rfl (i := 19) (by omega) (by decide) (v := nI (G 0 19)) rfl dX6_wind_28 ?_
      refine lv_bipush (v := nI 6) hz.1 hz.2.1 dX6_wind_29 (by decide) ?_
      refine jne (tgt := 39) hz dX6_wind_31 (by decide) (by omega) (by omega) (fun c_31 => ?_) (fun c_31 => ?_)
      · exact absurd c_31 (by omega)
      · refine lv_aload_n hz.1 hz.2.1 dX6_wind_34 rfl (lv_at hl 0 rfl) ?_
        refine wrV (A := wA (mw b k I J G)) (As := []) (rest := []) hz okYT (c6_full l_ D k b I J G  ) (cwV 0 hz.2.2.2.2 gX6_wind_X6_full rfl rfl rfl (by decide +kernel) ⟨Nat.le_of_ble_eq_true rfl, Nat.le_of_ble_eq_true rfl⟩) hK trivial hP hD hS 0 6 rfl rfl rfl rfl hl.1 rfl (Nat.le_of_ble_eq_true rfl) dX6_wind_35 ⟨Nat.zero_le _, Nat.zero_le _⟩ (fun r u H locs hp hP hS _ => ?_)
        obtain rfl : r = -4 := hp
        have hP : va_P D vwCl (mw b k I J (gset G 3 (sRef (G 3) 2))) H := hP
        have hD := mw_D (I' := I) (J' := J) (G' := gset G 3 (sRef (G 3) 2)) hD
        exact wr_iret hz hr hlk dX6_wind_38 hS (()) hP (rfl)
    · exact absurd ((wIn_ok (by omega) (by omega) (by omega)).symm.trans c_12) (by decide)

theorem hinX6_calm : ∀ w ∈ wsX60, w ∈ wsX6_calm := fun _ h => List.mem_cons_of_mem _ (List.mem_append_right _ h)
set_option maxHeartbeats 4000000 in
set_option maxRecDepth 100000 in
theorem c6_calm (l_ : Launch) (D : va_G) (k : Nat → ClassId) (b I J : Nat → Nat) (G : Nat → Nat → Nat)   : Met l_ yX6_calm wsX6_calm ({ frames := 0, cells := 0, slots := 0, locals := 0 }) (va_Pc [.ref (b 0)] (wH YT D k (mw b k I J G))) (va_Qi (fun (r : Int32) (u : Unit) => r = nI (G 0 19)) (fun (u : Unit) (t_ : State) => va_P D vwCl ((fun (_ : Unit) => mw b k I J (gset G 0 (nset (G 0) 19 0))) u) t_.heap) (wA (mw b k I J G))) 0 0 (wA (mw b k I J G)) := by
  refine my_entry (cc := cX6_calm) (maxL := 2) (ret := some .int) (by decide) rfl (Nat.le_of_ble_eq_true rfl) ?_
  intro p_ e_ s_ m_ bl_ me_ c_ hz hr hlk hB ls hl
  obtain ⟨hP, hK, hD0, -⟩ := hB
  have hD := wA.self hD0
  have hS : va_S (wA (mw b k I J G)) s_.heap s_.heap [] := va_S.rf
  have hl : lv_has ls 2 [(0, .ref (b 0))] := hl
  refine lv_aload_n hz.1 hz.2.1 dX6_calm_0 rfl (lv_at hl 0 rfl) ?_
  refine rg hz hinX6_calm hK hP 0 rfl rfl 0 (by decide) (List.mem_of_getElem? (i := 1) rfl) rfl (v := .ref (b 1)) rfl dX6_calm_1 ?_
  refine lv_bipush (v := nI 19) hz.1 hz.2.1 dX6_calm_4 (by decide) ?_
  refine rald hz hK hP 1 0 rfl rfl (i := 19) (by omega) (by decide) (v := nI (G 0 19)) rfl dX6_calm_6 ?_
  refine lv_istore_n (lv' := [(1, .int (nI (G 0 19))), (0, .ref (b 0))]) hz.1 hz.2.1 dX6_calm_7 rfl hl (by decide) rfl (fun ls hl => ?_)
  refine lv_aload_n hz.1 hz.2.1 dX6_calm_8 rfl (lv_at hl 1 rfl) ?_
  refine rg hz hinX6_calm hK hP 0 rfl rfl 0 (by decide) (List.mem_of_getElem? (i := 1) rfl) rfl (v := .ref (b 1)) rfl dX6_calm_9 ?_
  refine lv_bipush (v := nI 19) hz.1 hz.2.1 dX6_calm_12 (by decide) ?_
  refine lv_iconst (v := nI 0) hz.1 hz.2.1 dX6_calm_14 (by decide) ?_
  refine rast hz hK hP hD hS 1 0 rfl rfl (i := 19) (v := 0) (by omega) (by decide) dX6_calm_15 (fun H locs hP hS => ?_)
  have hP : va_P D vwCl (mw b k I J (gset G 0 (nset (G 0) 19 0))) H := hP
  have hD := mw_D (I' := I) (J' := J) (G' := gset G 0 (nset (G 0) 19 0)) hD
  refine lv_iload_n hz.1 hz.2.1 dX6_calm_16 rfl (lv_at hl 0 rfl) ?_
  exact wr_iret hz hr hlk dX6_calm_17 hS (()) hP (rfl)

theorem hinX6_pass : ∀ w ∈ wsX60, w ∈ wsX6_pass := fun _ h => List.mem_cons_of_mem _ (List.mem_append_right _ h)
set_option maxHeartbeats 4000000 in
set_option maxRecDepth 100000 in
theorem c6_pass_bad (l_ : Launch) (D : va_G) (k : Nat → ClassId) (b I J : Nat → Nat) (G : Nat → Nat → Nat) (x1 x2 x3 : Int32) (hf : Wf (G 0)) (hb : (wIn x1 0 59 && wIn x2 0 (G 0 0 - 1 - 1) && wIn x3 0 3) = false) : Met l_ yX6_pass wsX6_pass ({ frames := 2, cells := 0, slots := 0, locals := 46 }) (va_Pc [.ref (b 0), .int x1, .int x2, .int x3] (wH YT D k (mw b k I J G))) (va_Qi (fun (r : Int32) (u : Unit) => r = -2) (fun (u : Unit) (t_ : State) => va_P D vwCl ((fun (_ : Unit) => mw b k I J (gset G 3 (sRef (G 3) 0))) u) t_.heap) (wA (mw b k I J G))) 0 0 (wA (mw b k I J G)) := by
  refine my_entry (cc := cX6_pass) (maxL := 4) (ret := some .int) (by decide) rfl (Nat.le_of_ble_eq_true rfl) ?_
  intro p_ e_ s_ m_ bl_ me_ c_ hz hr hlk hB ls hl
  obtain ⟨hP, hK, hD0, -⟩ := hB
  have hD := wA.self hD0
  have hS : va_S (wA (mw b k I J G)) s_.heap s_.heap [] := va_S.rf
  have hl : lv_has ls 4 [(0, .ref (b 0)), (1, .int x1), (2, .int x2), (3, .int x3)] := hl
  have f0 := hf.n2
  have f1 := hf.n9
  have f2 := hf.fr
  have f3 := hf.gd
  refine lv_iload_n hz.1 hz.2.1 dX6_pass_0 rfl (lv_at hl 1 rfl) ?_
  refine rdS (As := [.int x1]) (rest := []) hz (c6_isMinute l_ x1 ) rfl (va_cwS 1 hz.2.2.2.2 gX6_pass_X6_isMinute rfl rfl rfl (by decide +kernel) ⟨Nat.le_of_ble_eq_true rfl, Nat.le_of_ble_eq_true rfl⟩) rfl hl.1 rfl (Nat.le_of_ble_eq_true rfl) dX6_pass_1 ⟨Nat.zero_le _, Nat.zero_le _⟩ ?_
  refine zeq (tgt := 22) hz dX6_pass_4 (by decide) (fun c_4 => ?_) (fun c_4 => ?_)
  · refine lv_aload_n hz.1 hz.2.1 dX6_pass_22 rfl (lv_at hl 0 rfl) ?_
    refine lv_bipush (v := (-2)) hz.1 hz.2.1 dX6_pass_23 (by decide) ?_
    refine wrV (A := wA (mw b k I J G)) (As := [.int (-2)]) (rest := []) hz okYT (c6_bad l_ D k b I J G (-2) ) (cwV 1 hz.2.2.2.2 gX6_pass_X6_bad rfl rfl rfl (by decide +kernel) ⟨Nat.le_of_ble_eq_true rfl, Nat.le_of_ble_eq_true rfl⟩) hK trivial hP hD hS 0 6 rfl rfl rfl rfl hl.1 rfl (Nat.le_of_ble_eq_true rfl) dX6_pass_25 ⟨Nat.zero_le _, Nat.zero_le _⟩ (fun r u H locs hp hP hS _ => ?_)
    obtain rfl : r = -2 := hp
    have hP : va_P D vwCl (mw b k I J (gset G 3 (sRef (G 3) 0))) H := hP
    have hD := mw_D (I' := I) (J' := J) (G' := gset G 3 (sRef (G 3) 0)) hD
    exact wr_iret hz hr hlk dX6_pass_28 hS (()) hP (rfl)
  · refine lv_aload_n hz.1 hz.2.1 dX6_pass_7 rfl (lv_at hl 0 rfl) ?_
    refine lv_iload_n hz.1 hz.2.1 dX6_pass_8 rfl (lv_at hl 2 rfl) ?_
    refine rdV (A := wA (mw b k I J G)) (As := [.int x2]) (rest := []) hz okYT (c6_isWire l_ D k b I J G x2 hf) (cwV 1 hz.2.2.2.2 gX6_pass_X6_isWire rfl rfl rfl (by decide +kernel) ⟨Nat.le_of_ble_eq_true rfl, Nat.le_of_ble_eq_true rfl⟩) hK trivial hP hD hS 0 6 rfl rfl rfl rfl hl.1 rfl (Nat.le_of_ble_eq_true rfl) dX6_pass_9 ⟨Nat.zero_le _, Nat.zero_le _⟩ ?_
    refine zeq (tgt := 22) hz dX6_pass_12 (by decide) (fun c_12 => ?_) (fun c_12 => ?_)
    · refine lv_aload_n hz.1 hz.2.1 dX6_pass_22 rfl (lv_at hl 0 rfl) ?_
      refine lv_bipush (v := (-2)) hz.1 hz.2.1 dX6_pass_23 (by decide) ?_
      refine wrV (A := wA (mw b k I J G)) (As := [.int (-2)]) (rest := []) hz okYT (c6_bad l_ D k b I J G (-2) ) (cwV 1 hz.2.2.2.2 gX6_pass_X6_bad rfl rfl rfl (by decide +kernel) ⟨Nat.le_of_ble_eq_true rfl, Nat.le_of_ble_eq_true rfl⟩) hK trivial hP hD hS 0 6 rfl rfl rfl rfl hl.1 rfl (Nat.le_of_ble_eq_true rfl) dX6_pass_25 ⟨Nat.zero_le _, Nat.zero_le _⟩ (fun r u H locs hp hP hS _ => ?_)
      obtain rfl : r = -2 := hp
      have hP : va_P D vwCl (mw b k I J (gset G 3 (sRef (G 3) 0))) H := hP
      have hD := mw_D (I' := I) (J' := J) (G' := gset G 3 (sRef (G 3) 0)) hD
      exact wr_iret hz hr hlk dX6_pass_28 hS (()) hP (rfl)
    · refine lv_iload_n hz.1 hz.2.1 dX6_pass_15 rfl (lv_at hl 3 rfl) ?_
      refine rdS (As := [.int x3]) (rest := []) hz (c6_isStep l_ x3 ) rfl (va_cwS 1 hz.2.2.2.2 gX6_pass_X6_isStep rfl rfl rfl (by decide +kernel) ⟨Nat.le_of_ble_eq_true rfl, Nat.le_of_ble_eq_true rfl⟩) rfl hl.1 rfl (Nat.le_of_ble_eq_true rfl) dX6_pass_16 ⟨Nat.zero_le _, Nat.zero_le _⟩ ?_
      refine zne (tgt := 29) hz dX6_pass_19 (by decide) (fun c_19 => ?_) (fun c_19 => ?_)
      · simp [c_4, c_12, c_19] at hb
      · refine lv_aload_n hz.1 hz.2.1 dX6_pass_22 rfl (lv_at hl 0 rfl) ?_
        refine lv_bipush (v := (-2)) hz.1 hz.2.1 dX6_pass_23 (by decide) ?_
        refine wrV (A := wA (mw b k I J G)) (As := [.int (-2)]) (rest := []) hz okYT (c6_bad l_ D k b I J G (-2) ) (cwV 1 hz.2.2.2.2 gX6_pass_X6_bad rfl rfl rfl (by decide +kernel) ⟨Nat.le_of_ble_eq_true rfl, Nat.le_of_ble_eq_true rfl⟩) hK trivial hP hD hS 0 6 rfl rfl rfl rfl hl.1 rfl (Nat.le_of_ble_eq_true rfl) dX6_pass_25 ⟨Nat.zero_le _, Nat.zero_le _⟩ (fun r u H locs hp hP hS _ => ?_)
        obtain rfl : r = -2 := hp
        have hP : va_P D vwCl (mw b k I J (gset G 3 (sRef (G 3) 0))) H := hP
        have hD := mw_D (I' := I) (J' := J) (G' := gset G 3 (sRef (G 3) 0)) hD
        exact wr_iret hz hr hlk dX6_pass_28 hS (()) hP (rfl)

set_option maxHeartbeats 4000000 in
set_option maxRecDepth 100000 in
theorem c6_pass_ok (l_ : Launch) (D : va_G) (k : Nat → ClassId) (b I J : Nat → Nat) (G : Nat → Nat → Nat) (mn w sp : Nat) (hf : Wf (G 0)) (h1 : mn < 60) (h2 : w < G 0 0 - 1) (h4 : sp ≤ 3) (h3 : G 0 32 < 8) : Met l_ yX6_pass wsX6_pass ({ frames := 2, cells := 0, slots := 0, locals := 46 }) (va_Pc [.ref (b 0), .int (nI mn), .int (nI w), .int (nI sp)] (wH YT D k (mw b k I J G))) (va_Qi (fun (r : Int32) (u : Unit) => r = nI (G 0 32)) (fun (u : Unit) (t_ : State) => va_P D vwCl ((fun (_ : Unit) => mw b k I J (gset G 0 (sAddPass (G 0) mn w sp))) u) t_.heap) (wA (mw b k I J G))) 0 0 (wA (mw b k I J G)) := by
  refine my_entry (cc := cX6_pass) (maxL := 4) (ret := some .int) (by decide) rfl (Nat.le_of_ble_eq_true rfl) ?_
  intro p_ e_ s_ m_ bl_ me_ c_ hz hr hlk hB ls hl
  obtain ⟨hP, hK, hD0, -⟩ := hB
  have hD := wA.self hD0
  have hS : va_S (wA (mw b k I J G)) s_.heap s_.heap [] := va_S.rf
  have hl : lv_has ls 4 [(0, .ref (b 0)), (1, .int (nI mn)), (2, .int (nI w)), (3, .int (nI sp))] := hl
  have f0 := hf.n2
  have f1 := hf.n9
  have f2 := hf.fr
  have f3 := hf.gd
  have f5 := hf.pc
  refine lv_iload_n hz.1 hz.2.1 dX6_pass_0 rfl (lv_at hl 1 rfl) ?_
  refine rdS (As := [.int (nI mn)]) (rest := []) hz (c6_isMinute l_ (nI mn) ) rfl (va_cwS 1 hz.2.2.2.2 gX6_pass_X6_isMinute rfl rfl rfl (by decide +kernel) ⟨Nat.le_of_ble_eq_true rfl, Nat.le_of_ble_eq_true rfl⟩) rfl hl.1 rfl (Nat.le_of_ble_eq_true rfl) dX6_pass_1 ⟨Nat.zero_le _, Nat.zero_le _⟩ ?_
  refine zeq (tgt := 22) hz dX6_pass_4 (by decide) (fun c_4 => ?_) (fun c_4 => ?_)
  · exact absurd ((wIn_ok (by omega) (by omega) (by omega)).symm.trans c_4) (by decide)
  · refine lv_aload_n hz.1 hz.2.1 dX6_pass_7 rfl (lv_at hl 0 rfl) ?_
    refine lv_iload_n hz.1 hz.2.1 dX6_pass_8 rfl (lv_at hl 2 rfl) ?_
    refine rdV (A := wA (mw b k I J G)) (As := [.int (nI w)]) (rest := []) hz okYT (c6_isWire l_ D k b I J G (nI w) hf) (cwV 1 hz.2.2.2.2 gX6_pass_X6_isWire rfl rfl rfl (by decide +kernel) ⟨Nat.le_of_ble_eq_true rfl, Nat.le_of_ble_eq_true rfl⟩) hK trivial hP hD hS 0 6 rfl rfl rfl rfl hl.1 rfl (Nat.le_of_ble_eq_true rfl) dX6_pass_9 ⟨Nat.zero_le _, Nat.zero_le _⟩ ?_
    refine zeq (tgt := 22) hz dX6_pass_12 (by decide) (fun c_12 => ?_) (fun c_12 => ?_)
    · exact absurd ((wIn_ok (by omega) (by omega) (by omega)).symm.trans c_12) (by decide)
    · refine lv_iload_n hz.1 hz.2.1 dX6_pass_15 rfl (lv_at hl 3 rfl) ?_
      refine rdS (As := [.int (nI sp)]) (rest := []) hz (c6_isStep l_ (nI sp) ) rfl (va_cwS 1 hz.2.2.2.2 gX6_pass_X6_isStep rfl rfl rfl (by decide +kernel) ⟨Nat.le_of_ble_eq_true rfl, Nat.le_of_ble_eq_true rfl⟩) rfl hl.1 rfl (Nat.le_of_ble_eq_true rfl) dX6_pass_16 ⟨Nat.zero_le _, Nat.zero_le _⟩ ?_
      refine zne (tgt := 29) hz dX6_pass_19 (by decide) (fun c_19 => ?_) (fun c_19 => ?_)
      · refine lv_aload_n hz.1 hz.2.1 dX6_pass_29 rfl (lv_at hl 0 rfl) ?_
        refine rg hz hinX6_pass hK hP 0 rfl rfl 0 (by decide) (List.mem_of_getElem? (i := 1) rfl) rfl (v := .ref (b 1)) rfl dX6_pass_30 ?_
        refine lv_bipush (v := nI 32) hz.1 hz.2.1 dX6_pass_33 (by decide) ?_
        refine rald hz hK hP 1 0 rfl rfl (i := 32) (by omega) (by decide) (v := nI (G 0 32)) rfl dX6_pass_35 ?_
        refine lv_bipush (v := nI 8) hz.1 hz.2.1 dX6_pass_36 (by decide) ?_
        refine jne (tgt := 46) hz dX6_pass_38 (by decide) (by omega) (by omega) (fun c_38 => ?_) (fun c_38 => ?_)
        · refine lv_aload_n hz.1 hz.2.1 dX6_pass_46 rfl (lv_at hl 0 rfl) ?_
          refine rg hz hinX6_pass hK hP 0 rfl rfl 0 (by decide) (List.mem_of_getElem? (i := 1) rfl) rfl (v := .ref (b 1)) rfl dX6_pass_47 ?_
          refine lv_iload_n hz.1 hz.2.1 dX6_pass_50 rfl (lv_at hl 1 rfl) ?_
          refine lv_iload_n hz.1 hz.2.1 dX6_pass_51 rfl (lv_at hl 2 rfl) ?_
          refine lv_iload_n hz.1 hz.2.1 dX6_pass_52 rfl (lv_at hl 3 rfl) ?_
          refine wrSv (A := wA (mw b k I J G)) (As := [.ref (b 1), .int (nI mn), .int (nI w), .int (nI sp)]) (rest := []) hz okYT (c6_layPass_now l_ D k b I J G mn w sp (show G 0 32 < 8 by omega)) (va_cwS 4 hz.2.2.2.2 gX6_pass_X6_layPass rfl rfl rfl (by decide +kernel) ⟨Nat.le_of_ble_eq_true rfl, Nat.le_of_ble_eq_true rfl⟩) hK trivial hP hD hS rfl hl.1 rfl (Nat.le_of_ble_eq_true rfl) dX6_pass_53 ⟨Nat.zero_le _, Nat.zero_le _⟩ (fun u H locs hp hP hS _ => ?_)
          have hP : va_P D vwCl (mw b k I J (gset G 0 (sAddPass (G 0) mn w sp))) H := hP
          have hD := mw_D (I' := I) (J' := J) (G' := gset G 0 (sAddPass (G 0) mn w sp)) hD
          refine lv_aload_n hz.1 hz.2.1 dX6_pass_56 rfl (lv_at hl 0 rfl) ?_
          refine rg hz hinX6_pass hK hP 0 rfl rfl 0 (by decide) (List.mem_of_getElem? (i := 1) rfl) rfl (v := .ref (b 1)) rfl dX6_pass_57 ?_
          refine lv_bipush (v := nI 32) hz.1 hz.2.1 dX6_pass_60 (by decide) ?_
          refine rald hz hK hP 1 0 rfl rfl (i := 32) (by omega) (by decide) (v := nI ((sAddPass (G 0) mn w sp) 32)) rfl dX6_pass_62 ?_
          refine toe (z := nI (G 0 32 + 1)) (rfl) ?_
          refine lv_iconst (v := nI 1) hz.1 hz.2.1 dX6_pass_63 (by decide) ?_
          refine lv_isub hz.1 hz.2.1 dX6_pass_64 ?_
          refine toe (z := nI (G 0 32)) (pk_sub (a := G 0 32 + 1) (b := 1) (by omega)) ?_
          exact wr_iret hz hr hlk dX6_pass_65 hS (()) hP (rfl)
        · exact absurd c_38 (by omega)
      · exact absurd ((wIn_ok (by omega) (by omega) (by omega)).symm.trans c_19) (by decide)

set_option maxHeartbeats 4000000 in
set_option maxRecDepth 100000 in
theorem c6_pass_full (l_ : Launch) (D : va_G) (k : Nat → ClassId) (b I J : Nat → Nat) (G : Nat → Nat → Nat) (mn w sp : Nat) (hf : Wf (G 0)) (h1 : mn < 60) (h2 : w < G 0 0 - 1) (h4 : sp ≤ 3) (h3 : G 0 32 = 8) : Met l_ yX6_pass wsX6_pass ({ frames := 2, cells := 0, slots := 0, locals := 46 }) (va_Pc [.ref (b 0), .int (nI mn), .int (nI w), .int (nI sp)] (wH YT D k (mw b k I J G))) (va_Qi (fun (r : Int32) (u : Unit) => r = -4) (fun (u : Unit) (t_ : State) => va_P D vwCl ((fun (_ : Unit) => mw b k I J (gset G 3 (sRef (G 3) 2))) u) t_.heap) (wA (mw b k I J G))) 0 0 (wA (mw b k I J G)) := by
  refine my_entry (cc := cX6_pass) (maxL := 4) (ret := some .int) (by decide) rfl (Nat.le_of_ble_eq_true rfl) ?_
  intro p_ e_ s_ m_ bl_ me_ c_ hz hr hlk hB ls hl
  obtain ⟨hP, hK, hD0, -⟩ := hB
  have hD := wA.self hD0
  have hS : va_S (wA (mw b k I J G)) s_.heap s_.heap [] := va_S.rf
  have hl : lv_has ls 4 [(0, .ref (b 0)), (1, .int (nI mn)), (2, .int (nI w)), (3, .int (nI sp))] := hl
  have f0 := hf.n2
  have f1 := hf.n9
  have f2 := hf.fr
  have f3 := hf.gd
  have f5 := hf.pc
  refine lv_iload_n hz.1 hz.2.1 dX6_pass_0 rfl (lv_at hl 1 rfl) ?_
  refine rdS (As := [.int (nI mn)]) (rest := []) hz (c6_isMinute l_ (nI mn) ) rfl (va_cwS 1 hz.2.2.2.2 gX6_pass_X6_isMinute rfl rfl rfl (by decide +kernel) ⟨Nat.le_of_ble_eq_true rfl, Nat.le_of_ble_eq_true rfl⟩) rfl hl.1 rfl (Nat.le_of_ble_eq_true rfl) dX6_pass_1 ⟨Nat.zero_le _, Nat.zero_le _⟩ ?_
  refine zeq (tgt := 22) hz dX6_pass_4 (by decide) (fun c_4 => ?_) (fun c_4 => ?_)
  · exact absurd ((wIn_ok (by omega) (by omega) (by omega)).symm.trans c_4) (by decide)
  · refine lv_aload_n hz.1 hz.2.1 dX6_pass_7 rfl (lv_at hl 0 rfl) ?_
    refine lv_iload_n hz.1 hz.2.1 dX6_pass_8 rfl (lv_at hl 2 rfl) ?_
    refine rdV (A := wA (mw b k I J G)) (As := [.int (nI w)]) (rest := []) hz okYT (c6_isWire l_ D k b I J G (nI w) hf) (cwV 1 hz.2.2.2.2 gX6_pass_X6_isWire rfl rfl rfl (by decide +kernel) ⟨Nat.le_of_ble_eq_true rfl, Nat.le_of_ble_eq_true rfl⟩) hK trivial hP hD hS 0 6 rfl rfl rfl rfl hl.1 rfl (Nat.le_of_ble_eq_true rfl) dX6_pass_9 ⟨Nat.zero_le _, Nat.zero_le _⟩ ?_
    refine zeq (tgt := 22) hz dX6_pass_12 (by decide) (fun c_12 => ?_) (fun c_12 => ?_)
    · exact absurd ((wIn_ok (by omega) (by omega) (by omega)).symm.trans c_12) (by decide)
    · refine lv_iload_n hz.1 hz.2.1 dX6_pass_15 rfl (lv_at hl 3 rfl) ?_
      refine rdS (As := [.int (nI sp)]) (rest := []) hz (c6_isStep l_ (nI sp) ) rfl (va_cwS 1 hz.2.2.2.2 gX6_pass_X6_isStep rfl rfl rfl (by decide +kernel) ⟨Nat.le_of_ble_eq_true rfl, Nat.le_of_ble_eq_true rfl⟩) rfl hl.1 rfl (Nat.le_of_ble_eq_true rfl) dX6_pass_16 ⟨Nat.zero_le _, Nat.zero_le _⟩ ?_
      refine zne (tgt := 29) hz dX6_pass_19 (by decide) (fun c_19 => ?_) (fun c_19 => ?_)
      · refine lv_aload_n hz.1 hz.2.1 dX6_pass_29 rfl (lv_at hl 0 rfl) ?_
        refine rg hz hinX6_pass hK hP 0 rfl rfl 0 (by decide) (List.mem_of_getElem? (i := 1) rfl) rfl (v := .ref (b 1)) rfl dX6_pass_30 ?_
        refine lv_bipush (v := nI 32) hz.1 hz.2.1 dX6_pass_33 (by decide) ?_
        refine rald hz hK hP 1 0 rfl rfl (i := 32) (by omega) (by decide) (v := nI (G 0 32)) rfl dX6_pass_35 ?_
        refine lv_bipush (v := nI 8) hz.1 hz.2.1 dX6_pass_36 (by decide) ?_
        refine jne (tgt := 46) hz dX6_pass_38 (by decide) (by omega) (by omega) (fun c_38 => ?_) (fun c_38 => ?_)
        · exact absurd c_38 (by omega)
        · refine lv_aload_n hz.1 hz.2.1 dX6_pass_41 rfl (lv_at hl 0 rfl) ?_
          refine wrV (A := wA (mw b k I J G)) (As := []) (rest := []) hz okYT (c6_full l_ D k b I J G  ) (cwV 0 hz.2.2.2.2 gX6_pass_X6_full rfl rfl rfl (by decide +kernel) ⟨Nat.le_of_ble_eq_true rfl, Nat.le_of_ble_eq_true rfl⟩) hK trivial hP hD hS 0 6 rfl rfl rfl rfl hl.1 rfl (Nat.le_of_ble_eq_true rfl) dX6_pass_42 ⟨Nat.zero_le _, Nat.zero_le _⟩ (fun r u H locs hp hP hS _ => ?_)
          obtain rfl : r = -4 := hp
          have hP : va_P D vwCl (mw b k I J (gset G 3 (sRef (G 3) 2))) H := hP
          have hD := mw_D (I' := I) (J' := J) (G' := gset G 3 (sRef (G 3) 2)) hD
          exact wr_iret hz hr hlk dX6_pass_45 hS (()) hP (rfl)
      · exact absurd ((wIn_ok (by omega) (by omega) (by omega)).symm.trans c_19) (by decide)

theorem hinX6_undo : ∀ w ∈ wsX60, w ∈ wsX6_undo := fun _ h => List.mem_cons_of_mem _ (List.mem_append_right _ h)
set_option maxHeartbeats 4000000 in
set_option maxRecDepth 100000 in
theorem c6_undo_ok (l_ : Launch) (D : va_G) (k : Nat → ClassId) (b I J : Nat → Nat) (G : Nat → Nat → Nat)  (hf : Wf (G 0)) (h : 0 < G 0 32) : Met l_ yX6_undo wsX6_undo ({ frames := 0, cells := 0, slots := 0, locals := 0 }) (va_Pc [.ref (b 0)] (wH YT D k (mw b k I J G))) (va_Qi (fun (r : Int32) (u : Unit) => r = nI (G 0 32 - 1)) (fun (u : Unit) (t_ : State) => va_P D vwCl ((fun (_ : Unit) => mw b k I J (gset G 0 (nset (G 0) 32 (G 0 32 - 1)))) u) t_.heap) (wA (mw b k I J G))) 0 0 (wA (mw b k I J G)) := by
  refine my_entry (cc := cX6_undo) (maxL := 1) (ret := some .int) (by decide) rfl (Nat.le_of_ble_eq_true rfl) ?_
  intro p_ e_ s_ m_ bl_ me_ c_ hz hr hlk hB ls hl
  obtain ⟨hP, hK, hD0, -⟩ := hB
  have hD := wA.self hD0
  have hS : va_S (wA (mw b k I J G)) s_.heap s_.heap [] := va_S.rf
  have hl : lv_has ls 1 [(0, .ref (b 0))] := hl
  have f5 := hf.pc
  refine lv_aload_n hz.1 hz.2.1 dX6_undo_0 rfl (lv_at hl 0 rfl) ?_
  refine rg hz hinX6_undo hK hP 0 rfl rfl 0 (by decide) (List.mem_of_getElem? (i := 1) rfl) rfl (v := .ref (b 1)) rfl dX6_undo_1 ?_
  refine lv_bipush (v := nI 32) hz.1 hz.2.1 dX6_undo_4 (by decide) ?_
  refine rald hz hK hP 1 0 rfl rfl (i := 32) (by omega) (by decide) (v := nI (G 0 32)) rfl dX6_undo_6 ?_
  refine jne0 (tgt := 15) hz dX6_undo_7 (by decide) (by omega) (fun c_7 => ?_) (fun c_7 => ?_)
  · refine lv_aload_n hz.1 hz.2.1 dX6_undo_15 rfl (lv_at hl 0 rfl) ?_
    refine rg hz hinX6_undo hK hP 0 rfl rfl 0 (by decide) (List.mem_of_getElem? (i := 1) rfl) rfl (v := .ref (b 1)) rfl dX6_undo_16 ?_
    refine lv_bipush (v := nI 32) hz.1 hz.2.1 dX6_undo_19 (by decide) ?_
    refine lv_dup2_11 hz.1 hz.2.1 dX6_undo_21 rfl rfl ?_
    refine rald hz hK hP 1 0 rfl rfl (i := 32) (by omega) (by decide) (v := nI (G 0 32)) rfl dX6_undo_22 ?_
    refine lv_iconst (v := nI 1) hz.1 hz.2.1 dX6_undo_23 (by decide) ?_
    refine lv_isub hz.1 hz.2.1 dX6_undo_24 ?_
    refine toe (z := nI ((G 0 32) - 1)) (pk_sub (by omega)) ?_
    refine rast hz hK hP hD hS 1 0 rfl rfl (i := 32) (v := ((G 0 32) - 1)) (by omega) (by decide) dX6_undo_25 (fun H locs hP hS => ?_)
    have hP : va_P D vwCl (mw b k I J (gset G 0 (nset (G 0) 32 ((G 0 32) - 1)))) H := hP
    have hD := mw_D (I' := I) (J' := J) (G' := gset G 0 (nset (G 0) 32 ((G 0 32) - 1))) hD
    refine lv_aload_n hz.1 hz.2.1 dX6_undo_26 rfl (lv_at hl 0 rfl) ?_
    refine rg hz hinX6_undo hK hP 0 rfl rfl 0 (by decide) (List.mem_of_getElem? (i := 1) rfl) rfl (v := .ref (b 1)) rfl dX6_undo_27 ?_
    refine lv_bipush (v := nI 32) hz.1 hz.2.1 dX6_undo_30 (by decide) ?_
    refine rald hz hK hP 1 0 rfl rfl (i := 32) (by omega) (by decide) (v := nI ((nset (G 0) 32 ((G 0 32) - 1)) 32)) rfl dX6_undo_32 ?_
    refine toe (z := nI (G 0 32 - 1)) (rfl) ?_
    exact wr_iret hz hr hlk dX6_undo_33 hS (()) hP (rfl)
  · exact absurd c_7 (by omega)

set_option maxHeartbeats 4000000 in
set_option maxRecDepth 100000 in
theorem c6_undo_no (l_ : Launch) (D : va_G) (k : Nat → ClassId) (b I J : Nat → Nat) (G : Nat → Nat → Nat)  (hf : Wf (G 0)) (h : G 0 32 = 0) : Met l_ yX6_undo wsX6_undo ({ frames := 1, cells := 0, slots := 0, locals := 20 }) (va_Pc [.ref (b 0)] (wH YT D k (mw b k I J G))) (va_Qi (fun (r : Int32) (u : Unit) => r = -3) (fun (u : Unit) (t_ : State) => va_P D vwCl ((fun (_ : Unit) => mw b k I J (gset G 3 (sRef (G 3) 1))) u) t_.heap) (wA (mw b k I J G))) 0 0 (wA (mw b k I J G)) := by
  refine my_entry (cc := cX6_undo) (maxL := 1) (ret := some .int) (by decide) rfl (Nat.le_of_ble_eq_true rfl) ?_
  intro p_ e_ s_ m_ bl_ me_ c_ hz hr hlk hB ls hl
  obtain ⟨hP, hK, hD0, -⟩ := hB
  have hD := wA.self hD0
  have hS : va_S (wA (mw b k I J G)) s_.heap s_.heap [] := va_S.rf
  have hl : lv_has ls 1 [(0, .ref (b 0))] := hl
  have f5 := hf.pc
  refine lv_aload_n hz.1 hz.2.1 dX6_undo_0 rfl (lv_at hl 0 rfl) ?_
  refine rg hz hinX6_undo hK hP 0 rfl rfl 0 (by decide) (List.mem_of_getElem? (i := 1) rfl) rfl (v := .ref (b 1)) rfl dX6_undo_1 ?_
  refine lv_bipush (v := nI 32) hz.1 hz.2.1 dX6_undo_4 (by decide) ?_
  refine rald hz hK hP 1 0 rfl rfl (i := 32) (by omega) (by decide) (v := nI (G 0 32)) rfl dX6_undo_6 ?_
  refine jne0 (tgt := 15) hz dX6_undo_7 (by decide) (by omega) (fun c_7 => ?_) (fun c_7 => ?_)
  · exact absurd c_7 (by omega)
  · refine lv_aload_n hz.1 hz.2.1 dX6_undo_10 rfl (lv_at hl 0 rfl) ?_
    refine wrV (A := wA (mw b k I J G)) (As := []) (rest := []) hz okYT (c6_no l_ D k b I J G  ) (cwV 0 hz.2.2.2.2 gX6_undo_X6_no rfl rfl rfl (by decide +kernel) ⟨Nat.le_of_ble_eq_true rfl, Nat.le_of_ble_eq_true rfl⟩) hK trivial hP hD hS 0 6 rfl rfl rfl rfl hl.1 rfl (Nat.le_of_ble_eq_true rfl) dX6_undo_11 ⟨Nat.zero_le _, Nat.zero_le _⟩ (fun r u H locs hp hP hS _ => ?_)
    obtain rfl : r = -3 := hp
    have hP : va_P D vwCl (mw b k I J (gset G 3 (sRef (G 3) 1))) H := hP
    have hD := mw_D (I' := I) (J' := J) (G' := gset G 3 (sRef (G 3) 1)) hD
    exact wr_iret hz hr hlk dX6_undo_14 hS (()) hP (rfl)
