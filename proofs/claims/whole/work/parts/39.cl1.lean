set_option maxHeartbeats 4000000 in
set_option maxRecDepth 100000 in
theorem c5_within (l_ : Launch) (x : Int32) (lo hi : Nat)  : Met l_ yX5_within wsX5_within ({ frames := 0, cells := 0, slots := 0, locals := 0 }) (va_Pc [.int x, .int (nI lo), .int (nI hi)] (fun _ => True)) (QcRead (bI (wIn x lo hi))) 0 0 (fun _ => False) := by
  refine my_entry (cc := cX5_within) (maxL := 3) (ret := some .boolean) (by decide) rfl (Nat.le_of_ble_eq_true rfl) ?_
  intro p_ e_ s_ m_ bl_ me_ c_ hz hr hlk hB ls hl
  have hl : lv_has ls 3 [(0, .int x), (1, .int (nI lo)), (2, .int (nI hi))] := hl
  refine lv_iload_n hz.1 hz.2.1 dX5_within_0 rfl (lv_at hl 0 rfl) ?_
  refine lv_iload_n hz.1 hz.2.1 dX5_within_1 rfl (lv_at hl 1 rfl) ?_
  refine lv_icmp_lt (tgt := 14) hz.1 hz.2.1 dX5_within_2 (by decide) (fun c_2 => ?_) (fun c_2 => ?_)
  · refine lv_iconst (v := nI 0) hz.1 hz.2.1 dX5_within_14 (by decide) ?_
    exact rd_zret hz hr hlk dX5_within_15 (bI_0 (by unfold wIn; rw [decide_eq_false (fa_of_lt c_2).2.1]; rfl))
  · refine lv_iload_n hz.1 hz.2.1 dX5_within_5 rfl (lv_at hl 0 rfl) ?_
    refine lv_iload_n hz.1 hz.2.1 dX5_within_6 rfl (lv_at hl 2 rfl) ?_
    refine lv_icmp_gt (tgt := 14) hz.1 hz.2.1 dX5_within_7 (by decide) (fun c_7 => ?_) (fun c_7 => ?_)
    · refine lv_iconst (v := nI 0) hz.1 hz.2.1 dX5_within_14 (by decide) ?_
      exact rd_zret hz hr hlk dX5_within_15 (bI_0 (by unfold wIn; rw [decide_eq_false (fa_of_lt c_7).2.1, Bool.and_false]))
    · refine lv_iconst (v := nI 1) hz.1 hz.2.1 dX5_within_10 (by decide) ?_
      refine lv_goto (tgt := 15) hz.1 hz.2.1 dX5_within_11 (by decide) ?_
      exact rd_zret hz hr hlk dX5_within_15 (bI_1 (by unfold wIn; rw [decide_eq_true (fa_of_nlt c_2), decide_eq_true (fa_of_nlt c_7)]; rfl))

set_option maxHeartbeats 4000000 in
set_option maxRecDepth 100000 in
theorem c5_inRow (l_ : Launch) (x : Int32) (mm : Nat) (h1 : 1 ≤ mm) (h2 : mm < 2147483648) : Met l_ yX5_inRow wsX5_inRow ({ frames := 0, cells := 0, slots := 0, locals := 0 }) (va_Pc [.int x, .int (nI mm)] (fun _ => True)) (QcRead (bI (wIn x 0 (mm - 1)))) 0 0 (fun _ => False) := by
  refine my_entry (cc := cX5_inRow) (maxL := 2) (ret := some .boolean) (by decide) rfl (Nat.le_of_ble_eq_true rfl) ?_
  intro p_ e_ s_ m_ bl_ me_ c_ hz hr hlk hB ls hl
  have hl : lv_has ls 2 [(0, .int x), (1, .int (nI mm))] := hl
  refine lv_iload_n hz.1 hz.2.1 dX5_inRow_0 rfl (lv_at hl 0 rfl) ?_
  refine lv_if_lt (tgt := 13) hz.1 hz.2.1 dX5_inRow_1 (by decide) (fun c_1 => ?_) (fun c_1 => ?_)
  · refine lv_iconst (v := nI 0) hz.1 hz.2.1 dX5_inRow_13 (by decide) ?_
    exact rd_zret hz hr hlk dX5_inRow_14 ((inRow_0 h1 h2 (Or.inl c_1)))
  · refine lv_iload_n hz.1 hz.2.1 dX5_inRow_4 rfl (lv_at hl 0 rfl) ?_
    refine lv_iload_n hz.1 hz.2.1 dX5_inRow_5 rfl (lv_at hl 1 rfl) ?_
    refine lv_icmp_ge (tgt := 13) hz.1 hz.2.1 dX5_inRow_6 (by decide) (fun c_6 => ?_) (fun c_6 => ?_)
    · refine lv_iconst (v := nI 0) hz.1 hz.2.1 dX5_inRow_13 (by decide) ?_
      exact rd_zret hz hr hlk dX5_inRow_14 ((inRow_0 h1 h2 (Or.inr c_6)))
    · refine lv_iconst (v := nI 1) hz.1 hz.2.1 dX5_inRow_9 (by decide) ?_
      refine lv_goto (tgt := 14) hz.1 hz.2.1 dX5_inRow_10 (by decide) ?_
      exact rd_zret hz hr hlk dX5_inRow_14 ((inRow_1 h1 h2 c_1 c_6))

set_option maxHeartbeats 4000000 in
set_option maxRecDepth 100000 in
theorem c5_has (l_ : Launch) (x j : Nat) (h1 : x < 2147483648) (h2 : j < 32) : Met l_ yX5_has wsX5_has ({ frames := 0, cells := 0, slots := 0, locals := 0 }) (va_Pc [.int (nI x), .int (nI j)] (fun _ => True)) (QcRead (bI (x.testBit j))) 0 0 (fun _ => False) := by
  refine my_entry (cc := cX5_has) (maxL := 2) (ret := some .boolean) (by decide) rfl (Nat.le_of_ble_eq_true rfl) ?_
  intro p_ e_ s_ m_ bl_ me_ c_ hz hr hlk hB ls hl
  have hl : lv_has ls 2 [(0, .int (nI x)), (1, .int (nI j))] := hl
  refine lv_iload_n hz.1 hz.2.1 dX5_has_0 rfl (lv_at hl 0 rfl) ?_
  refine lv_iload_n hz.1 hz.2.1 dX5_has_1 rfl (lv_at hl 1 rfl) ?_
  refine lv_ishr hz.1 hz.2.1 dX5_has_2 ?_
  refine toe (z := nI (x / 2 ^ j)) (nI_shr (by omega) (by omega)) ?_
  refine lv_iconst (v := nI 1) hz.1 hz.2.1 dX5_has_3 (by decide) ?_
  refine lv_iand hz.1 hz.2.1 dX5_has_4 ?_
  refine toe (z := nI ((x / 2 ^ j) % 2)) (nI_and1 _) ?_
  refine jeq0 (tgt := 12) hz dX5_has_5 (by decide) (by omega) (fun c_5 => ?_) (fun c_5 => ?_)
  · refine lv_iconst (v := nI 0) hz.1 hz.2.1 dX5_has_12 (by decide) ?_
    exact rd_zret hz hr hlk dX5_has_13 (bI_0 (by rw [Nat.testBit_eq_decide_div_mod_eq]; simp; omega))
  · refine lv_iconst (v := nI 1) hz.1 hz.2.1 dX5_has_8 (by decide) ?_
    refine lv_goto (tgt := 13) hz.1 hz.2.1 dX5_has_9 (by decide) ?_
    exact rd_zret hz hr hlk dX5_has_13 (bI_1 (by rw [Nat.testBit_eq_decide_div_mod_eq]; simp; omega))

set_option maxHeartbeats 4000000 in
set_option maxRecDepth 100000 in
theorem c5_loudBy (l_ : Launch) (kd s : Nat) (h1 : kd ≤ 4) (h2 : 1 ≤ s) (h3 : s < 100) : Met l_ yX5_loudBy wsX5_loudBy ({ frames := 0, cells := 0, slots := 0, locals := 0 }) (va_Pc [.int (nI kd), .int (nI s)] (fun _ => True)) (QcRead (nI (sLoud kd s))) 0 0 (fun _ => False) := by
  refine my_entry (cc := cX5_loudBy) (maxL := 2) (ret := some .int) (by decide) rfl (Nat.le_of_ble_eq_true rfl) ?_
  intro p_ e_ s_ m_ bl_ me_ c_ hz hr hlk hB ls hl
  have hl : lv_has ls 2 [(0, .int (nI kd)), (1, .int (nI s))] := hl
  refine lv_iload_n hz.1 hz.2.1 dX5_loudBy_0 rfl (lv_at hl 0 rfl) ?_
  by_cases sw_1_1 : kd = 1
  · refine lv_tableIn (off := 31) (tgt := 32) hz.1 hz.2.1 dX5_loudBy_1 (by rw [sw_1_1]; decide) (by rw [sw_1_1]; decide) (by rw [sw_1_1]; decide) (by decide) ?_
    refine lv_iload_n hz.1 hz.2.1 dX5_loudBy_32 rfl (lv_at hl 1 rfl) ?_
    refine lv_iconst (v := nI 2) hz.1 hz.2.1 dX5_loudBy_33 (by decide) ?_
    refine lv_iadd hz.1 hz.2.1 dX5_loudBy_34 ?_
    refine toe (z := nI (s + 2)) (nI_add _ _) ?_
    exact rd_iret hz hr hlk dX5_loudBy_35 (by simp [sLoud, sw_1_1])
  by_cases sw_1_2 : kd = 2
  · refine lv_tableIn (off := 35) (tgt := 36) hz.1 hz.2.1 dX5_loudBy_1 (by rw [sw_1_2]; decide) (by rw [sw_1_2]; decide) (by rw [sw_1_2]; decide) (by decide) ?_
    refine lv_iload_n hz.1 hz.2.1 dX5_loudBy_36 rfl (lv_at hl 1 rfl) ?_
    refine lv_iconst (v := nI 1) hz.1 hz.2.1 dX5_loudBy_37 (by decide) ?_
    refine lv_isub hz.1 hz.2.1 dX5_loudBy_38 ?_
    refine toe (z := nI (s - 1)) (pk_sub (by omega)) ?_
    exact rd_iret hz hr hlk dX5_loudBy_39 (by simp [sLoud, sw_1_1, sw_1_2])
  by_cases sw_1_3 : kd = 3
  · refine lv_tableIn (off := 35) (tgt := 36) hz.1 hz.2.1 dX5_loudBy_1 (by rw [sw_1_3]; decide) (by rw [sw_1_3]; decide) (by rw [sw_1_3]; decide) (by decide) ?_
    refine lv_iload_n hz.1 hz.2.1 dX5_loudBy_36 rfl (lv_at hl 1 rfl) ?_
    refine lv_iconst (v := nI 1) hz.1 hz.2.1 dX5_loudBy_37 (by decide) ?_
    refine lv_isub hz.1 hz.2.1 dX5_loudBy_38 ?_
    refine toe (z := nI (s - 1)) (pk_sub (by omega)) ?_
    exact rd_iret hz hr hlk dX5_loudBy_39 (by simp [sLoud, sw_1_1, sw_1_2, sw_1_3])
  by_cases sw_1_4 : kd = 4
  · refine lv_tableIn (off := 39) (tgt := 40) hz.1 hz.2.1 dX5_loudBy_1 (by rw [sw_1_4]; decide) (by rw [sw_1_4]; decide) (by rw [sw_1_4]; decide) (by decide) ?_
    refine lv_iconst (v := nI 0) hz.1 hz.2.1 dX5_loudBy_40 (by decide) ?_
    exact rd_iret hz hr hlk dX5_loudBy_41 (by simp [sLoud, sw_1_1, sw_1_2, sw_1_3, sw_1_4])
  refine lv_tableOut (tgt := 42) hz.1 hz.2.1 dX5_loudBy_1 (by rw [nI_toInt (by omega)]; omega) (by decide) ?_
  refine lv_iload_n hz.1 hz.2.1 dX5_loudBy_42 rfl (lv_at hl 1 rfl) ?_
  exact rd_iret hz hr hlk dX5_loudBy_43 (by simp [sLoud, sw_1_1, sw_1_2, sw_1_3, sw_1_4])

set_option maxHeartbeats 4000000 in
set_option maxRecDepth 100000 in
theorem c5_noteBy (l_ : Launch) (kd t f : Nat) (h1 : kd < 1000) (h2 : t < 1000) (h3 : f < 1000) : Met l_ yX5_noteBy wsX5_noteBy ({ frames := 0, cells := 0, slots := 0, locals := 0 }) (va_Pc [.int (nI kd), .int (nI t), .int (nI f)] (fun _ => True)) (QcRead (nI (sNoteBy kd t f))) 0 0 (fun _ => False) := by
  refine my_entry (cc := cX5_noteBy) (maxL := 3) (ret := some .int) (by decide) rfl (Nat.le_of_ble_eq_true rfl) ?_
  intro p_ e_ s_ m_ bl_ me_ c_ hz hr hlk hB ls hl
  have hl : lv_has ls 3 [(0, .int (nI kd)), (1, .int (nI t)), (2, .int (nI f))] := hl
  refine lv_iload_n hz.1 hz.2.1 dX5_noteBy_0 rfl (lv_at hl 0 rfl) ?_
  by_cases sw_1_2 : kd = 2
  · refine lv_lookup (off := 27) (tgt := 28) hz.1 hz.2.1 dX5_noteBy_1 (by decide) (by rw [sw_1_2]; decide) (by decide) ?_
    refine lv_iload_n hz.1 hz.2.1 dX5_noteBy_28 rfl (lv_at hl 1 rfl) ?_
    refine lv_iload_n hz.1 hz.2.1 dX5_noteBy_29 rfl (lv_at hl 2 rfl) ?_
    refine lv_iadd hz.1 hz.2.1 dX5_noteBy_30 ?_
    refine toe (z := nI (t + f)) (nI_add _ _) ?_
    refine lv_bipush (v := nI 12) hz.1 hz.2.1 dX5_noteBy_31 (by decide) ?_
    refine lv_iadd hz.1 hz.2.1 dX5_noteBy_33 ?_
    refine toe (z := nI ((t + f) + 12)) (nI_add _ _) ?_
    refine lv_iconst (v := nI 1) hz.1 hz.2.1 dX5_noteBy_34 (by decide) ?_
    refine lv_isub hz.1 hz.2.1 dX5_noteBy_35 ?_
    refine toe (z := nI (((t + f) + 12) - 1)) (pk_sub (by omega)) ?_
    refine lv_bipush (v := nI 12) hz.1 hz.2.1 dX5_noteBy_36 (by decide) ?_
    refine lv_irem hz.1 hz.2.1 dX5_noteBy_38 (nI_ne0 (by omega) (by omega)) ?_
    refine toe (z := nI ((((t + f) + 12) - 1) % 12)) (pk_rem (by omega) (by omega) (by omega)) ?_
    exact rd_iret hz hr hlk dX5_noteBy_39 (by rw [show t + f + 12 - 1 = t + f + 11 by omega]; simp [sNoteBy, sw_1_2])
  by_cases sw_1_3 : kd = 3
  · refine lv_lookup (off := 39) (tgt := 40) hz.1 hz.2.1 dX5_noteBy_1 (by decide) (by rw [sw_1_3]; decide) (by decide) ?_
    refine lv_iload_n hz.1 hz.2.1 dX5_noteBy_40 rfl (lv_at hl 1 rfl) ?_
    refine lv_bipush (v := nI 12) hz.1 hz.2.1 dX5_noteBy_41 (by decide) ?_
    refine lv_iadd hz.1 hz.2.1 dX5_noteBy_43 ?_
    refine toe (z := nI (t + 12)) (nI_add _ _) ?_
    refine lv_iconst (v := nI 1) hz.1 hz.2.1 dX5_noteBy_44 (by decide) ?_
    refine lv_isub hz.1 hz.2.1 dX5_noteBy_45 ?_
    refine toe (z := nI ((t + 12) - 1)) (pk_sub (by omega)) ?_
    refine lv_bipush (v := nI 12) hz.1 hz.2.1 dX5_noteBy_46 (by decide) ?_
    refine lv_irem hz.1 hz.2.1 dX5_noteBy_48 (nI_ne0 (by omega) (by omega)) ?_
    refine toe (z := nI (((t + 12) - 1) % 12)) (pk_rem (by omega) (by omega) (by omega)) ?_
    exact rd_iret hz hr hlk dX5_noteBy_49 (by rw [show t + 12 - 1 = t + 11 by omega]; simp [sNoteBy, sw_1_2, sw_1_3])
  refine lv_lookup (off := 49) (tgt := 50) hz.1 hz.2.1 dX5_noteBy_1 (by decide) (by show Op.lookupswitch.offset [(2, 27), (3, 39)] _ _ = _; rw [lv_osw (k := nI 2) (fun q => sw_1_2 ((nI_eq (by omega) (by decide)).mp q)) (by decide), lv_osw (k := nI 3) (fun q => sw_1_3 ((nI_eq (by omega) (by decide)).mp q)) (by decide)]; rfl) (by decide) ?_
  refine lv_iload_n hz.1 hz.2.1 dX5_noteBy_50 rfl (lv_at hl 1 rfl) ?_
  refine lv_iload_n hz.1 hz.2.1 dX5_noteBy_51 rfl (lv_at hl 2 rfl) ?_
  refine lv_iadd hz.1 hz.2.1 dX5_noteBy_52 ?_
  refine toe (z := nI (t + f)) (nI_add _ _) ?_
  refine lv_bipush (v := nI 12) hz.1 hz.2.1 dX5_noteBy_53 (by decide) ?_
  refine lv_irem hz.1 hz.2.1 dX5_noteBy_55 (nI_ne0 (by omega) (by omega)) ?_
  refine toe (z := nI ((t + f) % 12)) (pk_rem (by omega) (by omega) (by omega)) ?_
  exact rd_iret hz hr hlk dX5_noteBy_56 (by simp [sNoteBy, sw_1_2, sw_1_3])

set_option maxHeartbeats 4000000 in
set_option maxRecDepth 100000 in
theorem c5_choose (l_ : Launch) (n kk : Nat) (hn : n < 10) (hk : kk < 10) : Met l_ yX5_choose wsX5_choose ({ frames := 0, cells := 0, slots := 0, locals := 0 }) (va_Pc [.int (nI n), .int (nI kk)] (fun _ => True)) (QcRead (nI (sCh n kk))) 0 0 (fun _ => False) := by
  refine my_entry (cc := cX5_choose) (maxL := 4) (ret := some .int) (by decide) rfl (Nat.le_of_ble_eq_true rfl) ?_
  intro p_ e_ s_ m_ bl_ me_ c_ hz hr hlk hB ls hl
  have hl : lv_has ls 4 [(0, .int (nI n)), (1, .int (nI kk))] := hl
  refine lv_iload_n hz.1 hz.2.1 dX5_choose_0 rfl (lv_at hl 1 rfl) ?_
  refine lv_iload_n hz.1 hz.2.1 dX5_choose_1 rfl (lv_at hl 0 rfl) ?_
  refine jle (tgt := 7) hz dX5_choose_2 (by decide) (by omega) (by omega) (fun c_2 => ?_) (fun c_2 => ?_)
  · refine lv_iconst (v := nI 1) hz.1 hz.2.1 dX5_choose_7 (by decide) ?_
    refine toe (z := nI (sCh (n - kk + 0) 0)) (by rw [sCh_0]) ?_
    refine lv_istore_n (lv' := [(2, .int (nI (sCh (n - kk + 0) 0))), (0, .int (nI n)), (1, .int (nI kk))]) hz.1 hz.2.1 dX5_choose_8 rfl hl (by decide) rfl (fun ls hl => ?_)
    refine lv_iconst (v := nI 1) hz.1 hz.2.1 dX5_choose_9 (by decide) ?_
    refine toe (z := nI (0 + 1)) (rfl) ?_
    refine lv_istore_n (lv' := [(3, .int (nI (0 + 1))), (2, .int (nI (sCh (n - kk + 0) 0))), (0, .int (nI n)), (1, .int (nI kk))]) hz.1 hz.2.1 dX5_choose_10 rfl hl (by decide) rfl (fun ls hl => ?_)
    have lp_11 : ∀ (fu : Nat) (j : Nat), (j ≤ kk) → kk - j < fu → ∀ ls : Array Slot, lv_has ls 4 [(0, .int (nI n)), (1, .int (nI kk)), (2, .int (nI (sCh (n - kk + j) j))), (3, .int (nI (j + 1)))] → W p_ l_ e_ ({ frames := 0, cells := 0, slots := 0, locals := 0 }) s_ m_ [.int (nI n), .int (nI kk)].toArray bl_ me_ c_ s_.heap [] 0 0 (MQ bl_ (QcRead (nI (sCh n kk))) [.int (nI n), .int (nI kk)].toArray s_ 0 0 (fun _ => False)) (F0 m_ 11 ls []) := by
      intro fu
      induction fu with
      | zero => intro j hj hm; exact absurd hm (Nat.not_lt_zero _)
      | succ fu ih11 =>
        intro j hj hm ls hl
        refine lv_iload_n hz.1 hz.2.1 dX5_choose_11 rfl (lv_at hl 3 rfl) ?_
        refine lv_iload_n hz.1 hz.2.1 dX5_choose_12 rfl (lv_at hl 1 rfl) ?_
        refine jgt (tgt := 32) hz dX5_choose_13 (by decide) (by omega) (by omega) (fun c_13 => ?_) (fun c_13 => ?_)
        · obtain rfl : kk = j := by omega
          refine lv_iload_n hz.1 hz.2.1 dX5_choose_32 rfl (lv_at hl 2 rfl) ?_
          exact rd_iret hz hr hlk dX5_choose_33 (by rw [show n - j + j = n by omega])
        · have v1 := sCh_lt (n - kk + j) (by omega) j (by omega)
          have v2 : sCh (n - kk + j) j * (n - kk + (j + 1)) ≤ 1000 * 20 := Nat.mul_le_mul (by omega) (by omega)
          refine lv_iload_n hz.1 hz.2.1 dX5_choose_16 rfl (lv_at hl 2 rfl) ?_
          refine lv_iload_n hz.1 hz.2.1 dX5_choose_17 rfl (lv_at hl 0 rfl) ?_
          refine lv_iload_n hz.1 hz.2.1 dX5_choose_18 rfl (lv_at hl 1 rfl) ?_
          refine lv_isub hz.1 hz.2.1 dX5_choose_19 ?_
          refine toe (z := nI (n - kk)) (pk_sub (by omega)) ?_
          refine lv_iload_n hz.1 hz.2.1 dX5_choose_20 rfl (lv_at hl 3 rfl) ?_
          refine lv_iadd hz.1 hz.2.1 dX5_choose_21 ?_
          refine toe (z := nI ((n - kk) + (j + 1))) (nI_add _ _) ?_
          refine lv_imul hz.1 hz.2.1 dX5_choose_22 ?_
          refine toe (z := nI ((sCh (n - kk + j) j) * ((n - kk) + (j + 1)))) (pk_mul _ _) ?_
          refine lv_iload_n hz.1 hz.2.1 dX5_choose_23 rfl (lv_at hl 3 rfl) ?_
          refine lv_idiv hz.1 hz.2.1 dX5_choose_24 (nI_ne0 (by omega) (by omega)) ?_
          refine toe (z := nI (sCh (n - kk + (j + 1)) (j + 1))) (by rw [pk_div (by omega) (by omega) (by omega), sCh_row (n - kk) j (by omega)]; rfl) ?_
          refine lv_istore_n (lv' := [(2, .int (nI (sCh (n - kk + (j + 1)) (j + 1)))), (0, .int (nI n)), (1, .int (nI kk)), (3, .int (nI (j + 1)))]) hz.1 hz.2.1 dX5_choose_25 rfl hl (by decide) rfl (fun ls hl => ?_)
          refine lv_iinc (v := nI (j + 1 + 1)) (lv' := [(3, .int (nI (j + 1 + 1))), (2, .int (nI (sCh (n - kk + (j + 1)) (j + 1)))), (0, .int (nI n)), (1, .int (nI kk))]) hz.1 hz.2.1 dX5_choose_26 hl (k := 3) rfl (nI_add _ 1) (by decide) rfl (fun ls hl => ?_)
          refine lv_goto (tgt := 11) hz.1 hz.2.1 dX5_choose_29 (by decide) ?_
          exact ih11 (j + 1) (by omega) (by omega) ls (lv_sub hl [2, 3, 1, 0] rfl)
    exact lp_11 _ 0 (by omega) (Nat.lt_succ_self _) ls (lv_sub hl [2, 3, 1, 0] rfl)
  · refine lv_iconst (v := nI 0) hz.1 hz.2.1 dX5_choose_5 (by decide) ?_
    exact rd_iret hz hr hlk dX5_choose_6 (by rw [sCh_big n hn kk hk c_2])

theorem hinX0_wireCount_X0 : ∀ w ∈ wsX00, w ∈ wsX0_wireCount := fun _ h => List.mem_cons_of_mem _ (List.mem_append_right _ h)
set_option maxHeartbeats 4000000 in
set_option maxRecDepth 100000 in
theorem c0_wireCount (l_ : Launch) (D : va_G) (k : Nat → ClassId) (a : Nat → Nat) (o : Nat) (tS : Nat) (sk sv : Nat → Nat) (F : Nat → Nat) (E : Nat → Nat → Nat) (M : Nat → Nat)  (hR : Rb M F E) (hf : Wf M) : Met l_ yX0_wireCount wsX0_wireCount ({ frames := 0, cells := 0, slots := 0, locals := 0 }) (va_Pc [.ref (a o)] (wH (Am tS sk sv) D k (bw a o k F E))) (QcRead (nI (M 0 - 1))) 0 0 (fun _ => False) := by
  refine my_entry (cc := cX0_wireCount) (maxL := 1) (ret := some .int) (by decide) rfl (Nat.le_of_ble_eq_true rfl) ?_
  intro p_ e_ s_ m_ bl_ me_ c_ hz hr hlk hB ls hl
  obtain ⟨hP, hK, hD0, hy⟩ := hB
  have hD := wA.self hD0
  have hS : va_S (wA (bw a o k F E)) s_.heap s_.heap [] := va_S.rf
  have hl : lv_has ls 1 [(0, .ref (a o))] := hl
  have f0 := hf.n2
  have f1 := hf.n9
  have f2 := hf.fr
  have f3 := hf.gd
  have f4 := hf.pc
  have f5 := hf.wc
  refine lv_aload_n hz.1 hz.2.1 dX0_wireCount_0 rfl (lv_at hl 0 rfl) ?_
  refine rg (T := TX0) (N := 12) hz hinX0_wireCount_X0 hK hP 0 rfl rfl 0 (by decide) (List.mem_of_getElem? (i := 1) rfl) rfl (v := .int (nI (F 0))) rfl dX0_wireCount_1 ?_
  refine toe (z := nI (M 0)) (by rw [hR.1.1]) ?_
  refine lv_iconst (v := nI 1) hz.1 hz.2.1 dX0_wireCount_4 (by decide) ?_
  refine lv_isub hz.1 hz.2.1 dX0_wireCount_5 ?_
  refine toe (z := nI ((M 0) - 1)) (pk_sub (by omega)) ?_
  exact rd_iret hz hr hlk dX0_wireCount_6 (rfl)

theorem hinX0_isPost_X0 : ∀ w ∈ wsX00, w ∈ wsX0_isPost := fun _ h => List.mem_cons_of_mem _ (List.mem_append_right _ h)
set_option maxHeartbeats 4000000 in
set_option maxRecDepth 100000 in
theorem c0_isPost (l_ : Launch) (D : va_G) (k : Nat → ClassId) (a : Nat → Nat) (o : Nat) (tS : Nat) (sk sv : Nat → Nat) (F : Nat → Nat) (E : Nat → Nat → Nat) (M : Nat → Nat) (x : Int32) (hR : Rb M F E) (hf : Wf M) : Met l_ yX0_isPost wsX0_isPost ({ frames := 1, cells := 0, slots := 0, locals := 21 }) (va_Pc [.ref (a o), .int x] (wH (Am tS sk sv) D k (bw a o k F E))) (QcRead (bI (wIn x 0 (M 0 - 1)))) 0 0 (fun _ => False) := by
  refine my_entry (cc := cX0_isPost) (maxL := 2) (ret := some .boolean) (by decide) rfl (Nat.le_of_ble_eq_true rfl) ?_
  intro p_ e_ s_ m_ bl_ me_ c_ hz hr hlk hB ls hl
  obtain ⟨hP, hK, hD0, hy⟩ := hB
  have hD := wA.self hD0
  have hS : va_S (wA (bw a o k F E)) s_.heap s_.heap [] := va_S.rf
  have hl : lv_has ls 2 [(0, .ref (a o)), (1, .int x)] := hl
  have f0 := hf.n2
  have f1 := hf.n9
  have f2 := hf.fr
  have f3 := hf.gd
  have f4 := hf.pc
  have f5 := hf.wc
  refine lv_iload_n hz.1 hz.2.1 dX0_isPost_0 rfl (lv_at hl 1 rfl) ?_
  refine lv_aload_n hz.1 hz.2.1 dX0_isPost_1 rfl (lv_at hl 0 rfl) ?_
  refine rg (T := TX0) (N := 12) hz hinX0_isPost_X0 hK hP 0 rfl rfl 0 (by decide) (List.mem_of_getElem? (i := 1) rfl) rfl (v := .int (nI (F 0))) rfl dX0_isPost_2 ?_
  refine toe (z := nI (M 0)) (by rw [hR.1.1]) ?_
  refine rdSN (As := [.int x, .int (nI (M 0))]) (rest := []) hz (c5_inRow l_ x (M 0) (by omega) (by omega)) rfl gX0_isPost_X5_inRow_n59 rfl ⟨rfl, rfl⟩ hy (List.mem_of_getElem? (i := 0) rfl) (List.mem_of_getElem? (i := 3) rfl) (List.mem_of_getElem? (i := 2) rfl) (by decide +kernel) ⟨Nat.le_of_ble_eq_true rfl, Nat.le_of_ble_eq_true rfl⟩ rfl hl.1 rfl (Nat.le_of_ble_eq_true rfl) dX0_isPost_5 ⟨Nat.zero_le _, Nat.zero_le _⟩ ?_
  exact rd_zret hz hr hlk dX0_isPost_8 (rfl)

theorem hinX0_isWire_X0 : ∀ w ∈ wsX00, w ∈ wsX0_isWire := fun _ h => List.mem_cons_of_mem _ (List.mem_append_right _ h)
set_option maxHeartbeats 4000000 in
set_option maxRecDepth 100000 in
theorem c0_isWire (l_ : Launch) (D : va_G) (k : Nat → ClassId) (a : Nat → Nat) (o : Nat) (tS : Nat) (sk sv : Nat → Nat) (F : Nat → Nat) (E : Nat → Nat → Nat) (M : Nat → Nat) (x : Int32) (hR : Rb M F E) (hf : Wf M) : Met l_ yX0_isWire wsX0_isWire ({ frames := 1, cells := 0, slots := 0, locals := 21 }) (va_Pc [.ref (a o), .int x] (wH (Am tS sk sv) D k (bw a o k F E))) (QcRead (bI (wIn x 0 (M 0 - 1 - 1)))) 0 0 (fun _ => False) := by
  refine my_entry (cc := cX0_isWire) (maxL := 2) (ret := some .boolean) (by decide) rfl (Nat.le_of_ble_eq_true rfl) ?_
  intro p_ e_ s_ m_ bl_ me_ c_ hz hr hlk hB ls hl
  obtain ⟨hP, hK, hD0, hy⟩ := hB
  have hD := wA.self hD0
  have hS : va_S (wA (bw a o k F E)) s_.heap s_.heap [] := va_S.rf
  have hl : lv_has ls 2 [(0, .ref (a o)), (1, .int x)] := hl
  have f0 := hf.n2
  have f1 := hf.n9
  have f2 := hf.fr
  have f3 := hf.gd
  have f4 := hf.pc
  have f5 := hf.wc
  refine lv_iload_n hz.1 hz.2.1 dX0_isWire_0 rfl (lv_at hl 1 rfl) ?_
  refine lv_aload_n hz.1 hz.2.1 dX0_isWire_1 rfl (lv_at hl 0 rfl) ?_
  refine rdV (A := wA (bw a o k F E)) (As := []) (rest := [.int x]) hz (okAm tS sk sv) (c0_wireCount l_ D k a o tS sk sv F E M  hR hf) (cwV 0 hz.2.2.2.2 gX0_isWire_X0_wireCount rfl rfl rfl (by decide +kernel) ⟨Nat.le_of_ble_eq_true rfl, Nat.le_of_ble_eq_true rfl⟩) hK hy hP hD hS 0 0 rfl rfl rfl rfl hl.1 rfl (Nat.le_of_ble_eq_true rfl) dX0_isWire_2 ⟨Nat.zero_le _, Nat.zero_le _⟩ ?_
  refine rdSN (As := [.int x, .int (nI (M 0 - 1))]) (rest := []) hz (c5_inRow l_ x (M 0 - 1) (by omega) (by omega)) rfl gX0_isWire_X5_inRow_n59 rfl ⟨rfl, rfl⟩ hy (List.mem_of_getElem? (i := 0) rfl) (List.mem_of_getElem? (i := 8) rfl) (List.mem_of_getElem? (i := 7) rfl) (by decide +kernel) ⟨Nat.le_of_ble_eq_true rfl, Nat.le_of_ble_eq_true rfl⟩ rfl hl.1 rfl (Nat.le_of_ble_eq_true rfl) dX0_isWire_5 ⟨Nat.zero_le _, Nat.zero_le _⟩ ?_
  exact rd_zret hz hr hlk dX0_isWire_8 (rfl)

theorem hinX0_hasGuard_X0 : ∀ w ∈ wsX00, w ∈ wsX0_hasGuard := fun _ h => List.mem_cons_of_mem _ (List.mem_append_right _ h)
set_option maxHeartbeats 4000000 in
set_option maxRecDepth 100000 in
theorem c0_hasGuard (l_ : Launch) (D : va_G) (k : Nat → ClassId) (a : Nat → Nat) (o : Nat) (tS : Nat) (sk sv : Nat → Nat) (F : Nat → Nat) (E : Nat → Nat → Nat) (M : Nat → Nat) (p : Nat) (hR : Rb M F E) (hf : Wf M) (hp : p < 9) : Met l_ yX0_hasGuard wsX0_hasGuard ({ frames := 1, cells := 0, slots := 0, locals := 21 }) (va_Pc [.ref (a o), .int (nI p)] (wH (Am tS sk sv) D k (bw a o k F E))) (QcRead (bI ((M 2).testBit p))) 0 0 (fun _ => False) := by
  refine my_entry (cc := cX0_hasGuard) (maxL := 2) (ret := some .boolean) (by decide) rfl (Nat.le_of_ble_eq_true rfl) ?_
  intro p_ e_ s_ m_ bl_ me_ c_ hz hr hlk hB ls hl
  obtain ⟨hP, hK, hD0, hy⟩ := hB
  have hD := wA.self hD0
  have hS : va_S (wA (bw a o k F E)) s_.heap s_.heap [] := va_S.rf
  have hl : lv_has ls 2 [(0, .ref (a o)), (1, .int (nI p))] := hl
  have f0 := hf.n2
  have f1 := hf.n9
  have f2 := hf.fr
  have f3 := hf.gd
  have f4 := hf.pc
  have f5 := hf.wc
  refine lv_aload_n hz.1 hz.2.1 dX0_hasGuard_0 rfl (lv_at hl 0 rfl) ?_
  refine rg (T := TX0) (N := 12) hz hinX0_hasGuard_X0 hK hP 0 rfl rfl 2 (by decide) (List.mem_of_getElem? (i := 1) rfl) rfl (v := .int (nI (F 2))) rfl dX0_hasGuard_1 ?_
  refine toe (z := nI (M 2)) (by rw [hR.1.2.2.1]) ?_
  refine lv_iload_n hz.1 hz.2.1 dX0_hasGuard_4 rfl (lv_at hl 1 rfl) ?_
  refine rdSN (As := [.int (nI (M 2)), .int (nI p)]) (rest := []) hz (c5_has l_ (M 2) p (by omega) (by omega)) rfl gX0_hasGuard_X5_has_n67 rfl ⟨rfl, rfl⟩ hy (List.mem_of_getElem? (i := 1) rfl) (List.mem_of_getElem? (i := 3) rfl) (List.mem_of_getElem? (i := 2) rfl) (by decide +kernel) ⟨Nat.le_of_ble_eq_true rfl, Nat.le_of_ble_eq_true rfl⟩ rfl hl.1 rfl (Nat.le_of_ble_eq_true rfl) dX0_hasGuard_5 ⟨Nat.zero_le _, Nat.zero_le _⟩ ?_
  exact rd_zret hz hr hlk dX0_hasGuard_8 (rfl)

theorem hinX0_isCut_X0 : ∀ w ∈ wsX00, w ∈ wsX0_isCut := fun _ h => List.mem_cons_of_mem _ (List.mem_append_right _ h)
set_option maxHeartbeats 4000000 in
set_option maxRecDepth 100000 in
theorem c0_isCut (l_ : Launch) (D : va_G) (k : Nat → ClassId) (a : Nat → Nat) (o : Nat) (tS : Nat) (sk sv : Nat → Nat) (F : Nat → Nat) (E : Nat → Nat → Nat) (M : Nat → Nat) (w : Nat) (hR : Rb M F E) (hf : Wf M) (hw : w < 8) : Met l_ yX0_isCut wsX0_isCut ({ frames := 0, cells := 0, slots := 0, locals := 0 }) (va_Pc [.ref (a o), .int (nI w)] (wH (Am tS sk sv) D k (bw a o k F E))) (QcRead (bI (decide (M (3 + w) = 4)))) 0 0 (fun _ => False) := by
  refine my_entry (cc := cX0_isCut) (maxL := 2) (ret := some .boolean) (by decide) rfl (Nat.le_of_ble_eq_true rfl) ?_
  intro p_ e_ s_ m_ bl_ me_ c_ hz hr hlk hB ls hl
  obtain ⟨hP, hK, hD0, hy⟩ := hB
  have hD := wA.self hD0
  have hS : va_S (wA (bw a o k F E)) s_.heap s_.heap [] := va_S.rf
  have hl : lv_has ls 2 [(0, .ref (a o)), (1, .int (nI w))] := hl
  have hk := hf.kd hw
  have f0 := hf.n2
  have f1 := hf.n9
  have f2 := hf.fr
  have f3 := hf.gd
  have f4 := hf.pc
  have f5 := hf.wc
  refine lv_aload_n hz.1 hz.2.1 dX0_isCut_0 rfl (lv_at hl 0 rfl) ?_
  refine rg (T := TX0) (N := 12) hz hinX0_isCut_X0 hK hP 0 rfl rfl 5 (by decide) (List.mem_of_getElem? (i := 1) rfl) rfl (v := .ref (a (o + 1))) rfl dX0_isCut_1 ?_
  refine lv_iload_n hz.1 hz.2.1 dX0_isCut_4 rfl (lv_at hl 1 rfl) ?_
  refine rald hz hK hP 1 0 rfl rfl (i := w) (by omega) (by decide) (v := nI (E 0 w)) rfl dX0_isCut_5 ?_
  refine toe (z := nI (M (3 + w))) (by rw [(hR.2.1 _ (by omega)).1]) ?_
  refine lv_iconst (v := nI 4) hz.1 hz.2.1 dX0_isCut_6 (by decide) ?_
  refine jne (tgt := 14) hz dX0_isCut_7 (by decide) (by omega) (by omega) (fun c_7 => ?_) (fun c_7 => ?_)
  · refine lv_iconst (v := nI 0) hz.1 hz.2.1 dX0_isCut_14 (by decide) ?_
    exact rd_zret hz hr hlk dX0_isCut_15 (bI_0 (by simp [c_7]))
  · refine lv_iconst (v := nI 1) hz.1 hz.2.1 dX0_isCut_10 (by decide) ?_
    refine lv_goto (tgt := 15) hz.1 hz.2.1 dX0_isCut_11 (by decide) ?_
    exact rd_zret hz hr hlk dX0_isCut_15 (bI_1 (by simp [c_7]))

theorem hinX0_loudnessOf_X0 : ∀ w ∈ wsX00, w ∈ wsX0_loudnessOf := fun _ h => List.mem_cons_of_mem _ (List.mem_append_right _ h)
set_option maxHeartbeats 4000000 in
set_option maxRecDepth 100000 in
theorem c0_loudnessOf (l_ : Launch) (D : va_G) (k : Nat → ClassId) (a : Nat → Nat) (o : Nat) (tS : Nat) (sk sv : Nat → Nat) (F : Nat → Nat) (E : Nat → Nat → Nat) (M : Nat → Nat) (w s : Nat) (hR : Rb M F E) (hf : Wf M) (hw : w < 8) (hs : 1 ≤ s) (hs2 : s ≤ 3) : Met l_ yX0_loudnessOf wsX0_loudnessOf ({ frames := 1, cells := 0, slots := 0, locals := 21 }) (va_Pc [.ref (a o), .int (nI w), .int (nI s)] (wH (Am tS sk sv) D k (bw a o k F E))) (QcRead (nI (sLoud (M (3 + w)) s))) 0 0 (fun _ => False) := by
  refine my_entry (cc := cX0_loudnessOf) (maxL := 3) (ret := some .int) (by decide) rfl (Nat.le_of_ble_eq_true rfl) ?_
  intro p_ e_ s_ m_ bl_ me_ c_ hz hr hlk hB ls hl
  obtain ⟨hP, hK, hD0, hy⟩ := hB
  have hD := wA.self hD0
  have hS : va_S (wA (bw a o k F E)) s_.heap s_.heap [] := va_S.rf
  have hl : lv_has ls 3 [(0, .ref (a o)), (1, .int (nI w)), (2, .int (nI s))] := hl
  have hk := hf.kd hw
  have f0 := hf.n2
  have f1 := hf.n9
  have f2 := hf.fr
  have f3 := hf.gd
  have f4 := hf.pc
  have f5 := hf.wc
  refine lv_aload_n hz.1 hz.2.1 dX0_loudnessOf_0 rfl (lv_at hl 0 rfl) ?_
  refine rg (T := TX0) (N := 12) hz hinX0_loudnessOf_X0 hK hP 0 rfl rfl 5 (by decide) (List.mem_of_getElem? (i := 1) rfl) rfl (v := .ref (a (o + 1))) rfl dX0_loudnessOf_1 ?_
  refine lv_iload_n hz.1 hz.2.1 dX0_loudnessOf_4 rfl (lv_at hl 1 rfl) ?_
  refine rald hz hK hP 1 0 rfl rfl (i := w) (by omega) (by decide) (v := nI (E 0 w)) rfl dX0_loudnessOf_5 ?_
  refine toe (z := nI (M (3 + w))) (by rw [(hR.2.1 _ (by omega)).1]) ?_
  refine lv_iload_n hz.1 hz.2.1 dX0_loudnessOf_6 rfl (lv_at hl 2 rfl) ?_
  refine rdSN (As := [.int (nI (M (3 + w))), .int (nI s)]) (rest := []) hz (c5_loudBy l_ (M (3 + w)) s (by omega) (by omega) (by omega)) rfl gX0_loudnessOf_X5_loudBy_n70 rfl ⟨rfl, rfl⟩ hy (List.mem_of_getElem? (i := 2) rfl) (List.mem_of_getElem? (i := 3) rfl) (List.mem_of_getElem? (i := 2) rfl) (by decide +kernel) ⟨Nat.le_of_ble_eq_true rfl, Nat.le_of_ble_eq_true rfl⟩ rfl hl.1 rfl (Nat.le_of_ble_eq_true rfl) dX0_loudnessOf_7 ⟨Nat.zero_le _, Nat.zero_le _⟩ ?_
  exact rd_iret hz hr hlk dX0_loudnessOf_10 (rfl)

theorem hinX0_noteOf_X0 : ∀ w ∈ wsX00, w ∈ wsX0_noteOf := fun _ h => List.mem_cons_of_mem _ (List.mem_append_right _ h)
set_option maxHeartbeats 4000000 in
set_option maxRecDepth 100000 in
theorem c0_noteOf (l_ : Launch) (D : va_G) (k : Nat → ClassId) (a : Nat → Nat) (o : Nat) (tS : Nat) (sk sv : Nat → Nat) (F : Nat → Nat) (E : Nat → Nat → Nat) (M : Nat → Nat) (w : Nat) (hR : Rb M F E) (hf : Wf M) (hw : w < 8) : Met l_ yX0_noteOf wsX0_noteOf ({ frames := 1, cells := 0, slots := 0, locals := 22 }) (va_Pc [.ref (a o), .int (nI w)] (wH (Am tS sk sv) D k (bw a o k F E))) (QcRead (nI (sNote M w))) 0 0 (fun _ => False) := by
  refine my_entry (cc := cX0_noteOf) (maxL := 2) (ret := some .int) (by decide) rfl (Nat.le_of_ble_eq_true rfl) ?_
  intro p_ e_ s_ m_ bl_ me_ c_ hz hr hlk hB ls hl
  obtain ⟨hP, hK, hD0, hy⟩ := hB
  have hD := wA.self hD0
  have hS : va_S (wA (bw a o k F E)) s_.heap s_.heap [] := va_S.rf
  have hl : lv_has ls 2 [(0, .ref (a o)), (1, .int (nI w))] := hl
  have hk := hf.kd hw
  have ht := hf.tn hw
  have f0 := hf.n2
  have f1 := hf.n9
  have f2 := hf.fr
  have f3 := hf.gd
  have f4 := hf.pc
  have f5 := hf.wc
  refine lv_aload_n hz.1 hz.2.1 dX0_noteOf_0 rfl (lv_at hl 0 rfl) ?_
  refine rg (T := TX0) (N := 12) hz hinX0_noteOf_X0 hK hP 0 rfl rfl 5 (by decide) (List.mem_of_getElem? (i := 1) rfl) rfl (v := .ref (a (o + 1))) rfl dX0_noteOf_1 ?_
  refine lv_iload_n hz.1 hz.2.1 dX0_noteOf_4 rfl (lv_at hl 1 rfl) ?_
  refine rald hz hK hP 1 0 rfl rfl (i := w) (by omega) (by decide) (v := nI (E 0 w)) rfl dX0_noteOf_5 ?_
  refine toe (z := nI (M (3 + w))) (by rw [(hR.2.1 _ (by omega)).1]) ?_
  refine lv_aload_n hz.1 hz.2.1 dX0_noteOf_6 rfl (lv_at hl 0 rfl) ?_
  refine rg (T := TX0) (N := 12) hz hinX0_noteOf_X0 hK hP 0 rfl rfl 6 (by decide) (List.mem_of_getElem? (i := 2) rfl) rfl (v := .ref (a (o + 2))) rfl dX0_noteOf_7 ?_
  refine lv_iload_n hz.1 hz.2.1 dX0_noteOf_10 rfl (lv_at hl 1 rfl) ?_
  refine rald hz hK hP 2 0 rfl rfl (i := w) (by omega) (by decide) (v := nI (E 1 w)) rfl dX0_noteOf_11 ?_
  refine toe (z := nI (M (11 + w))) (by rw [(hR.2.1 _ (by omega)).2]) ?_
  refine lv_aload_n hz.1 hz.2.1 dX0_noteOf_12 rfl (lv_at hl 0 rfl) ?_
  refine rg (T := TX0) (N := 12) hz hinX0_noteOf_X0 hK hP 0 rfl rfl 1 (by decide) (List.mem_of_getElem? (i := 3) rfl) rfl (v := .int (nI (F 1))) rfl dX0_noteOf_13 ?_
  refine toe (z := nI (M 1)) (by rw [hR.1.2.1]) ?_
  refine rdSN (As := [.int (nI (M (3 + w))), .int (nI (M (11 + w))), .int (nI (M 1))]) (rest := []) hz (c5_noteBy l_ (M (3 + w)) (M (11 + w)) (M 1) (by omega) (by omega) (by omega)) rfl gX0_noteOf_X5_noteBy_n74 rfl ⟨rfl, rfl⟩ hy (List.mem_of_getElem? (i := 3) rfl) (List.mem_of_getElem? (i := 5) rfl) (List.mem_of_getElem? (i := 4) rfl) (by decide +kernel) ⟨Nat.le_of_ble_eq_true rfl, Nat.le_of_ble_eq_true rfl⟩ rfl hl.1 rfl (Nat.le_of_ble_eq_true rfl) dX0_noteOf_16 ⟨Nat.zero_le _, Nat.zero_le _⟩ ?_
  exact rd_iret hz hr hlk dX0_noteOf_19 (rfl)

theorem hinX0_span_X0 : ∀ w ∈ wsX00, w ∈ wsX0_span := fun _ h => List.mem_cons_of_mem _ (List.mem_append_right _ h)
set_option maxHeartbeats 4000000 in
set_option maxRecDepth 100000 in
theorem c0_span (l_ : Launch) (D : va_G) (k : Nat → ClassId) (a : Nat → Nat) (o : Nat) (tS : Nat) (sk sv : Nat → Nat) (F : Nat → Nat) (E : Nat → Nat → Nat) (M : Nat → Nat) (w s : Nat) (hR : Rb M F E) (hf : Wf M) (hw : w < 8) (hs : s < 10) : Met l_ yX0_span wsX0_span ({ frames := 1, cells := 0, slots := 0, locals := 21 }) (va_Pc [.ref (a o), .int (nI w), .int (nI s)] (wH (Am tS sk sv) D k (bw a o k F E))) (QcRead (nI (sSpan (M 0) w s))) 0 0 (fun _ => False) := by
  refine my_entry (cc := cX0_span) (maxL := 5) (ret := some .int) (by decide) rfl (Nat.le_of_ble_eq_true rfl) ?_
  intro p_ e_ s_ m_ bl_ me_ c_ hz hr hlk hB ls hl
  obtain ⟨hP, hK, hD0, hy⟩ := hB
  have hD := wA.self hD0
  have hS : va_S (wA (bw a o k F E)) s_.heap s_.heap [] := va_S.rf
  have hl : lv_has ls 5 [(0, .ref (a o)), (1, .int (nI w)), (2, .int (nI s))] := hl
  have g0 := hw
  have f0 := hf.n2
  have f1 := hf.n9
  have f2 := hf.fr
  have f3 := hf.gd
  have f4 := hf.pc
  have f5 := hf.wc
  refine lv_iconst (v := nI 0) hz.1 hz.2.1 dX0_span_0 (by decide) ?_
  refine lv_iload_n hz.1 hz.2.1 dX0_span_1 rfl (lv_at hl 1 rfl) ?_
  refine lv_iload_n hz.1 hz.2.1 dX0_span_2 rfl (lv_at hl 2 rfl) ?_
  refine lv_isub hz.1 hz.2.1 dX0_span_3 ?_
  refine toe (z := nI w - nI s) (rfl) ?_
  refine lv_iconst (v := nI 1) hz.1 hz.2.1 dX0_span_4 (by decide) ?_
  refine lv_iadd hz.1 hz.2.1 dX0_span_5 ?_
  refine va_mmax hz.1 hz.2.1 (by rw [hz.2.2.1]; exact hl.1.symm) hz.2.2.2.1 (hz.2.2.2.2 _ (List.mem_of_getElem? (i := 1) rfl)) (hz.2.2.2.2 _ (List.mem_of_getElem? (i := 2) rfl)) (hz.2.2.2.2 _ (List.mem_of_getElem? (i := 3) rfl)) (hz.2.2.2.2 _ (List.mem_of_getElem? (i := 4) rfl)) (Nat.le_of_ble_eq_true rfl) (Nat.le_of_ble_eq_true rfl) (Nat.zero_le _) (Nat.zero_le _) dX0_span_6 ?_
  refine toe (z := nI (w + 1 - s)) (span_max (by omega) (by omega)) ?_
  refine lv_istore_n (lv' := [(3, .int (nI (w + 1 - s))), (0, .ref (a o)), (1, .int (nI w)), (2, .int (nI s))]) hz.1 hz.2.1 dX0_span_9 rfl hl (by decide) rfl (fun ls hl => ?_)
  refine lv_aload_n hz.1 hz.2.1 dX0_span_10 rfl (lv_at hl 1 rfl) ?_
  refine rg (T := TX0) (N := 12) hz hinX0_span_X0 hK hP 0 rfl rfl 0 (by decide) (List.mem_of_getElem? (i := 5) rfl) rfl (v := .int (nI (F 0))) rfl dX0_span_11 ?_
  refine toe (z := nI (M 0)) (by rw [hR.1.1]) ?_
  refine lv_iconst (v := nI 1) hz.1 hz.2.1 dX0_span_14 (by decide) ?_
  refine lv_isub hz.1 hz.2.1 dX0_span_15 ?_
  refine toe (z := nI ((M 0) - 1)) (pk_sub (by omega)) ?_
  refine lv_iload_n hz.1 hz.2.1 dX0_span_16 rfl (lv_at hl 2 rfl) ?_
  refine lv_iload_n hz.1 hz.2.1 dX0_span_17 rfl (lv_at hl 3 rfl) ?_
  refine lv_iadd hz.1 hz.2.1 dX0_span_18 ?_
  refine toe (z := nI (w + s)) (nI_add _ _) ?_
  refine va_mmin hz.1 hz.2.1 (by rw [hz.2.2.1]; exact hl.1.symm) hz.2.2.2.1 (hz.2.2.2.2 _ (List.mem_of_getElem? (i := 6) rfl)) (hz.2.2.2.2 _ (List.mem_of_getElem? (i := 7) rfl)) (hz.2.2.2.2 _ (List.mem_of_getElem? (i := 3) rfl)) (hz.2.2.2.2 _ (List.mem_of_getElem? (i := 8) rfl)) (Nat.le_of_ble_eq_true rfl) (Nat.le_of_ble_eq_true rfl) (Nat.zero_le _) (Nat.zero_le _) dX0_span_19 ?_
  refine toe (z := nI (min (M 0 - 1) (w + s))) (span_min (by omega) (by omega)) ?_
  refine lv_istore (lv' := [(4, .int (nI (min (M 0 - 1) (w + s)))), (3, .int (nI (w + 1 - s))), (0, .ref (a o)), (1, .int (nI w)), (2, .int (nI s))]) hz.1 hz.2.1 dX0_span_22 hl (by decide) rfl (fun ls hl => ?_)
  refine lv_iconst (v := nI 1) hz.1 hz.2.1 dX0_span_24 (by decide) ?_
  refine lv_iload hz.1 hz.2.1 dX0_span_25 (lv_at hl 0 rfl) ?_
  refine lv_iconst (v := nI 1) hz.1 hz.2.1 dX0_span_27 (by decide) ?_
  refine lv_iadd hz.1 hz.2.1 dX0_span_28 ?_
  refine toe (z := nI ((min (M 0 - 1) (w + s)) + 1)) (nI_add _ _) ?_
  refine lv_ishl hz.1 hz.2.1 dX0_span_29 ?_
  refine toe (z := nI (2 ^ ((min (M 0 - 1) (w + s)) + 1))) (nI_shl1 (by omega)) ?_
  refine lv_iconst (v := nI 1) hz.1 hz.2.1 dX0_span_30 (by decide) ?_
  refine lv_iload_n hz.1 hz.2.1 dX0_span_31 rfl (lv_at hl 1 rfl) ?_
  refine lv_ishl hz.1 hz.2.1 dX0_span_32 ?_
  refine toe (z := nI (2 ^ (w + 1 - s))) (nI_shl1 (by omega)) ?_
  refine lv_isub hz.1 hz.2.1 dX0_span_33 ?_
  refine toe (z := nI ((2 ^ ((min (M 0 - 1) (w + s)) + 1)) - (2 ^ (w + 1 - s)))) (pk_sub (by omega)) ?_
  exact rd_iret hz hr hlk dX0_span_34 (rfl)
