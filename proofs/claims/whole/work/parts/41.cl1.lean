set_option maxHeartbeats 4000000 in
set_option maxRecDepth 100000 in
theorem c5_within (l_ : Launch) (x : Int32) (lo hi : Nat)  : Met l_ yX5_within wsX5_within ({ frames := 0, cells := 0, slots := 0, locals := 0 }) (va_Pc [.int x, .int (nI lo), .int (nI hi)] (fun _ => True)) (QcRead (bI (wIn x lo hi))) 0 0 (fun _ => False) := by
  refine my_entry (cc := cX5_within) (maxL := 3) (ret := some .boolean) (by decide) rfl (Nat.le_of_ble_eq_true rfl) ?_
  intro p_ e_ s_ m_ bl_ me_ c_ hz hr hlk hB ls hl
  have hl : lv_has ls 3 [(0, .int x), (1, .int (nI lo)), (2, .int (nI hi))] := hl
  refine lv_iload_n hz.1 hz.2.1 dX5_within_0 rfl (lv_at hl 0 rfl) ?_
  refine lv_iload_n hz.1 hz.2.1 dX5_within_1 rfl (lv_at hl 1 rfl) ?_
  refine lv_icmp_lt (tgt := 14) hz.1 hz.2.1 dX5_within_2 (by decide) (fun c_2 => ?_) (fun c_2 => ?_)
  · refine lv_iconst (v := nI 0) hz.1 hz.2.1 dX5_within_14 (by decide) ?_
    exact rd_zret hz hr hlk dX5_within_15 (bI_0 (by unfold wIn; rw [decide_eq_false (fa_of_lt c_2).2.1]; rfl))
  · refine lv_iload_n hz.1 hz.2.1 dX5_within_5 rfl (lv_at hl 0 rfl) ?_
    refine lv_iload_n hz.1 hz.2.1 dX5_within_6 rfl (lv_at hl 2 rfl) ?_
    refine lv_icmp_gt (tgt := 14) hz.1 hz.2.1 dX5_within_7 (by decide) (fun c_7 => ?_) (fun c_7 => ?_)
    · refine lv_iconst (v := nI 0) hz.1 hz.2.1 dX5_within_14 (by decide) ?_
      exact rd_zret hz hr hlk dX5_within_15 (bI_0 (by unfold wIn; rw [decide_eq_false (fa_of_lt c_7).2.1, Bool.and_false]))
    · refine lv_iconst (v := nI 1) hz.1 hz.2.1 dX5_within_10 (by decide) ?_
      refine lv_goto (tgt := 15) hz.1 hz.2.1 dX5_within_11 (by decide) ?_
      exact rd_zret hz hr hlk dX5_within_15 (bI_1 (by unfold wIn; rw [decide_eq_true (fa_of_nlt c_2), decide_eq_true (fa_of_nlt c_7)]; rfl))

set_option maxHeartbeats 4000000 in
set_option maxRecDepth 100000 in
theorem c5_inRow (l_ : Launch) (x : Int32) (mm m1 : Nat) (h0 : mm = m1 + 1) (h2 : mm < 2147483648) : Met l_ yX5_inRow wsX5_inRow ({ frames := 0, cells := 0, slots := 0, locals := 0 }) (va_Pc [.int x, .int (nI mm)] (fun _ => True)) (QcRead (bI (wIn x 0 m1))) 0 0 (fun _ => False) := by
  refine my_entry (cc := cX5_inRow) (maxL := 2) (ret := some .boolean) (by decide) rfl (Nat.le_of_ble_eq_true rfl) ?_
  intro p_ e_ s_ m_ bl_ me_ c_ hz hr hlk hB ls hl
  have hl : lv_has ls 2 [(0, .int x), (1, .int (nI mm))] := hl
  have h1 : 1 ≤ mm := by omega
  have e1 : mm - 1 = m1 := by omega
  refine lv_iload_n hz.1 hz.2.1 dX5_inRow_0 rfl (lv_at hl 0 rfl) ?_
  refine lv_if_lt (tgt := 13) hz.1 hz.2.1 dX5_inRow_1 (by decide) (fun c_1 => ?_) (fun c_1 => ?_)
  · refine lv_iconst (v := nI 0) hz.1 hz.2.1 dX5_inRow_13 (by decide) ?_
    exact rd_zret hz hr hlk dX5_inRow_14 (by rw [← e1]; exact inRow_0 h1 h2 (Or.inl c_1))
  · refine lv_iload_n hz.1 hz.2.1 dX5_inRow_4 rfl (lv_at hl 0 rfl) ?_
    refine lv_iload_n hz.1 hz.2.1 dX5_inRow_5 rfl (lv_at hl 1 rfl) ?_
    refine lv_icmp_ge (tgt := 13) hz.1 hz.2.1 dX5_inRow_6 (by decide) (fun c_6 => ?_) (fun c_6 => ?_)
    · refine lv_iconst (v := nI 0) hz.1 hz.2.1 dX5_inRow_13 (by decide) ?_
      exact rd_zret hz hr hlk dX5_inRow_14 (by rw [← e1]; exact inRow_0 h1 h2 (Or.inr c_6))
    · refine lv_iconst (v := nI 1) hz.1 hz.2.1 dX5_inRow_9 (by decide) ?_
      refine lv_goto (tgt := 14) hz.1 hz.2.1 dX5_inRow_10 (by decide) ?_
      exact rd_zret hz hr hlk dX5_inRow_14 (by rw [← e1]; exact inRow_1 h1 h2 c_1 c_6)

set_option maxHeartbeats 4000000 in
set_option maxRecDepth 100000 in
theorem c5_has (l_ : Launch) (x j : Nat) (h1 : x < 2147483648) (h2 : j < 32) : Met l_ yX5_has wsX5_has ({ frames := 0, cells := 0, slots := 0, locals := 0 }) (va_Pc [.int (nI x), .int (nI j)] (fun _ => True)) (QcRead (bI (x.testBit j))) 0 0 (fun _ => False) := by
  refine my_entry (cc := cX5_has) (maxL := 2) (ret := some .boolean) (by decide) rfl (Nat.le_of_ble_eq_true rfl) ?_
  intro p_ e_ s_ m_ bl_ me_ c_ hz hr hlk hB ls hl
  have hl : lv_has ls 2 [(0, .int (nI x)), (1, .int (nI j))] := hl
  refine lv_iload_n hz.1 hz.2.1 dX5_has_0 rfl (lv_at hl 0 rfl) ?_
  refine lv_iload_n hz.1 hz.2.1 dX5_has_1 rfl (lv_at hl 1 rfl) ?_
  refine lv_ishr hz.1 hz.2.1 dX5_has_2 ?_
  refine toe (z := nI (x / 2 ^ j)) (nI_shr (by omega) (by omega)) ?_
  refine lv_iconst (v := nI 1) hz.1 hz.2.1 dX5_has_3 (by decide) ?_
  refine lv_iand hz.1 hz.2.1 dX5_has_4 ?_
  refine toe (z := nI ((x / 2 ^ j) % 2)) (nI_and1 _) ?_
  refine jeq0 (tgt := 12) hz dX5_has_5 (by decide) (by omega) (fun c_5 => ?_) (fun c_5 => ?_)
  · refine lv_iconst (v := nI 0) hz.1 hz.2.1 dX5_has_12 (by decide) ?_
    exact rd_zret hz hr hlk dX5_has_13 (bI_0 (by rw [Nat.testBit_eq_decide_div_mod_eq]; simp; omega))
  · refine lv_iconst (v := nI 1) hz.1 hz.2.1 dX5_has_8 (by decide) ?_
    refine lv_goto (tgt := 13) hz.1 hz.2.1 dX5_has_9 (by decide) ?_
    exact rd_zret hz hr hlk dX5_has_13 (bI_1 (by rw [Nat.testBit_eq_decide_div_mod_eq]; simp; omega))

set_option maxHeartbeats 4000000 in
set_option maxRecDepth 100000 in
theorem c5_loudBy (l_ : Launch) (kd s : Nat) (h1 : kd ≤ 4) (h2 : 1 ≤ s) (h3 : s < 100) : Met l_ yX5_loudBy wsX5_loudBy ({ frames := 0, cells := 0, slots := 0, locals := 0 }) (va_Pc [.int (nI kd), .int (nI s)] (fun _ => True)) (QcRead (nI (sLoud kd s))) 0 0 (fun _ => False) := by
  refine my_entry (cc := cX5_loudBy) (maxL := 2) (ret := some .int) (by decide) rfl (Nat.le_of_ble_eq_true rfl) ?_
  intro p_ e_ s_ m_ bl_ me_ c_ hz hr hlk hB ls hl
  have hl : lv_has ls 2 [(0, .int (nI kd)), (1, .int (nI s))] := hl
  refine lv_iload_n hz.1 hz.2.1 dX5_loudBy_0 rfl (lv_at hl 0 rfl) ?_
  by_cases sw_1_1 : kd = 1
  · refine lv_tableIn (off := 31) (tgt := 32) hz.1 hz.2.1 dX5_loudBy_1 (by rw [sw_1_1]; decide) (by rw [sw_1_1]; decide) (by rw [sw_1_1]; decide) (by decide) ?_
    refine lv_iload_n hz.1 hz.2.1 dX5_loudBy_32 rfl (lv_at hl 1 rfl) ?_
    refine lv_iconst (v := nI 2) hz.1 hz.2.1 dX5_loudBy_33 (by decide) ?_
    refine lv_iadd hz.1 hz.2.1 dX5_loudBy_34 ?_
    refine toe (z := nI (s + 2)) (nI_add _ _) ?_
    exact rd_iret hz hr hlk dX5_loudBy_35 (by simp [sLoud, sw_1_1])
  by_cases sw_1_2 : kd = 2
  · refine lv_tableIn (off := 35) (tgt := 36) hz.1 hz.2.1 dX5_loudBy_1 (by rw [sw_1_2]; decide) (by rw [sw_1_2]; decide) (by rw [sw_1_2]; decide) (by decide) ?_
    refine lv_iload_n hz.1 hz.2.1 dX5_loudBy_36 rfl (lv_at hl 1 rfl) ?_
    refine lv_iconst (v := nI 1) hz.1 hz.2.1 dX5_loudBy_37 (by decide) ?_
    refine lv_isub hz.1 hz.2.1 dX5_loudBy_38 ?_
    refine toe (z := nI (s - 1)) (pk_sub (by omega)) ?_
    exact rd_iret hz hr hlk dX5_loudBy_39 (by simp [sLoud, sw_1_1, sw_1_2])
  by_cases sw_1_3 : kd = 3
  · refine lv_tableIn (off := 35) (tgt := 36) hz.1 hz.2.1 dX5_loudBy_1 (by rw [sw_1_3]; decide) (by rw [sw_1_3]; decide) (by rw [sw_1_3]; decide) (by decide) ?_
    refine lv_iload_n hz.1 hz.2.1 dX5_loudBy_36 rfl (lv_at hl 1 rfl) ?_
    refine lv_iconst (v := nI 1) hz.1 hz.2.1 dX5_loudBy_37 (by decide) ?_
    refine lv_isub hz.1 hz.2.1 dX5_loudBy_38 ?_
    refine toe (z := nI (s - 1)) (pk_sub (by omega)) ?_
    exact rd_iret hz hr hlk dX5_loudBy_39 (by simp [sLoud, sw_1_1, sw_1_2, sw_1_3])
  by_cases sw_1_4 : kd = 4
  · refine lv_tableIn (off := 39) (tgt := 40) hz.1 hz.2.1 dX5_loudBy_1 (by rw [sw_1_4]; decide) (by rw [sw_1_4]; decide) (by rw [sw_1_4]; decide) (by decide) ?_
    refine lv_iconst (v := nI 0) hz.1 hz.2.1 dX5_loudBy_40 (by decide) ?_
    exact rd_iret hz hr hlk dX5_loudBy_41 (by simp [sLoud, sw_1_1, sw_1_2, sw_1_3, sw_1_4])
  refine lv_tableOut (tgt := 42) hz.1 hz.2.1 dX5_loudBy_1 (by rw [nI_toInt (by omega)]; omega) (by decide) ?_
  refine lv_iload_n hz.1 hz.2.1 dX5_loudBy_42 rfl (lv_at hl 1 rfl) ?_
  exact rd_iret hz hr hlk dX5_loudBy_43 (by simp [sLoud, sw_1_1, sw_1_2, sw_1_3, sw_1_4])

set_option maxHeartbeats 4000000 in
set_option maxRecDepth 100000 in
theorem c5_noteBy (l_ : Launch) (kd t f : Nat) (h1 : kd < 1000) (h2 : t < 1000) (h3 : f < 1000) : Met l_ yX5_noteBy wsX5_noteBy ({ frames := 0, cells := 0, slots := 0, locals := 0 }) (va_Pc [.int (nI kd), .int (nI t), .int (nI f)] (fun _ => True)) (QcRead (nI (sNoteBy kd t f))) 0 0 (fun _ => False) := by
  refine my_entry (cc := cX5_noteBy) (maxL := 3) (ret := some .int) (by decide) rfl (Nat.le_of_ble_eq_true rfl) ?_
  intro p_ e_ s_ m_ bl_ me_ c_ hz hr hlk hB ls hl
  have hl : lv_has ls 3 [(0, .int (nI kd)), (1, .int (nI t)), (2, .int (nI f))] := hl
  refine lv_iload_n hz.1 hz.2.1 dX5_noteBy_0 rfl (lv_at hl 0 rfl) ?_
  by_cases sw_1_2 : kd = 2
  · refine lv_lookup (off := 27) (tgt := 28) hz.1 hz.2.1 dX5_noteBy_1 (by decide) (by rw [sw_1_2]; decide) (by decide) ?_
    refine lv_iload_n hz.1 hz.2.1 dX5_noteBy_28 rfl (lv_at hl 1 rfl) ?_
    refine lv_iload_n hz.1 hz.2.1 dX5_noteBy_29 rfl (lv_at hl 2 rfl) ?_
    refine lv_iadd hz.1 hz.2.1 dX5_noteBy_30 ?_
    refine toe (z := nI (t + f)) (nI_add _ _) ?_
    refine lv_bipush (v := nI 12) hz.1 hz.2.1 dX5_noteBy_31 (by decide) ?_
    refine lv_iadd hz.1 hz.2.1 dX5_noteBy_33 ?_
    refine toe (z := nI ((t + f) + 12)) (nI_add _ _) ?_
    refine lv_iconst (v := nI 1) hz.1 hz.2.1 dX5_noteBy_34 (by decide) ?_
    refine lv_isub hz.1 hz.2.1 dX5_noteBy_35 ?_
    refine toe (z := nI (((t + f) + 12) - 1)) (pk_sub (by omega)) ?_
    refine lv_bipush (v := nI 12) hz.1 hz.2.1 dX5_noteBy_36 (by decide) ?_
    refine lv_irem hz.1 hz.2.1 dX5_noteBy_38 (nI_ne0 (by omega) (by omega)) ?_
    refine toe (z := nI ((((t + f) + 12) - 1) % 12)) (pk_rem (by omega) (by omega) (by omega)) ?_
    exact rd_iret hz hr hlk dX5_noteBy_39 (by rw [show t + f + 12 - 1 = t + f + 11 by omega]; simp [sNoteBy, sw_1_2])
  by_cases sw_1_3 : kd = 3
  · refine lv_lookup (off := 39) (tgt := 40) hz.1 hz.2.1 dX5_noteBy_1 (by decide) (by rw [sw_1_3]; decide) (by decide) ?_
    refine lv_iload_n hz.1 hz.2.1 dX5_noteBy_40 rfl (lv_at hl 1 rfl) ?_
    refine lv_bipush (v := nI 12) hz.1 hz.2.1 dX5_noteBy_41 (by decide) ?_
    refine lv_iadd hz.1 hz.2.1 dX5_noteBy_43 ?_
    refine toe (z := nI (t + 12)) (nI_add _ _) ?_
    refine lv_iconst (v := nI 1) hz.1 hz.2.1 dX5_noteBy_44 (by decide) ?_
    refine lv_isub hz.1 hz.2.1 dX5_noteBy_45 ?_
    refine toe (z := nI ((t + 12) - 1)) (pk_sub (by omega)) ?_
    refine lv_bipush (v := nI 12) hz.1 hz.2.1 dX5_noteBy_46 (by decide) ?_
    refine lv_irem hz.1 hz.2.1 dX5_noteBy_48 (nI_ne0 (by omega) (by omega)) ?_
    refine toe (z := nI (((t + 12) - 1) % 12)) (pk_rem (by omega) (by omega) (by omega)) ?_
    exact rd_iret hz hr hlk dX5_noteBy_49 (by rw [show t + 12 - 1 = t + 11 by omega]; simp [sNoteBy, sw_1_2, sw_1_3])
  refine lv_lookup (off := 49) (tgt := 50) hz.1 hz.2.1 dX5_noteBy_1 (by decide) (by show Op.lookupswitch.offset [(2, 27), (3, 39)] _ _ = _; rw [lv_osw (k := nI 2) (fun q => sw_1_2 ((nI_eq (by omega) (by decide)).mp q)) (by decide), lv_osw (k := nI 3) (fun q => sw_1_3 ((nI_eq (by omega) (by decide)).mp q)) (by decide)]; rfl) (by decide) ?_
  refine lv_iload_n hz.1 hz.2.1 dX5_noteBy_50 rfl (lv_at hl 1 rfl) ?_
  refine lv_iload_n hz.1 hz.2.1 dX5_noteBy_51 rfl (lv_at hl 2 rfl) ?_
  refine lv_iadd hz.1 hz.2.1 dX5_noteBy_52 ?_
  refine toe (z := nI (t + f)) (nI_add _ _) ?_
  refine lv_bipush (v := nI 12) hz.1 hz.2.1 dX5_noteBy_53 (by decide) ?_
  refine lv_irem hz.1 hz.2.1 dX5_noteBy_55 (nI_ne0 (by omega) (by omega)) ?_
  refine toe (z := nI ((t + f) % 12)) (pk_rem (by omega) (by omega) (by omega)) ?_
  exact rd_iret hz hr hlk dX5_noteBy_56 (by simp [sNoteBy, sw_1_2, sw_1_3])

set_option maxHeartbeats 4000000 in
set_option maxRecDepth 100000 in
theorem c5_choose (l_ : Launch) (n kk : Nat) (hn : n < 10) (hk : kk < 10) : Met l_ yX5_choose wsX5_choose ({ frames := 0, cells := 0, slots := 0, locals := 0 }) (va_Pc [.int (nI n), .int (nI kk)] (fun _ => True)) (QcRead (nI (sCh n kk))) 0 0 (fun _ => False) := by
  refine my_entry (cc := cX5_choose) (maxL := 4) (ret := some .int) (by decide) rfl (Nat.le_of_ble_eq_true rfl) ?_
  intro p_ e_ s_ m_ bl_ me_ c_ hz hr hlk hB ls hl
  have hl : lv_has ls 4 [(0, .int (nI n)), (1, .int (nI kk))] := hl
  refine lv_iload_n hz.1 hz.2.1 dX5_choose_0 rfl (lv_at hl 1 rfl) ?_
  refine lv_iload_n hz.1 hz.2.1 dX5_choose_1 rfl (lv_at hl 0 rfl) ?_
  refine jle (tgt := 7) hz dX5_choose_2 (by decide) (by omega) (by omega) (fun c_2 => ?_) (fun c_2 => ?_)
  · refine lv_iconst (v := nI 1) hz.1 hz.2.1 dX5_choose_7 (by decide) ?_
    refine toe (z := nI (sCh (n - kk + 0) 0)) (by rw [sCh_0]) ?_
    refine lv_istore_n (lv' := [(2, .int (nI (sCh (n - kk + 0) 0))), (0, .int (nI n)), (1, .int (nI kk))]) hz.1 hz.2.1 dX5_choose_8 rfl hl (by decide) rfl (fun ls hl => ?_)
    refine lv_iconst (v := nI 1) hz.1 hz.2.1 dX5_choose_9 (by decide) ?_
    refine toe (z := nI (0 + 1)) (rfl) ?_
    refine lv_istore_n (lv' := [(3, .int (nI (0 + 1))), (2, .int (nI (sCh (n - kk + 0) 0))), (0, .int (nI n)), (1, .int (nI kk))]) hz.1 hz.2.1 dX5_choose_10 rfl hl (by decide) rfl (fun ls hl => ?_)
    have lp_11 : ∀ (fu : Nat) (j : Nat), (j ≤ kk) → kk - j < fu → ∀ ls : Array Slot, lv_has ls 4 [(0, .int (nI n)), (1, .int (nI kk)), (2, .int (nI (sCh (n - kk + j) j))), (3, .int (nI (j + 1)))] → W p_ l_ e_ ({ frames := 0, cells := 0, slots := 0, locals := 0 }) s_ m_ [.int (nI n), .int (nI kk)].toArray bl_ me_ c_ s_.heap [] 0 0 (MQ bl_ (QcRead (nI (sCh n kk))) [.int (nI n), .int (nI kk)].toArray s_ 0 0 (fun _ => False)) (F0 m_ 11 ls []) := by
      intro fu
      induction fu with
      | zero => intro j hj hm; exact absurd hm (Nat.not_lt_zero _)
      | succ fu ih11 =>
        intro j hj hm ls hl
        refine lv_iload_n hz.1 hz.2.1 dX5_choose_11 rfl (lv_at hl 3 rfl) ?_
        refine lv_iload_n hz.1 hz.2.1 dX5_choose_12 rfl (lv_at hl 1 rfl) ?_
        refine jgt (tgt := 32) hz dX5_choose_13 (by decide) (by omega) (by omega) (fun c_13 => ?_) (fun c_13 => ?_)
        · obtain rfl : kk = j := by omega
          refine lv_iload_n hz.1 hz.2.1 dX5_choose_32 rfl (lv_at hl 2 rfl) ?_
          exact rd_iret hz hr hlk dX5_choose_33 (by rw [show n - kk + kk = n by omega])
        · have v1 := sCh_lt (n - kk + j) (by omega) j (by omega)
          have v2 : sCh (n - kk + j) j * (n - kk + (j + 1)) ≤ 1000 * 20 := Nat.mul_le_mul (by omega) (by omega)
          refine lv_iload_n hz.1 hz.2.1 dX5_choose_16 rfl (lv_at hl 2 rfl) ?_
          refine lv_iload_n hz.1 hz.2.1 dX5_choose_17 rfl (lv_at hl 0 rfl) ?_
          refine lv_iload_n hz.1 hz.2.1 dX5_choose_18 rfl (lv_at hl 1 rfl) ?_
          refine lv_isub hz.1 hz.2.1 dX5_choose_19 ?_
          refine toe (z := nI (n - kk)) (pk_sub (by omega)) ?_
          refine lv_iload_n hz.1 hz.2.1 dX5_choose_20 rfl (lv_at hl 3 rfl) ?_
          refine lv_iadd hz.1 hz.2.1 dX5_choose_21 ?_
          refine toe (z := nI ((n - kk) + (j + 1))) (nI_add _ _) ?_
          refine lv_imul hz.1 hz.2.1 dX5_choose_22 ?_
          refine toe (z := nI ((sCh (n - kk + j) j) * ((n - kk) + (j + 1)))) (pk_mul _ _) ?_
          refine lv_iload_n hz.1 hz.2.1 dX5_choose_23 rfl (lv_at hl 3 rfl) ?_
          refine lv_idiv hz.1 hz.2.1 dX5_choose_24 (nI_ne0 (by omega) (by omega)) ?_
          refine toe (z := nI (sCh (n - kk + (j + 1)) (j + 1))) (by rw [pk_div (by omega) (by omega) (by omega), sCh_row (n - kk) j (by omega)]) ?_
          refine lv_istore_n (lv' := [(2, .int (nI (sCh (n - kk + (j + 1)) (j + 1)))), (0, .int (nI n)), (1, .int (nI kk)), (3, .int (nI (j + 1)))]) hz.1 hz.2.1 dX5_choose_25 rfl hl (by decide) rfl (fun ls hl => ?_)
          refine lv_iinc (v := nI (j + 1 + 1)) (lv' := [(3, .int (nI (j + 1 + 1))), (2, .int (nI (sCh (n - kk + (j + 1)) (j + 1)))), (0, .int (nI n)), (1, .int (nI kk))]) hz.1 hz.2.1 dX5_choose_26 hl (k := 3) rfl (nI_add _ 1) (by decide) rfl (fun ls hl => ?_)
          refine lv_goto (tgt := 11) hz.1 hz.2.1 dX5_choose_29 (by decide) ?_
          exact ih11 (j + 1) (by omega) (by omega) ls (lv_sub hl [2, 3, 1, 0] rfl)
    exact lp_11 _ 0 (by omega) (Nat.lt_succ_self _) ls (lv_sub hl [2, 3, 1, 0] rfl)
  · refine lv_iconst (v := nI 0) hz.1 hz.2.1 dX5_choose_5 (by decide) ?_
    exact rd_iret hz hr hlk dX5_choose_6 (by rw [sCh_big n hn kk hk c_2])

theorem hinX0_wireCount_X0 : ∀ w ∈ wsX00, w ∈ wsX0_wireCount := fun _ h => List.mem_cons_of_mem _ (List.mem_append_right _ h)
set_option maxHeartbeats 4000000 in
set_option maxRecDepth 100000 in
theorem c0_wireCount (l_ : Launch) (D : va_G) (k : Nat → ClassId) (a : Nat → Nat) (o : Nat) (tS : Nat) (sk sv : Nat → Nat) (F : Nat → Nat) (E : Nat → Nat → Nat) (M : Nat → Nat)  (hR : Rb M F E) (hf : Wf M) : Met l_ yX0_wireCount wsX0_wireCount ({ frames := 0, cells := 0, slots := 0, locals := 0 }) (va_Pc [.ref (a o)] (wH (Am tS sk sv) D k (bw a o k F E))) (QcRead (nI (M 0 - 1))) 0 0 (fun _ => False) := by
  refine my_entry (cc := cX0_wireCount) (maxL := 1) (ret := some .int) (by decide) rfl (Nat.le_of_ble_eq_true rfl) ?_
  intro p_ e_ s_ m_ bl_ me_ c_ hz hr hlk hB ls hl
  obtain ⟨hP, hK, hD0, hy⟩ := hB
  have hD := wA.self hD0
  have hS : va_S (wA (bw a o k F E)) s_.heap s_.heap [] := va_S.rf
  have hl : lv_has ls 1 [(0, .ref (a o))] := hl
  have f0 := hf.n2
  have f1 := hf.n9
  have f2 := hf.fr
  have f3 := hf.gd
  have f4 := hf.pc
  have f5 := hf.wc
  refine lv_aload_n hz.1 hz.2.1 dX0_wireCount_0 rfl (lv_at hl 0 rfl) ?_
  refine rg (T := TX0) (N := 12) hz hinX0_wireCount_X0 hK hP 0 rfl rfl 0 (by decide) (List.mem_of_getElem? (i := 1) rfl) rfl (v := .int (nI (F 0))) rfl dX0_wireCount_1 ?_
  refine toe (z := nI (M 0)) (by rw [hR.1.1]) ?_
  refine lv_iconst (v := nI 1) hz.1 hz.2.1 dX0_wireCount_4 (by decide) ?_
  refine lv_isub hz.1 hz.2.1 dX0_wireCount_5 ?_
  refine toe (z := nI ((M 0) - 1)) (pk_sub (by omega)) ?_
  exact rd_iret hz hr hlk dX0_wireCount_6 (rfl)

theorem hinX0_isPost_X0 : ∀ w ∈ wsX00, w ∈ wsX0_isPost := fun _ h => List.mem_cons_of_mem _ (List.mem_append_right _ h)
set_option maxHeartbeats 4000000 in
set_option maxRecDepth 100000 in
theorem c0_isPost (l_ : Launch) (D : va_G) (k : Nat → ClassId) (a : Nat → Nat) (o : Nat) (tS : Nat) (sk sv : Nat → Nat) (F : Nat → Nat) (E : Nat → Nat → Nat) (M : Nat → Nat) (x : Int32) (hR : Rb M F E) (hf : Wf M) : Met l_ yX0_isPost wsX0_isPost ({ frames := 1, cells := 0, slots := 0, locals := 21 }) (va_Pc [.ref (a o), .int x] (wH (Am tS sk sv) D k (bw a o k F E))) (QcRead (bI (wIn x 0 (M 0 - 1)))) 0 0 (fun _ => False) := by
  refine my_entry (cc := cX0_isPost) (maxL := 2) (ret := some .boolean) (by decide) rfl (Nat.le_of_ble_eq_true rfl) ?_
  intro p_ e_ s_ m_ bl_ me_ c_ hz hr hlk hB ls hl
  obtain ⟨hP, hK, hD0, hy⟩ := hB
  have hD := wA.self hD0
  have hS : va_S (wA (bw a o k F E)) s_.heap s_.heap [] := va_S.rf
  have hl : lv_has ls 2 [(0, .ref (a o)), (1, .int x)] := hl
  have f0 := hf.n2
  have f1 := hf.n9
  have f2 := hf.fr
  have f3 := hf.gd
  have f4 := hf.pc
  have f5 := hf.wc
  refine lv_iload_n hz.1 hz.2.1 dX0_isPost_0 rfl (lv_at hl 1 rfl) ?_
  refine lv_aload_n hz.1 hz.2.1 dX0_isPost_1 rfl (lv_at hl 0 rfl) ?_
  refine rg (T := TX0) (N := 12) hz hinX0_isPost_X0 hK hP 0 rfl rfl 0 (by decide) (List.mem_of_getElem? (i := 1) rfl) rfl (v := .int (nI (F 0))) rfl dX0_isPost_2 ?_
  refine toe (z := nI (M 0)) (by rw [hR.1.1]) ?_
  refine rdSN (n := 2) (As := [.int x, .int (nI (M 0))]) (rest := []) hz (c5_inRow l_ x (M 0) (M 0 - 1) (by omega) (by omega)) rfl gX0_isPost_X5_inRow_n59 rfl ⟨rfl, rfl⟩ hy (List.mem_of_getElem? (i := 0) rfl) (List.mem_of_getElem? (i := 3) rfl) (List.mem_of_getElem? (i := 2) rfl) (by decide +kernel) ⟨Nat.le_of_ble_eq_true rfl, Nat.le_of_ble_eq_true rfl⟩ rfl hl.1 rfl (Nat.le_of_ble_eq_true rfl) dX0_isPost_5 ⟨Nat.zero_le _, Nat.zero_le _⟩ ?_
  exact rd_zret hz hr hlk dX0_isPost_8 (rfl)

theorem hinX0_isWire_X0 : ∀ w ∈ wsX00, w ∈ wsX0_isWire := fun _ h => List.mem_cons_of_mem _ (List.mem_append_right _ h)
set_option maxHeartbeats 4000000 in
set_option maxRecDepth 100000 in
theorem c0_isWire (l_ : Launch) (D : va_G) (k : Nat → ClassId) (a : Nat → Nat) (o : Nat) (tS : Nat) (sk sv : Nat → Nat) (F : Nat → Nat) (E : Nat → Nat → Nat) (M : Nat → Nat) (x : Int32) (hR : Rb M F E) (hf : Wf M) : Met l_ yX0_isWire wsX0_isWire ({ frames := 1, cells := 0, slots := 0, locals := 21 }) (va_Pc [.ref (a o), .int x] (wH (Am tS sk sv) D k (bw a o k F E))) (QcRead (bI (wIn x 0 (M 0 - 1 - 1)))) 0 0 (fun _ => False) := by
  refine my_entry (cc := cX0_isWire) (maxL := 2) (ret := some .boolean) (by decide) rfl (Nat.le_of_ble_eq_true rfl) ?_
  intro p_ e_ s_ m_ bl_ me_ c_ hz hr hlk hB ls hl
  obtain ⟨hP, hK, hD0, hy⟩ := hB
  have hD := wA.self hD0
  have hS : va_S (wA (bw a o k F E)) s_.heap s_.heap [] := va_S.rf
  have hl : lv_has ls 2 [(0, .ref (a o)), (1, .int x)] := hl
  have f0 := hf.n2
  have f1 := hf.n9
  have f2 := hf.fr
  have f3 := hf.gd
  have f4 := hf.pc
  have f5 := hf.wc
  refine lv_iload_n hz.1 hz.2.1 dX0_isWire_0 rfl (lv_at hl 1 rfl) ?_
  refine lv_aload_n hz.1 hz.2.1 dX0_isWire_1 rfl (lv_at hl 0 rfl) ?_
  refine rdV (A := wA (bw a o k F E)) (As := []) (rest := [.int x]) hz (okAm tS sk sv) (c0_wireCount l_ D k a o tS sk sv F E M  hR hf) (cwV 0 hz.2.2.2.2 gX0_isWire_X0_wireCount rfl rfl rfl (by decide +kernel) ⟨Nat.le_of_ble_eq_true rfl, Nat.le_of_ble_eq_true rfl⟩) hK hy hP hD hS 0 0 rfl rfl rfl rfl hl.1 rfl (Nat.le_of_ble_eq_true rfl) dX0_isWire_2 ⟨Nat.zero_le _, Nat.zero_le _⟩ ?_
  refine rdSN (n := 2) (As := [.int x, .int (nI (M 0 - 1))]) (rest := []) hz (c5_inRow l_ x (M 0 - 1) (M 0 - 1 - 1) (by omega) (by omega)) rfl gX0_isWire_X5_inRow_n59 rfl ⟨rfl, rfl⟩ hy (List.mem_of_getElem? (i := 0) rfl) (List.mem_of_getElem? (i := 8) rfl) (List.mem_of_getElem? (i := 7) rfl) (by decide +kernel) ⟨Nat.le_of_ble_eq_true rfl, Nat.le_of_ble_eq_true rfl⟩ rfl hl.1 rfl (Nat.le_of_ble_eq_true rfl) dX0_isWire_5 ⟨Nat.zero_le _, Nat.zero_le _⟩ ?_
  exact rd_zret hz hr hlk dX0_isWire_8 (rfl)

theorem hinX0_hasGuard_X0 : ∀ w ∈ wsX00, w ∈ wsX0_hasGuard := fun _ h => List.mem_cons_of_mem _ (List.mem_append_right _ h)
set_option maxHeartbeats 4000000 in
set_option maxRecDepth 100000 in
theorem c0_hasGuard (l_ : Launch) (D : va_G) (k : Nat → ClassId) (a : Nat → Nat) (o : Nat) (tS : Nat) (sk sv : Nat → Nat) (F : Nat → Nat) (E : Nat → Nat → Nat) (M : Nat → Nat) (p : Nat) (hR : Rb M F E) (hf : Wf M) (hp : p < 9) : Met l_ yX0_hasGuard wsX0_hasGuard ({ frames := 1, cells := 0, slots := 0, locals := 21 }) (va_Pc [.ref (a o), .int (nI p)] (wH (Am tS sk sv) D k (bw a o k F E))) (QcRead (bI ((M 2).testBit p))) 0 0 (fun _ => False) := by
  refine my_entry (cc := cX0_hasGuard) (maxL := 2) (ret := some .boolean) (by decide) rfl (Nat.le_of_ble_eq_true rfl) ?_
  intro p_ e_ s_ m_ bl_ me_ c_ hz hr hlk hB ls hl
  obtain ⟨hP, hK, hD0, hy⟩ := hB
  have hD := wA.self hD0
  have hS : va_S (wA (bw a o k F E)) s_.heap s_.heap [] := va_S.rf
  have hl : lv_has ls 2 [(0, .ref (a o)), (1, .int (nI p))] := hl
  have f0 := hf.n2
  have f1 := hf.n9
  have f2 := hf.fr
  have f3 := hf.gd
  have f4 := hf.pc
  have f5 := hf.wc
  refine lv_aload_n hz.1 hz.2.1 dX0_hasGuard_0 rfl (lv_at hl 0 rfl) ?_
  refine rg (T := TX0) (N := 12) hz hinX0_hasGuard_X0 hK hP 0 rfl rfl 2 (by decide) (List.mem_of_getElem? (i := 1) rfl) rfl (v := .int (nI (F 2))) rfl dX0_hasGuard_1 ?_
  refine toe (z := nI (M 2)) (by rw [hR.1.2.2.1]) ?_
  refine lv_iload_n hz.1 hz.2.1 dX0_hasGuard_4 rfl (lv_at hl 1 rfl) ?_
  refine rdSN (n := 2) (As := [.int (nI (M 2)), .int (nI p)]) (rest := []) hz (c5_has l_ (M 2) p (by omega) (by omega)) rfl gX0_hasGuard_X5_has_n67 rfl ⟨rfl, rfl⟩ hy (List.mem_of_getElem? (i := 1) rfl) (List.mem_of_getElem? (i := 3) rfl) (List.mem_of_getElem? (i := 2) rfl) (by decide +kernel) ⟨Nat.le_of_ble_eq_true rfl, Nat.le_of_ble_eq_true rfl⟩ rfl hl.1 rfl (Nat.le_of_ble_eq_true rfl) dX0_hasGuard_5 ⟨Nat.zero_le _, Nat.zero_le _⟩ ?_
  exact rd_zret hz hr hlk dX0_hasGuard_8 (rfl)

theorem hinX0_isCut_X0 : ∀ w ∈ wsX00, w ∈ wsX0_isCut := fun _ h => List.mem_cons_of_mem _ (List.mem_append_right _ h)
set_option maxHeartbeats 4000000 in
set_option maxRecDepth 100000 in
theorem c0_isCut (l_ : Launch) (D : va_G) (k : Nat → ClassId) (a : Nat → Nat) (o : Nat) (tS : Nat) (sk sv : Nat → Nat) (F : Nat → Nat) (E : Nat → Nat → Nat) (M : Nat → Nat) (w : Nat) (hR : Rb M F E) (hf : Wf M) (hw : w < 8) : Met l_ yX0_isCut wsX0_isCut ({ frames := 0, cells := 0, slots := 0, locals := 0 }) (va_Pc [.ref (a o), .int (nI w)] (wH (Am tS sk sv) D k (bw a o k F E))) (QcRead (bI (decide (M (3 + w) = 4)))) 0 0 (fun _ => False) := by
  refine my_entry (cc := cX0_isCut) (maxL := 2) (ret := some .boolean) (by decide) rfl (Nat.le_of_ble_eq_true rfl) ?_
  intro p_ e_ s_ m_ bl_ me_ c_ hz hr hlk hB ls hl
  obtain ⟨hP, hK, hD0, hy⟩ := hB
  have hD := wA.self hD0
  have hS : va_S (wA (bw a o k F E)) s_.heap s_.heap [] := va_S.rf
  have hl : lv_has ls 2 [(0, .ref (a o)), (1, .int (nI w))] := hl
  have hk := hf.kd hw
  have f0 := hf.n2
  have f1 := hf.n9
  have f2 := hf.fr
  have f3 := hf.gd
  have f4 := hf.pc
  have f5 := hf.wc
  refine lv_aload_n hz.1 hz.2.1 dX0_isCut_0 rfl (lv_at hl 0 rfl) ?_
  refine rg (T := TX0) (N := 12) hz hinX0_isCut_X0 hK hP 0 rfl rfl 5 (by decide) (List.mem_of_getElem? (i := 1) rfl) rfl (v := .ref (a (o + 1))) rfl dX0_isCut_1 ?_
  refine lv_iload_n hz.1 hz.2.1 dX0_isCut_4 rfl (lv_at hl 1 rfl) ?_
  refine rald hz hK hP 1 0 rfl rfl (i := w) (by omega) (by decide) (v := nI (E 0 w)) rfl dX0_isCut_5 ?_
  refine toe (z := nI (M (3 + w))) (by rw [(hR.2.1 _ (by omega)).1]) ?_
  refine lv_iconst (v := nI 4) hz.1 hz.2.1 dX0_isCut_6 (by decide) ?_
  refine jne (tgt := 14) hz dX0_isCut_7 (by decide) (by omega) (by omega) (fun c_7 => ?_) (fun c_7 => ?_)
  · refine lv_iconst (v := nI 0) hz.1 hz.2.1 dX0_isCut_14 (by decide) ?_
    exact rd_zret hz hr hlk dX0_isCut_15 (bI_0 (by simp [c_7]))
  · refine lv_iconst (v := nI 1) hz.1 hz.2.1 dX0_isCut_10 (by decide) ?_
    refine lv_goto (tgt := 15) hz.1 hz.2.1 dX0_isCut_11 (by decide) ?_
    exact rd_zret hz hr hlk dX0_isCut_15 (bI_1 (by simp [c_7]))

theorem hinX0_loudnessOf_X0 : ∀ w ∈ wsX00, w ∈ wsX0_loudnessOf := fun _ h => List.mem_cons_of_mem _ (List.mem_append_right _ h)
set_option maxHeartbeats 4000000 in
set_option maxRecDepth 100000 in
theorem c0_loudnessOf (l_ : Launch) (D : va_G) (k : Nat → ClassId) (a : Nat → Nat) (o : Nat) (tS : Nat) (sk sv : Nat → Nat) (F : Nat → Nat) (E : Nat → Nat → Nat) (M : Nat → Nat) (w s : Nat) (hR : Rb M F E) (hf : Wf M) (hw : w < 8) (hs : 1 ≤ s) (hs2 : s ≤ 3) : Met l_ yX0_loudnessOf wsX0_loudnessOf ({ frames := 1, cells := 0, slots := 0, locals := 21 }) (va_Pc [.ref (a o), .int (nI w), .int (nI s)] (wH (Am tS sk sv) D k (bw a o k F E))) (QcRead (nI (sLoud (M (3 + w)) s))) 0 0 (fun _ => False) := by
  refine my_entry (cc := cX0_loudnessOf) (maxL := 3) (ret := some .int) (by decide) rfl (Nat.le_of_ble_eq_true rfl) ?_
  intro p_ e_ s_ m_ bl_ me_ c_ hz hr hlk hB ls hl
  obtain ⟨hP, hK, hD0, hy⟩ := hB
  have hD := wA.self hD0
  have hS : va_S (wA (bw a o k F E)) s_.heap s_.heap [] := va_S.rf
  have hl : lv_has ls 3 [(0, .ref (a o)), (1, .int (nI w)), (2, .int (nI s))] := hl
  have hk := hf.kd hw
  have f0 := hf.n2
  have f1 := hf.n9
  have f2 := hf.fr
  have f3 := hf.gd
  have f4 := hf.pc
  have f5 := hf.wc
  refine lv_aload_n hz.1 hz.2.1 dX0_loudnessOf_0 rfl (lv_at hl 0 rfl) ?_
  refine rg (T := TX0) (N := 12) hz hinX0_loudnessOf_X0 hK hP 0 rfl rfl 5 (by decide) (List.mem_of_getElem? (i := 1) rfl) rfl (v := .ref (a (o + 1))) rfl dX0_loudnessOf_1 ?_
  refine lv_iload_n hz.1 hz.2.1 dX0_loudnessOf_4 rfl (lv_at hl 1 rfl) ?_
  refine rald hz hK hP 1 0 rfl rfl (i := w) (by omega) (by decide) (v := nI (E 0 w)) rfl dX0_loudnessOf_5 ?_
  refine toe (z := nI (M (3 + w))) (by rw [(hR.2.1 _ (by omega)).1]) ?_
  refine lv_iload_n hz.1 hz.2.1 dX0_loudnessOf_6 rfl (lv_at hl 2 rfl) ?_
  refine rdSN (n := 2) (As := [.int (nI (M (3 + w))), .int (nI s)]) (rest := []) hz (c5_loudBy l_ (M (3 + w)) s (by omega) (by omega) (by omega)) rfl gX0_loudnessOf_X5_loudBy_n70 rfl ⟨rfl, rfl⟩ hy (List.mem_of_getElem? (i := 2) rfl) (List.mem_of_getElem? (i := 3) rfl) (List.mem_of_getElem? (i := 2) rfl) (by decide +kernel) ⟨Nat.le_of_ble_eq_true rfl, Nat.le_of_ble_eq_true rfl⟩ rfl hl.1 rfl (Nat.le_of_ble_eq_true rfl) dX0_loudnessOf_7 ⟨Nat.zero_le _, Nat.zero_le _⟩ ?_
  exact rd_iret hz hr hlk dX0_loudnessOf_10 (rfl)

theorem hinX0_noteOf_X0 : ∀ w ∈ wsX00, w ∈ wsX0_noteOf := fun _ h => List.mem_cons_of_mem _ (List.mem_append_right _ h)
set_option maxHeartbeats 4000000 in
set_option maxRecDepth 100000 in
theorem c0_noteOf (l_ : Launch) (D : va_G) (k : Nat → ClassId) (a : Nat → Nat) (o : Nat) (tS : Nat) (sk sv : Nat → Nat) (F : Nat → Nat) (E : Nat → Nat → Nat) (M : Nat → Nat) (w : Nat) (hR : Rb M F E) (hf : Wf M) (hw : w < 8) : Met l_ yX0_noteOf wsX0_noteOf ({ frames := 1, cells := 0, slots := 0, locals := 22 }) (va_Pc [.ref (a o), .int (nI w)] (wH (Am tS sk sv) D k (bw a o k F E))) (QcRead (nI (sNote M w))) 0 0 (fun _ => False) := by
  refine my_entry (cc := cX0_noteOf) (maxL := 2) (ret := some .int) (by decide) rfl (Nat.le_of_ble_eq_true rfl) ?_
  intro p_ e_ s_ m_ bl_ me_ c_ hz hr hlk hB ls hl
  obtain ⟨hP, hK, hD0, hy⟩ := hB
  have hD := wA.self hD0
  have hS : va_S (wA (bw a o k F E)) s_.heap s_.heap [] := va_S.rf
  have hl : lv_has ls 2 [(0, .ref (a o)), (1, .int (nI w))] := hl
  have hk := hf.kd hw
  have ht := hf.tn hw
  have f0 := hf.n2
  have f1 := hf.n9
  have f2 := hf.fr
  have f3 := hf.gd
  have f4 := hf.pc
  have f5 := hf.wc
  refine lv_aload_n hz.1 hz.2.1 dX0_noteOf_0 rfl (lv_at hl 0 rfl) ?_
  refine rg (T := TX0) (N := 12) hz hinX0_noteOf_X0 hK hP 0 rfl rfl 5 (by decide) (List.mem_of_getElem? (i := 1) rfl) rfl (v := .ref (a (o + 1))) rfl dX0_noteOf_1 ?_
  refine lv_iload_n hz.1 hz.2.1 dX0_noteOf_4 rfl (lv_at hl 1 rfl) ?_
  refine rald hz hK hP 1 0 rfl rfl (i := w) (by omega) (by decide) (v := nI (E 0 w)) rfl dX0_noteOf_5 ?_
  refine toe (z := nI (M (3 + w))) (by rw [(hR.2.1 _ (by omega)).1]) ?_
  refine lv_aload_n hz.1 hz.2.1 dX0_noteOf_6 rfl (lv_at hl 0 rfl) ?_
  refine rg (T := TX0) (N := 12) hz hinX0_noteOf_X0 hK hP 0 rfl rfl 6 (by decide) (List.mem_of_getElem? (i := 2) rfl) rfl (v := .ref (a (o + 2))) rfl dX0_noteOf_7 ?_
  refine lv_iload_n hz.1 hz.2.1 dX0_noteOf_10 rfl (lv_at hl 1 rfl) ?_
  refine rald hz hK hP 2 0 rfl rfl (i := w) (by omega) (by decide) (v := nI (E 1 w)) rfl dX0_noteOf_11 ?_
  refine toe (z := nI (M (11 + w))) (by rw [(hR.2.1 _ (by omega)).2]) ?_
  refine lv_aload_n hz.1 hz.2.1 dX0_noteOf_12 rfl (lv_at hl 0 rfl) ?_
  refine rg (T := TX0) (N := 12) hz hinX0_noteOf_X0 hK hP 0 rfl rfl 1 (by decide) (List.mem_of_getElem? (i := 3) rfl) rfl (v := .int (nI (F 1))) rfl dX0_noteOf_13 ?_
  refine toe (z := nI (M 1)) (by rw [hR.1.2.1]) ?_
  refine rdSN (n := 3) (As := [.int (nI (M (3 + w))), .int (nI (M (11 + w))), .int (nI (M 1))]) (rest := []) hz (c5_noteBy l_ (M (3 + w)) (M (11 + w)) (M 1) (by omega) (by omega) (by omega)) rfl gX0_noteOf_X5_noteBy_n74 rfl ⟨rfl, rfl⟩ hy (List.mem_of_getElem? (i := 3) rfl) (List.mem_of_getElem? (i := 5) rfl) (List.mem_of_getElem? (i := 4) rfl) (by decide +kernel) ⟨Nat.le_of_ble_eq_true rfl, Nat.le_of_ble_eq_true rfl⟩ rfl hl.1 rfl (Nat.le_of_ble_eq_true rfl) dX0_noteOf_16 ⟨Nat.zero_le _, Nat.zero_le _⟩ ?_
  exact rd_iret hz hr hlk dX0_noteOf_19 (rfl)

theorem hinX0_span_X0 : ∀ w ∈ wsX00, w ∈ wsX0_span := fun _ h => List.mem_cons_of_mem _ (List.mem_append_right _ h)
set_option maxHeartbeats 4000000 in
set_option maxRecDepth 100000 in
theorem c0_span (l_ : Launch) (D : va_G) (k : Nat → ClassId) (a : Nat → Nat) (o : Nat) (tS : Nat) (sk sv : Nat → Nat) (F : Nat → Nat) (E : Nat → Nat → Nat) (M : Nat → Nat) (w s : Nat) (hR : Rb M F E) (hf : Wf M) (hw : w < M 0 - 1) (hs : s < 10) : Met l_ yX0_span wsX0_span ({ frames := 1, cells := 0, slots := 0, locals := 21 }) (va_Pc [.ref (a o), .int (nI w), .int (nI s)] (wH (Am tS sk sv) D k (bw a o k F E))) (QcRead (nI (sSpan (M 0) w s))) 0 0 (fun _ => False) := by
  refine my_entry (cc := cX0_span) (maxL := 5) (ret := some .int) (by decide) rfl (Nat.le_of_ble_eq_true rfl) ?_
  intro p_ e_ s_ m_ bl_ me_ c_ hz hr hlk hB ls hl
  obtain ⟨hP, hK, hD0, hy⟩ := hB
  have hD := wA.self hD0
  have hS : va_S (wA (bw a o k F E)) s_.heap s_.heap [] := va_S.rf
  have hl : lv_has ls 5 [(0, .ref (a o)), (1, .int (nI w)), (2, .int (nI s))] := hl
  have f0 := hf.n2
  have f1 := hf.n9
  have f2 := hf.fr
  have f3 := hf.gd
  have f4 := hf.pc
  have f5 := hf.wc
  refine lv_iconst (v := nI 0) hz.1 hz.2.1 dX0_span_0 (by decide) ?_
  refine lv_iload_n hz.1 hz.2.1 dX0_span_1 rfl (lv_at hl 1 rfl) ?_
  refine lv_iload_n hz.1 hz.2.1 dX0_span_2 rfl (lv_at hl 2 rfl) ?_
  refine lv_isub hz.1 hz.2.1 dX0_span_3 ?_
  refine toe (z := nI w - nI s) (rfl) ?_
  refine lv_iconst (v := nI 1) hz.1 hz.2.1 dX0_span_4 (by decide) ?_
  refine lv_iadd hz.1 hz.2.1 dX0_span_5 ?_
  refine va_mmax hz.1 hz.2.1 (by rw [hz.2.2.1]; exact hl.1.symm) hz.2.2.2.1 (hz.2.2.2.2 _ (List.mem_of_getElem? (i := 1) rfl)) (hz.2.2.2.2 _ (List.mem_of_getElem? (i := 2) rfl)) (hz.2.2.2.2 _ (List.mem_of_getElem? (i := 3) rfl)) (hz.2.2.2.2 _ (List.mem_of_getElem? (i := 4) rfl)) (Nat.le_of_ble_eq_true rfl) (Nat.le_of_ble_eq_true rfl) (Nat.zero_le _) (Nat.zero_le _) dX0_span_6 ?_
  refine toe (z := nI (w + 1 - s)) (span_max (by omega) (by omega)) ?_
  refine lv_istore_n (lv' := [(3, .int (nI (w + 1 - s))), (0, .ref (a o)), (1, .int (nI w)), (2, .int (nI s))]) hz.1 hz.2.1 dX0_span_9 rfl hl (by decide) rfl (fun ls hl => ?_)
  refine lv_aload_n hz.1 hz.2.1 dX0_span_10 rfl (lv_at hl 1 rfl) ?_
  refine rg (T := TX0) (N := 12) hz hinX0_span_X0 hK hP 0 rfl rfl 0 (by decide) (List.mem_of_getElem? (i := 5) rfl) rfl (v := .int (nI (F 0))) rfl dX0_span_11 ?_
  refine toe (z := nI (M 0)) (by rw [hR.1.1]) ?_
  refine lv_iconst (v := nI 1) hz.1 hz.2.1 dX0_span_14 (by decide) ?_
  refine lv_isub hz.1 hz.2.1 dX0_span_15 ?_
  refine toe (z := nI ((M 0) - 1)) (pk_sub (by omega)) ?_
  refine lv_iload_n hz.1 hz.2.1 dX0_span_16 rfl (lv_at hl 2 rfl) ?_
  refine lv_iload_n hz.1 hz.2.1 dX0_span_17 rfl (lv_at hl 3 rfl) ?_
  refine lv_iadd hz.1 hz.2.1 dX0_span_18 ?_
  refine toe (z := nI (w + s)) (nI_add _ _) ?_
  refine va_mmin hz.1 hz.2.1 (by rw [hz.2.2.1]; exact hl.1.symm) hz.2.2.2.1 (hz.2.2.2.2 _ (List.mem_of_getElem? (i := 6) rfl)) (hz.2.2.2.2 _ (List.mem_of_getElem? (i := 7) rfl)) (hz.2.2.2.2 _ (List.mem_of_getElem? (i := 3) rfl)) (hz.2.2.2.2 _ (List.mem_of_getElem? (i := 8) rfl)) (Nat.le_of_ble_eq_true rfl) (Nat.le_of_ble_eq_true rfl) (Nat.zero_le _) (Nat.zero_le _) dX0_span_19 ?_
  refine toe (z := nI (min (M 0 - 1) (w + s))) (span_min (by omega) (by omega)) ?_
  refine lv_istore (lv' := [(4, .int (nI (min (M 0 - 1) (w + s)))), (3, .int (nI (w + 1 - s))), (0, .ref (a o)), (1, .int (nI w)), (2, .int (nI s))]) hz.1 hz.2.1 dX0_span_22 hl (by decide) rfl (fun ls hl => ?_)
  refine lv_iconst (v := nI 1) hz.1 hz.2.1 dX0_span_24 (by decide) ?_
  refine lv_iload hz.1 hz.2.1 dX0_span_25 (lv_at hl 0 rfl) ?_
  refine lv_iconst (v := nI 1) hz.1 hz.2.1 dX0_span_27 (by decide) ?_
  refine lv_iadd hz.1 hz.2.1 dX0_span_28 ?_
  refine toe (z := nI ((min (M 0 - 1) (w + s)) + 1)) (nI_add _ _) ?_
  refine lv_ishl hz.1 hz.2.1 dX0_span_29 ?_
  refine toe (z := nI (2 ^ ((min (M 0 - 1) (w + s)) + 1))) (nI_shl1 (by omega)) ?_
  refine lv_iconst (v := nI 1) hz.1 hz.2.1 dX0_span_30 (by decide) ?_
  refine lv_iload_n hz.1 hz.2.1 dX0_span_31 rfl (lv_at hl 1 rfl) ?_
  refine lv_ishl hz.1 hz.2.1 dX0_span_32 ?_
  refine toe (z := nI (2 ^ (w + 1 - s))) (nI_shl1 (by omega)) ?_
  refine lv_isub hz.1 hz.2.1 dX0_span_33 ?_
  refine toe (z := nI (sSpan (M 0) w s)) (pk_sub (Nat.pow_le_pow_right (by decide) (by omega))) ?_
  exact rd_iret hz hr hlk dX0_span_34 (rfl)

theorem hinX0_reach_X0 : ∀ w ∈ wsX00, w ∈ wsX0_reach := fun _ h => List.mem_cons_of_mem _ (List.mem_append_right _ h)
set_option maxHeartbeats 4000000 in
set_option maxRecDepth 100000 in
theorem c0_reach (l_ : Launch) (D : va_G) (k : Nat → ClassId) (a : Nat → Nat) (o : Nat) (tS : Nat) (sk sv : Nat → Nat) (F : Nat → Nat) (E : Nat → Nat → Nat) (M : Nat → Nat) (w s : Nat) (hR : Rb M F E) (hf : Wf M) (hw : w < M 0 - 1) (hs : 1 ≤ s) (hs2 : s ≤ 3) : Met l_ yX0_reach wsX0_reach ({ frames := 2, cells := 0, slots := 0, locals := 45 }) (va_Pc [.ref (a o), .int (nI w), .int (nI s)] (wH (Am tS sk sv) D k (bw a o k F E))) (QcRead (nI (sReach M w s))) 0 0 (fun _ => False) := by
  refine my_entry (cc := cX0_reach) (maxL := 3) (ret := some .int) (by decide) rfl (Nat.le_of_ble_eq_true rfl) ?_
  intro p_ e_ s_ m_ bl_ me_ c_ hz hr hlk hB ls hl
  obtain ⟨hP, hK, hD0, hy⟩ := hB
  have hD := wA.self hD0
  have hS : va_S (wA (bw a o k F E)) s_.heap s_.heap [] := va_S.rf
  have hl : lv_has ls 3 [(0, .ref (a o)), (1, .int (nI w)), (2, .int (nI s))] := hl
  have hl2 := sLoud_le (M (3 + w)) s
  have f0 := hf.n2
  have f1 := hf.n9
  have f2 := hf.fr
  have f3 := hf.gd
  have f4 := hf.pc
  have f5 := hf.wc
  refine lv_aload_n hz.1 hz.2.1 dX0_reach_0 rfl (lv_at hl 0 rfl) ?_
  refine lv_iload_n hz.1 hz.2.1 dX0_reach_1 rfl (lv_at hl 1 rfl) ?_
  refine lv_aload_n hz.1 hz.2.1 dX0_reach_2 rfl (lv_at hl 0 rfl) ?_
  refine lv_iload_n hz.1 hz.2.1 dX0_reach_3 rfl (lv_at hl 1 rfl) ?_
  refine lv_iload_n hz.1 hz.2.1 dX0_reach_4 rfl (lv_at hl 2 rfl) ?_
  refine rdV (A := wA (bw a o k F E)) (As := [.int (nI w), .int (nI s)]) (rest := [.int (nI w), .ref (a o)]) hz (okAm tS sk sv) (c0_loudnessOf l_ D k a o tS sk sv F E M w s hR hf (by omega) (by omega) (by omega)) (cwV 2 hz.2.2.2.2 gX0_reach_X0_loudnessOf rfl rfl rfl (by decide +kernel) ⟨Nat.le_of_ble_eq_true rfl, Nat.le_of_ble_eq_true rfl⟩) hK hy hP hD hS 0 0 rfl rfl rfl rfl hl.1 rfl (Nat.le_of_ble_eq_true rfl) dX0_reach_5 ⟨Nat.zero_le _, Nat.zero_le _⟩ ?_
  refine rdV (A := wA (bw a o k F E)) (As := [.int (nI w), .int (nI (sLoud (M (3 + w)) s))]) (rest := []) hz (okAm tS sk sv) (c0_span l_ D k a o tS sk sv F E M w (sLoud (M (3 + w)) s) hR hf (by omega) (by omega)) (cwV 2 hz.2.2.2.2 gX0_reach_X0_span rfl rfl rfl (by decide +kernel) ⟨Nat.le_of_ble_eq_true rfl, Nat.le_of_ble_eq_true rfl⟩) hK hy hP hD hS 0 0 rfl rfl rfl rfl hl.1 rfl (Nat.le_of_ble_eq_true rfl) dX0_reach_8 ⟨Nat.zero_le _, Nat.zero_le _⟩ ?_
  exact rd_iret hz hr hlk dX0_reach_11 (rfl)

theorem hinX0_meet_X0 : ∀ w ∈ wsX00, w ∈ wsX0_meet := fun _ h => List.mem_cons_of_mem _ (List.mem_append_right _ h)
set_option maxHeartbeats 4000000 in
set_option maxRecDepth 100000 in
theorem c0_meet (l_ : Launch) (D : va_G) (k : Nat → ClassId) (a : Nat → Nat) (o : Nat) (tS : Nat) (sk sv : Nat → Nat) (F : Nat → Nat) (E : Nat → Nat → Nat) (M : Nat → Nat) (v w : Nat) (hR : Rb M F E) (hf : Wf M) (hv : v < M 0 - 1) (hw : w < M 0 - 1) : Met l_ yX0_meet wsX0_meet ({ frames := 3, cells := 0, slots := 0, locals := 67 }) (va_Pc [.ref (a o), .int (nI v), .int (nI w)] (wH (Am tS sk sv) D k (bw a o k F E))) (QcRead (bI (sMeet M v w))) 0 0 (fun _ => False) := by
  refine my_entry (cc := cX0_meet) (maxL := 3) (ret := some .boolean) (by decide) rfl (Nat.le_of_ble_eq_true rfl) ?_
  intro p_ e_ s_ m_ bl_ me_ c_ hz hr hlk hB ls hl
  obtain ⟨hP, hK, hD0, hy⟩ := hB
  have hD := wA.self hD0
  have hS : va_S (wA (bw a o k F E)) s_.heap s_.heap [] := va_S.rf
  have hl : lv_has ls 3 [(0, .ref (a o)), (1, .int (nI v)), (2, .int (nI w))] := hl
  have r1 := sReach_lt hf v 2
  have r2 : sReach M v 2 &&& sReach M w 2 ≤ sReach M v 2 := Nat.and_le_left
  have f0 := hf.n2
  have f1 := hf.n9
  have f2 := hf.fr
  have f3 := hf.gd
  have f4 := hf.pc
  have f5 := hf.wc
  refine lv_aload_n hz.1 hz.2.1 dX0_meet_0 rfl (lv_at hl 0 rfl) ?_
  refine lv_iload_n hz.1 hz.2.1 dX0_meet_1 rfl (lv_at hl 1 rfl) ?_
  refine lv_iconst (v := nI 2) hz.1 hz.2.1 dX0_meet_2 (by decide) ?_
  refine rdV (A := wA (bw a o k F E)) (As := [.int (nI v), .int (nI 2)]) (rest := []) hz (okAm tS sk sv) (c0_reach l_ D k a o tS sk sv F E M v 2 hR hf (by omega) (by omega) (by omega)) (cwV 2 hz.2.2.2.2 gX0_meet_X0_reach rfl rfl rfl (by decide +kernel) ⟨Nat.le_of_ble_eq_true rfl, Nat.le_of_ble_eq_true rfl⟩) hK hy hP hD hS 0 0 rfl rfl rfl rfl hl.1 rfl (Nat.le_of_ble_eq_true rfl) dX0_meet_3 ⟨Nat.zero_le _, Nat.zero_le _⟩ ?_
  refine lv_aload_n hz.1 hz.2.1 dX0_meet_6 rfl (lv_at hl 0 rfl) ?_
  refine lv_iload_n hz.1 hz.2.1 dX0_meet_7 rfl (lv_at hl 2 rfl) ?_
  refine lv_iconst (v := nI 2) hz.1 hz.2.1 dX0_meet_8 (by decide) ?_
  refine rdV (A := wA (bw a o k F E)) (As := [.int (nI w), .int (nI 2)]) (rest := [.int (nI (sReach M v 2))]) hz (okAm tS sk sv) (c0_reach l_ D k a o tS sk sv F E M w 2 hR hf (by omega) (by omega) (by omega)) (cwV 2 hz.2.2.2.2 gX0_meet_X0_reach rfl rfl rfl (by decide +kernel) ⟨Nat.le_of_ble_eq_true rfl, Nat.le_of_ble_eq_true rfl⟩) hK hy hP hD hS 0 0 rfl rfl rfl rfl hl.1 rfl (Nat.le_of_ble_eq_true rfl) dX0_meet_9 ⟨Nat.zero_le _, Nat.zero_le _⟩ ?_
  refine lv_iand hz.1 hz.2.1 dX0_meet_12 ?_
  refine toe (z := nI ((sReach M v 2) &&& (sReach M w 2))) (fa_and _ _) ?_
  refine jeq0 (tgt := 20) hz dX0_meet_13 (by decide) (by omega) (fun c_13 => ?_) (fun c_13 => ?_)
  · refine lv_iconst (v := nI 0) hz.1 hz.2.1 dX0_meet_20 (by decide) ?_
    exact rd_zret hz hr hlk dX0_meet_21 (bI_0 (by simp [sMeet, c_13]))
  · refine lv_iconst (v := nI 1) hz.1 hz.2.1 dX0_meet_16 (by decide) ?_
    refine lv_goto (tgt := 21) hz.1 hz.2.1 dX0_meet_17 (by decide) ?_
    exact rd_zret hz hr hlk dX0_meet_21 (bI_1 (by simp [sMeet, c_13]))

theorem hinX0_pluckNotes_X0 : ∀ w ∈ wsX00, w ∈ wsX0_pluckNotes := fun _ h => List.mem_cons_of_mem _ (List.mem_append_right _ h)
set_option maxHeartbeats 4000000 in
set_option maxRecDepth 100000 in
theorem c0_pluckNotes (l_ : Launch) (D : va_G) (k : Nat → ClassId) (a : Nat → Nat) (o : Nat) (tS : Nat) (sk sv : Nat → Nat) (F : Nat → Nat) (E : Nat → Nat → Nat) (M : Nat → Nat) (p w s : Nat) (hR : Rb M F E) (hf : Wf M) (hp : p < M 0) (hw : w < M 0 - 1) (hs : 1 ≤ s) (hs2 : s ≤ 3) : Met l_ yX0_pluckNotes wsX0_pluckNotes ({ frames := 3, cells := 0, slots := 0, locals := 67 }) (va_Pc [.ref (a o), .int (nI p), .int (nI w), .int (nI s)] (wH (Am tS sk sv) D k (bw a o k F E))) (QcRead (nI (sNoteAt M p w s))) 0 0 (fun _ => False) := by
  refine my_entry (cc := cX0_pluckNotes) (maxL := 4) (ret := some .int) (by decide) rfl (Nat.le_of_ble_eq_true rfl) ?_
  intro p_ e_ s_ m_ bl_ me_ c_ hz hr hlk hB ls hl
  obtain ⟨hP, hK, hD0, hy⟩ := hB
  have hD := wA.self hD0
  have hS : va_S (wA (bw a o k F E)) s_.heap s_.heap [] := va_S.rf
  have hl : lv_has ls 4 [(0, .ref (a o)), (1, .int (nI p)), (2, .int (nI w)), (3, .int (nI s))] := hl
  have r1 := sReach_lt hf w s
  have h7 := sNote_lt M w
  have f0 := hf.n2
  have f1 := hf.n9
  have f2 := hf.fr
  have f3 := hf.gd
  have f4 := hf.pc
  have f5 := hf.wc
  refine lv_aload_n hz.1 hz.2.1 dX0_pluckNotes_0 rfl (lv_at hl 0 rfl) ?_
  refine lv_iload_n hz.1 hz.2.1 dX0_pluckNotes_1 rfl (lv_at hl 2 rfl) ?_
  refine lv_iload_n hz.1 hz.2.1 dX0_pluckNotes_2 rfl (lv_at hl 3 rfl) ?_
  refine rdV (A := wA (bw a o k F E)) (As := [.int (nI w), .int (nI s)]) (rest := []) hz (okAm tS sk sv) (c0_reach l_ D k a o tS sk sv F E M w s hR hf (by omega) (by omega) (by omega)) (cwV 2 hz.2.2.2.2 gX0_pluckNotes_X0_reach rfl rfl rfl (by decide +kernel) ⟨Nat.le_of_ble_eq_true rfl, Nat.le_of_ble_eq_true rfl⟩) hK hy hP hD hS 0 0 rfl rfl rfl rfl hl.1 rfl (Nat.le_of_ble_eq_true rfl) dX0_pluckNotes_3 ⟨Nat.zero_le _, Nat.zero_le _⟩ ?_
  refine lv_iload_n hz.1 hz.2.1 dX0_pluckNotes_6 rfl (lv_at hl 1 rfl) ?_
  refine rdSN (n := 2) (As := [.int (nI (sReach M w s)), .int (nI p)]) (rest := []) hz (c5_has l_ (sReach M w s) p (by omega) (by omega)) rfl gX0_pluckNotes_X5_has_n67 rfl ⟨rfl, rfl⟩ hy (List.mem_of_getElem? (i := 1) rfl) (List.mem_of_getElem? (i := 12) rfl) (List.mem_of_getElem? (i := 26) rfl) (by decide +kernel) ⟨Nat.le_of_ble_eq_true rfl, Nat.le_of_ble_eq_true rfl⟩ rfl hl.1 rfl (Nat.le_of_ble_eq_true rfl) dX0_pluckNotes_7 ⟨Nat.zero_le _, Nat.zero_le _⟩ ?_
  refine zeq (tgt := 23) hz dX0_pluckNotes_10 (by decide) (fun c_10 => ?_) (fun c_10 => ?_)
  · rw [sReach_bit hf hp hw hs2] at c_10
    refine lv_iconst (v := nI 0) hz.1 hz.2.1 dX0_pluckNotes_23 (by decide) ?_
    exact rd_iret hz hr hlk dX0_pluckNotes_24 (by simp [sNoteAt, c_10])
  · rw [sReach_bit hf hp hw hs2] at c_10
    refine lv_iconst (v := nI 1) hz.1 hz.2.1 dX0_pluckNotes_13 (by decide) ?_
    refine lv_aload_n hz.1 hz.2.1 dX0_pluckNotes_14 rfl (lv_at hl 0 rfl) ?_
    refine lv_iload_n hz.1 hz.2.1 dX0_pluckNotes_15 rfl (lv_at hl 2 rfl) ?_
    refine rdV (A := wA (bw a o k F E)) (As := [.int (nI w)]) (rest := [.int (nI 1)]) hz (okAm tS sk sv) (c0_noteOf l_ D k a o tS sk sv F E M w hR hf (by omega)) (cwV 1 hz.2.2.2.2 gX0_pluckNotes_X0_noteOf rfl rfl rfl (by decide +kernel) ⟨Nat.le_of_ble_eq_true rfl, Nat.le_of_ble_eq_true rfl⟩) hK hy hP hD hS 0 0 rfl rfl rfl rfl hl.1 rfl (Nat.le_of_ble_eq_true rfl) dX0_pluckNotes_16 ⟨Nat.zero_le _, Nat.zero_le _⟩ ?_
    refine lv_ishl hz.1 hz.2.1 dX0_pluckNotes_19 ?_
    refine toe (z := nI (2 ^ (sNote M w))) (nI_shl1 (by omega)) ?_
    refine lv_goto (tgt := 24) hz.1 hz.2.1 dX0_pluckNotes_20 (by decide) ?_
    exact rd_iret hz hr hlk dX0_pluckNotes_24 (by simp [sNoteAt, c_10])

theorem hinX0_stepNotes_X0 : ∀ w ∈ wsX00, w ∈ wsX0_stepNotes := fun _ h => List.mem_cons_of_mem _ (List.mem_append_right _ h)
set_option maxHeartbeats 4000000 in
set_option maxRecDepth 100000 in
theorem c0_stepNotes (l_ : Launch) (D : va_G) (k : Nat → ClassId) (a : Nat → Nat) (o : Nat) (tS : Nat) (sk sv : Nat → Nat) (F : Nat → Nat) (E : Nat → Nat → Nat) (M : Nat → Nat) (p w st : Nat) (hR : Rb M F E) (hf : Wf M) (hp : p < M 0) (hw : w < M 0 - 1) (hst : st ≤ 3) : Met l_ yX0_stepNotes wsX0_stepNotes ({ frames := 4, cells := 0, slots := 0, locals := 90 }) (va_Pc [.ref (a o), .int (nI p), .int (nI w), .int (nI st)] (wH (Am tS sk sv) D k (bw a o k F E))) (QcRead (nI (sNotesBy M p w st))) 0 0 (fun _ => False) := by
  refine my_entry (cc := cX0_stepNotes) (maxL := 5) (ret := some .int) (by decide) rfl (Nat.le_of_ble_eq_true rfl) ?_
  intro p_ e_ s_ m_ bl_ me_ c_ hz hr hlk hB ls hl
  obtain ⟨hP, hK, hD0, hy⟩ := hB
  have hD := wA.self hD0
  have hS : va_S (wA (bw a o k F E)) s_.heap s_.heap [] := va_S.rf
  have hl : lv_has ls 5 [(0, .ref (a o)), (1, .int (nI p)), (2, .int (nI w)), (3, .int (nI st))] := hl
  have h7 := sStr_in hst
  have f0 := hf.n2
  have f1 := hf.n9
  have f2 := hf.fr
  have f3 := hf.gd
  have f4 := hf.pc
  have f5 := hf.wc
  refine lv_aload_n hz.1 hz.2.1 dX0_stepNotes_0 rfl (lv_at hl 0 rfl) ?_
  refine lv_iload_n hz.1 hz.2.1 dX0_stepNotes_1 rfl (lv_at hl 1 rfl) ?_
  refine lv_iload_n hz.1 hz.2.1 dX0_stepNotes_2 rfl (lv_at hl 2 rfl) ?_
  refine rgsN hz hy hS (List.mem_of_getElem? (i := 0) rfl) dX0_stepNotes_3 ?_
  refine lv_iload_n hz.1 hz.2.1 dX0_stepNotes_6 rfl (lv_at hl 3 rfl) ?_
  refine rti hz hy hS (by omega) dX0_stepNotes_7 ?_
  refine rdV (A := wA (bw a o k F E)) (As := [.int (nI p), .int (nI w), .int (nI (sStr st))]) (rest := []) hz (okAm tS sk sv) (c0_pluckNotes l_ D k a o tS sk sv F E M p w (sStr st) hR hf (by omega) (by omega) (by omega) (by omega)) (cwV 3 hz.2.2.2.2 gX0_stepNotes_X0_pluckNotes rfl rfl rfl (by decide +kernel) ⟨Nat.le_of_ble_eq_true rfl, Nat.le_of_ble_eq_true rfl⟩) hK hy hP hD hS 0 0 rfl rfl rfl rfl hl.1 rfl (Nat.le_of_ble_eq_true rfl) dX0_stepNotes_8 ⟨Nat.zero_le _, Nat.zero_le _⟩ ?_
  refine lv_istore (lv' := [(4, .int (nI (sNoteAt M p w (sStr st)))), (0, .ref (a o)), (1, .int (nI p)), (2, .int (nI w)), (3, .int (nI st))]) hz.1 hz.2.1 dX0_stepNotes_11 hl (by decide) rfl (fun ls hl => ?_)
  refine lv_iload_n hz.1 hz.2.1 dX0_stepNotes_13 rfl (lv_at hl 4 rfl) ?_
  refine lv_iconst (v := nI 3) hz.1 hz.2.1 dX0_stepNotes_14 (by decide) ?_
  refine jne (tgt := 42) hz dX0_stepNotes_15 (by decide) (by omega) (by omega) (fun c_15 => ?_) (fun c_15 => ?_)
  · refine lv_iload hz.1 hz.2.1 dX0_stepNotes_42 (lv_at hl 0 rfl) ?_
    exact rd_iret hz hr hlk dX0_stepNotes_44 (by simp [sNotesBy, c_15])
  · refine lv_aload_n hz.1 hz.2.1 dX0_stepNotes_18 rfl (lv_at hl 1 rfl) ?_
    refine lv_iload_n hz.1 hz.2.1 dX0_stepNotes_19 rfl (lv_at hl 3 rfl) ?_
    refine lv_iconst (v := nI 1) hz.1 hz.2.1 dX0_stepNotes_20 (by decide) ?_
    refine lv_iadd hz.1 hz.2.1 dX0_stepNotes_21 ?_
    refine toe (z := nI (w + 1)) (nI_add _ _) ?_
    refine rdV (A := wA (bw a o k F E)) (As := [.int (nI (w + 1))]) (rest := []) hz (okAm tS sk sv) (c0_isWire l_ D k a o tS sk sv F E M (nI (w + 1)) hR hf) (cwV 1 hz.2.2.2.2 gX0_stepNotes_X0_isWire rfl rfl rfl (by decide +kernel) ⟨Nat.le_of_ble_eq_true rfl, Nat.le_of_ble_eq_true rfl⟩) hK hy hP hD hS 0 0 rfl rfl rfl rfl hl.1 rfl (Nat.le_of_ble_eq_true rfl) dX0_stepNotes_22 ⟨Nat.zero_le _, Nat.zero_le _⟩ ?_
    refine zeq (tgt := 42) hz dX0_stepNotes_25 (by decide) (fun c_25 => ?_) (fun c_25 => ?_)
    · have c25 : ¬ w + 1 < M 0 - 1 := by rw [wIn_n (by omega) (by omega) (by omega)] at c_25; simp only [Bool.and_eq_false_iff, decide_eq_false_iff_not] at c_25; omega
      refine lv_iload hz.1 hz.2.1 dX0_stepNotes_42 (lv_at hl 0 rfl) ?_
      exact rd_iret hz hr hlk dX0_stepNotes_44 (by simp [sNotesBy, c_15, c25])
    · have c25 : w + 1 < M 0 - 1 := by rw [wIn_n (by omega) (by omega) (by omega)] at c_25; simp only [Bool.and_eq_true, decide_eq_true_eq] at c_25; omega
      refine lv_iload hz.1 hz.2.1 dX0_stepNotes_28 (lv_at hl 0 rfl) ?_
      refine lv_aload_n hz.1 hz.2.1 dX0_stepNotes_30 rfl (lv_at hl 1 rfl) ?_
      refine lv_iload_n hz.1 hz.2.1 dX0_stepNotes_31 rfl (lv_at hl 2 rfl) ?_
      refine lv_iload_n hz.1 hz.2.1 dX0_stepNotes_32 rfl (lv_at hl 3 rfl) ?_
      refine lv_iconst (v := nI 1) hz.1 hz.2.1 dX0_stepNotes_33 (by decide) ?_
      refine lv_iadd hz.1 hz.2.1 dX0_stepNotes_34 ?_
      refine toe (z := nI (w + 1)) (nI_add _ _) ?_
      refine lv_iconst (v := nI 1) hz.1 hz.2.1 dX0_stepNotes_35 (by decide) ?_
      refine rdV (A := wA (bw a o k F E)) (As := [.int (nI p), .int (nI (w + 1)), .int (nI 1)]) (rest := [.int (nI (sNoteAt M p w (sStr st)))]) hz (okAm tS sk sv) (c0_pluckNotes l_ D k a o tS sk sv F E M p (w + 1) 1 hR hf (by omega) (by omega) (by omega) (by omega)) (cwV 3 hz.2.2.2.2 gX0_stepNotes_X0_pluckNotes rfl rfl rfl (by decide +kernel) ⟨Nat.le_of_ble_eq_true rfl, Nat.le_of_ble_eq_true rfl⟩) hK hy hP hD hS 0 0 rfl rfl rfl rfl hl.1 rfl (Nat.le_of_ble_eq_true rfl) dX0_stepNotes_36 ⟨Nat.zero_le _, Nat.zero_le _⟩ ?_
      refine lv_ior hz.1 hz.2.1 dX0_stepNotes_39 ?_
      refine toe (z := nI ((sNoteAt M p w (sStr st)) ||| (sNoteAt M p (w + 1) 1))) (fa_or _ _) ?_
      refine lv_istore (lv' := [(4, .int (nI ((sNoteAt M p w (sStr st)) ||| (sNoteAt M p (w + 1) 1)))), (0, .ref (a o)), (1, .int (nI p)), (2, .int (nI w)), (3, .int (nI st))]) hz.1 hz.2.1 dX0_stepNotes_40 hl (by decide) rfl (fun ls hl => ?_)
      refine lv_iload hz.1 hz.2.1 dX0_stepNotes_42 (lv_at hl 0 rfl) ?_
      exact rd_iret hz hr hlk dX0_stepNotes_44 (by simp [sNotesBy, c_15, c25])

theorem hinX0_notesAt_X0 : ∀ w ∈ wsX00, w ∈ wsX0_notesAt := fun _ h => List.mem_cons_of_mem _ (List.mem_append_right _ h)
set_option maxHeartbeats 4000000 in
set_option maxRecDepth 100000 in
theorem c0_notesAt (l_ : Launch) (D : va_G) (k : Nat → ClassId) (a : Nat → Nat) (o : Nat) (tS : Nat) (sk sv : Nat → Nat) (F : Nat → Nat) (E : Nat → Nat → Nat) (M : Nat → Nat) (p mn : Nat) (hR : Rb M F E) (hf : Wf M) (hp : p < M 0) (hm : mn < 60) : Met l_ yX0_notesAt wsX0_notesAt ({ frames := 5, cells := 0, slots := 0, locals := 114 }) (va_Pc [.ref (a o), .int (nI p), .int (nI mn)] (wH (Am tS sk sv) D k (bw a o k F E))) (QcRead (nI (sHeard M p mn))) 0 0 (fun _ => False) := by
  refine my_entry (cc := cX0_notesAt) (maxL := 5) (ret := some .int) (by decide) rfl (Nat.le_of_ble_eq_true rfl) ?_
  intro p_ e_ s_ m_ bl_ me_ c_ hz hr hlk hB ls hl
  obtain ⟨hP, hK, hD0, hy⟩ := hB
  have hD := wA.self hD0
  have hS : va_S (wA (bw a o k F E)) s_.heap s_.heap [] := va_S.rf
  have hl : lv_has ls 5 [(0, .ref (a o)), (1, .int (nI p)), (2, .int (nI mn))] := hl
  have f0 := hf.n2
  have f1 := hf.n9
  have f2 := hf.fr
  have f3 := hf.gd
  have f4 := hf.pc
  have f5 := hf.wc
  refine lv_iconst (v := nI 0) hz.1 hz.2.1 dX0_notesAt_0 (by decide) ?_
  refine lv_istore_n (lv' := [(3, .int (nI 0)), (0, .ref (a o)), (1, .int (nI p)), (2, .int (nI mn))]) hz.1 hz.2.1 dX0_notesAt_1 rfl hl (by decide) rfl (fun ls hl => ?_)
  refine lv_iconst (v := nI 0) hz.1 hz.2.1 dX0_notesAt_2 (by decide) ?_
  refine lv_istore (lv' := [(4, .int (nI 0)), (3, .int (nI 0)), (0, .ref (a o)), (1, .int (nI p)), (2, .int (nI mn))]) hz.1 hz.2.1 dX0_notesAt_3 hl (by decide) rfl (fun ls hl => ?_)
  have lp_5 : ∀ (fu : Nat) (i : Nat), (i ≤ M 32) → M 32 - i < fu → ∀ ls : Array Slot, lv_has ls 5 [(0, .ref (a o)), (1, .int (nI p)), (2, .int (nI mn)), (3, .int (nI (sOr 0 (sPassF M p mn) i))), (4, .int (nI i))] → W p_ l_ e_ ({ frames := 5, cells := 0, slots := 0, locals := 114 }) s_ m_ [.ref (a o), .int (nI p), .int (nI mn)].toArray bl_ me_ c_ s_.heap [] 0 0 (MQ bl_ (QcRead (nI (sHeard M p mn))) [.ref (a o), .int (nI p), .int (nI mn)].toArray s_ 0 0 (fun _ => False)) (F0 m_ 5 ls []) := by
    intro fu
    induction fu with
    | zero => intro i hi hm; exact absurd hm (Nat.not_lt_zero _)
    | succ fu ih5 =>
      intro i hi hm ls hl
      refine lv_iload hz.1 hz.2.1 dX0_notesAt_5 (lv_at hl 4 rfl) ?_
      refine lv_aload_n hz.1 hz.2.1 dX0_notesAt_7 rfl (lv_at hl 0 rfl) ?_
      refine rg (T := TX0) (N := 12) hz hinX0_notesAt_X0 hK hP 0 rfl rfl 4 (by decide) (List.mem_of_getElem? (i := 1) rfl) rfl (v := .int (nI (F 4))) rfl dX0_notesAt_8 ?_
      refine toe (z := nI (M 32)) (by rw [hR.1.2.2.2.2]) ?_
      refine jge (tgt := 53) hz dX0_notesAt_11 (by decide) (by omega) (by omega) (fun c_11 => ?_) (fun c_11 => ?_)
      · obtain rfl : i = M 32 := by omega
        refine lv_iconst (v := nI 0) hz.1 hz.2.1 dX0_notesAt_53 (by decide) ?_
        refine lv_istore (lv' := [(4, .int (nI 0)), (0, .ref (a o)), (1, .int (nI p)), (2, .int (nI mn)), (3, .int (nI (sOr 0 (sPassF M p mn) (M 32))))]) hz.1 hz.2.1 dX0_notesAt_54 hl (by decide) rfl (fun ls hl => ?_)
        have lp_56 : ∀ (fu : Nat) (i : Nat), (i ≤ M 19) → M 19 - i < fu → ∀ ls : Array Slot, lv_has ls 5 [(0, .ref (a o)), (1, .int (nI p)), (2, .int (nI mn)), (3, .int (nI (sOr (sOr 0 (sPassF M p mn) (M 32)) (sWindF M p mn) i))), (4, .int (nI i))] → W p_ l_ e_ ({ frames := 5, cells := 0, slots := 0, locals := 114 }) s_ m_ [.ref (a o), .int (nI p), .int (nI mn)].toArray bl_ me_ c_ s_.heap [] 0 0 (MQ bl_ (QcRead (nI (sHeard M p mn))) [.ref (a o), .int (nI p), .int (nI mn)].toArray s_ 0 0 (fun _ => False)) (F0 m_ 56 ls []) := by
          intro fu
          induction fu with
          | zero => intro i hi hm; exact absurd hm (Nat.not_lt_zero _)
          | succ fu ih56 =>
            intro i hi hm ls hl
            refine lv_iload hz.1 hz.2.1 dX0_notesAt_56 (lv_at hl 4 rfl) ?_
            refine lv_aload_n hz.1 hz.2.1 dX0_notesAt_58 rfl (lv_at hl 0 rfl) ?_
            refine rg (T := TX0) (N := 12) hz hinX0_notesAt_X0 hK hP 0 rfl rfl 3 (by decide) (List.mem_of_getElem? (i := 5) rfl) rfl (v := .int (nI (F 3))) rfl dX0_notesAt_59 ?_
            refine toe (z := nI (M 19)) (by rw [hR.1.2.2.2.1]) ?_
            refine jge (tgt := 98) hz dX0_notesAt_62 (by decide) (by omega) (by omega) (fun c_62 => ?_) (fun c_62 => ?_)
            · obtain rfl : i = M 19 := by omega
              refine lv_iload_n hz.1 hz.2.1 dX0_notesAt_98 rfl (lv_at hl 3 rfl) ?_
              exact rd_iret hz hr hlk dX0_notesAt_99 (rfl)
            · have hwi := hf.wi c_62
              refine lv_aload_n hz.1 hz.2.1 dX0_notesAt_65 rfl (lv_at hl 0 rfl) ?_
              refine rg (T := TX0) (N := 12) hz hinX0_notesAt_X0 hK hP 0 rfl rfl 7 (by decide) (List.mem_of_getElem? (i := 6) rfl) rfl (v := .ref (a (o + 3))) rfl dX0_notesAt_66 ?_
              refine lv_iload hz.1 hz.2.1 dX0_notesAt_69 (lv_at hl 4 rfl) ?_
              refine rald hz hK hP 3 0 rfl rfl (i := i) (by omega) (by decide) (v := nI (E 2 i)) rfl dX0_notesAt_71 ?_
              refine toe (z := nI (M (20 + 2 * i))) (by rw [(hR.2.2.1 _ (by omega)).1]) ?_
              refine lv_iload_n hz.1 hz.2.1 dX0_notesAt_72 rfl (lv_at hl 2 rfl) ?_
              refine jne (tgt := 92) hz dX0_notesAt_73 (by decide) (by omega) (by omega) (fun c_73 => ?_) (fun c_73 => ?_)
              · rw [show sOr (sOr 0 (sPassF M p mn) (M 32)) (sWindF M p mn) i = sOr (sOr 0 (sPassF M p mn) (M 32)) (sWindF M p mn) (i + 1) by simp [sOr, sWindF, c_73]] at hl
                refine lv_iinc (v := nI (i + 1)) (lv' := [(4, .int (nI (i + 1))), (0, .ref (a o)), (1, .int (nI p)), (2, .int (nI mn)), (3, .int (nI (sOr (sOr 0 (sPassF M p mn) (M 32)) (sWindF M p mn) (i + 1))))]) hz.1 hz.2.1 dX0_notesAt_92 hl (k := 4) rfl (nI_add _ 1) (by decide) rfl (fun ls hl => ?_)
                refine lv_goto (tgt := 56) hz.1 hz.2.1 dX0_notesAt_95 (by decide) ?_
                exact ih56 (i + 1) (by omega) (by omega) ls (lv_sub hl [1, 2, 3, 4, 0] rfl)
              · refine lv_iload_n hz.1 hz.2.1 dX0_notesAt_76 rfl (lv_at hl 3 rfl) ?_
                refine lv_aload_n hz.1 hz.2.1 dX0_notesAt_77 rfl (lv_at hl 0 rfl) ?_
                refine lv_iload_n hz.1 hz.2.1 dX0_notesAt_78 rfl (lv_at hl 1 rfl) ?_
                refine lv_aload_n hz.1 hz.2.1 dX0_notesAt_79 rfl (lv_at hl 0 rfl) ?_
                refine rg (T := TX0) (N := 12) hz hinX0_notesAt_X0 hK hP 0 rfl rfl 8 (by decide) (List.mem_of_getElem? (i := 7) rfl) rfl (v := .ref (a (o + 4))) rfl dX0_notesAt_80 ?_
                refine lv_iload hz.1 hz.2.1 dX0_notesAt_83 (lv_at hl 4 rfl) ?_
                refine rald hz hK hP 4 0 rfl rfl (i := i) (by omega) (by decide) (v := nI (E 3 i)) rfl dX0_notesAt_85 ?_
                refine toe (z := nI (M (20 + 2 * i + 1))) (by rw [(hR.2.2.1 _ (by omega)).2]) ?_
                refine lv_iconst (v := nI 1) hz.1 hz.2.1 dX0_notesAt_86 (by decide) ?_
                refine rdV (A := wA (bw a o k F E)) (As := [.int (nI p), .int (nI (M (20 + 2 * i + 1))), .int (nI 1)]) (rest := [.int (nI (sOr (sOr 0 (sPassF M p mn) (M 32)) (sWindF M p mn) i))]) hz (okAm tS sk sv) (c0_pluckNotes l_ D k a o tS sk sv F E M p (M (20 + 2 * i + 1)) 1 hR hf (by omega) (by omega) (by omega) (by omega)) (cwV 3 hz.2.2.2.2 gX0_notesAt_X0_pluckNotes rfl rfl rfl (by decide +kernel) ⟨Nat.le_of_ble_eq_true rfl, Nat.le_of_ble_eq_true rfl⟩) hK hy hP hD hS 0 0 rfl rfl rfl rfl hl.1 rfl (Nat.le_of_ble_eq_true rfl) dX0_notesAt_87 ⟨Nat.zero_le _, Nat.zero_le _⟩ ?_
                refine lv_ior hz.1 hz.2.1 dX0_notesAt_90 ?_
                refine toe (z := nI (sOr (sOr 0 (sPassF M p mn) (M 32)) (sWindF M p mn) (i + 1))) (by rw [fa_or]; simp [sOr, sWindF, c_73]) ?_
                refine lv_istore_n (lv' := [(3, .int (nI (sOr (sOr 0 (sPassF M p mn) (M 32)) (sWindF M p mn) (i + 1)))), (0, .ref (a o)), (1, .int (nI p)), (2, .int (nI mn)), (4, .int (nI i))]) hz.1 hz.2.1 dX0_notesAt_91 rfl hl (by decide) rfl (fun ls hl => ?_)
                refine lv_iinc (v := nI (i + 1)) (lv' := [(4, .int (nI (i + 1))), (3, .int (nI (sOr (sOr 0 (sPassF M p mn) (M 32)) (sWindF M p mn) (i + 1)))), (0, .ref (a o)), (1, .int (nI p)), (2, .int (nI mn))]) hz.1 hz.2.1 dX0_notesAt_92 hl (k := 4) rfl (nI_add _ 1) (by decide) rfl (fun ls hl => ?_)
                refine lv_goto (tgt := 56) hz.1 hz.2.1 dX0_notesAt_95 (by decide) ?_
                exact ih56 (i + 1) (by omega) (by omega) ls (lv_sub hl [2, 3, 4, 1, 0] rfl)
        exact lp_56 _ 0 (by omega) (Nat.lt_succ_self _) ls (lv_sub hl [1, 2, 3, 4, 0] rfl)
      · have hpi := hf.pi c_11
        refine lv_aload_n hz.1 hz.2.1 dX0_notesAt_14 rfl (lv_at hl 0 rfl) ?_
        refine rg (T := TX0) (N := 12) hz hinX0_notesAt_X0 hK hP 0 rfl rfl 9 (by decide) (List.mem_of_getElem? (i := 2) rfl) rfl (v := .ref (a (o + 5))) rfl dX0_notesAt_15 ?_
        refine lv_iload hz.1 hz.2.1 dX0_notesAt_18 (lv_at hl 4 rfl) ?_
        refine rald hz hK hP 5 0 rfl rfl (i := i) (by omega) (by decide) (v := nI (E 4 i)) rfl dX0_notesAt_20 ?_
        refine toe (z := nI (M (33 + 3 * i))) (by rw [(hR.2.2.2 _ (by omega)).1]) ?_
        refine lv_iload_n hz.1 hz.2.1 dX0_notesAt_21 rfl (lv_at hl 2 rfl) ?_
        refine jne (tgt := 47) hz dX0_notesAt_22 (by decide) (by omega) (by omega) (fun c_22 => ?_) (fun c_22 => ?_)
        · rw [show sOr 0 (sPassF M p mn) i = sOr 0 (sPassF M p mn) (i + 1) by simp [sOr, sPassF, c_22]] at hl
          refine lv_iinc (v := nI (i + 1)) (lv' := [(4, .int (nI (i + 1))), (0, .ref (a o)), (1, .int (nI p)), (2, .int (nI mn)), (3, .int (nI (sOr 0 (sPassF M p mn) (i + 1))))]) hz.1 hz.2.1 dX0_notesAt_47 hl (k := 4) rfl (nI_add _ 1) (by decide) rfl (fun ls hl => ?_)
          refine lv_goto (tgt := 5) hz.1 hz.2.1 dX0_notesAt_50 (by decide) ?_
          exact ih5 (i + 1) (by omega) (by omega) ls (lv_sub hl [1, 2, 3, 4, 0] rfl)
        · refine lv_iload_n hz.1 hz.2.1 dX0_notesAt_25 rfl (lv_at hl 3 rfl) ?_
          refine lv_aload_n hz.1 hz.2.1 dX0_notesAt_26 rfl (lv_at hl 0 rfl) ?_
          refine lv_iload_n hz.1 hz.2.1 dX0_notesAt_27 rfl (lv_at hl 1 rfl) ?_
          refine lv_aload_n hz.1 hz.2.1 dX0_notesAt_28 rfl (lv_at hl 0 rfl) ?_
          refine rg (T := TX0) (N := 12) hz hinX0_notesAt_X0 hK hP 0 rfl rfl 10 (by decide) (List.mem_of_getElem? (i := 3) rfl) rfl (v := .ref (a (o + 6))) rfl dX0_notesAt_29 ?_
          refine lv_iload hz.1 hz.2.1 dX0_notesAt_32 (lv_at hl 4 rfl) ?_
          refine rald hz hK hP 6 0 rfl rfl (i := i) (by omega) (by decide) (v := nI (E 5 i)) rfl dX0_notesAt_34 ?_
          refine toe (z := nI (M (33 + 3 * i + 1))) (by rw [(hR.2.2.2 _ (by omega)).2.1]) ?_
          refine lv_aload_n hz.1 hz.2.1 dX0_notesAt_35 rfl (lv_at hl 0 rfl) ?_
          refine rg (T := TX0) (N := 12) hz hinX0_notesAt_X0 hK hP 0 rfl rfl 11 (by decide) (List.mem_of_getElem? (i := 4) rfl) rfl (v := .ref (a (o + 7))) rfl dX0_notesAt_36 ?_
          refine lv_iload hz.1 hz.2.1 dX0_notesAt_39 (lv_at hl 4 rfl) ?_
          refine rald hz hK hP 7 0 rfl rfl (i := i) (by omega) (by decide) (v := nI (E 6 i)) rfl dX0_notesAt_41 ?_
          refine toe (z := nI (M (33 + 3 * i + 2))) (by rw [(hR.2.2.2 _ (by omega)).2.2]) ?_
          refine rdV (A := wA (bw a o k F E)) (As := [.int (nI p), .int (nI (M (33 + 3 * i + 1))), .int (nI (M (33 + 3 * i + 2)))]) (rest := [.int (nI (sOr 0 (sPassF M p mn) i))]) hz (okAm tS sk sv) (c0_stepNotes l_ D k a o tS sk sv F E M p (M (33 + 3 * i + 1)) (M (33 + 3 * i + 2)) hR hf (by omega) (by omega) (by omega)) (cwV 3 hz.2.2.2.2 gX0_notesAt_X0_stepNotes rfl rfl rfl (by decide +kernel) ⟨Nat.le_of_ble_eq_true rfl, Nat.le_of_ble_eq_true rfl⟩) hK hy hP hD hS 0 0 rfl rfl rfl rfl hl.1 rfl (Nat.le_of_ble_eq_true rfl) dX0_notesAt_42 ⟨Nat.zero_le _, Nat.zero_le _⟩ ?_
          refine lv_ior hz.1 hz.2.1 dX0_notesAt_45 ?_
          refine toe (z := nI (sOr 0 (sPassF M p mn) (i + 1))) (by rw [fa_or]; simp [sOr, sPassF, c_22]) ?_
          refine lv_istore_n (lv' := [(3, .int (nI (sOr 0 (sPassF M p mn) (i + 1)))), (0, .ref (a o)), (1, .int (nI p)), (2, .int (nI mn)), (4, .int (nI i))]) hz.1 hz.2.1 dX0_notesAt_46 rfl hl (by decide) rfl (fun ls hl => ?_)
          refine lv_iinc (v := nI (i + 1)) (lv' := [(4, .int (nI (i + 1))), (3, .int (nI (sOr 0 (sPassF M p mn) (i + 1)))), (0, .ref (a o)), (1, .int (nI p)), (2, .int (nI mn))]) hz.1 hz.2.1 dX0_notesAt_47 hl (k := 4) rfl (nI_add _ 1) (by decide) rfl (fun ls hl => ?_)
          refine lv_goto (tgt := 5) hz.1 hz.2.1 dX0_notesAt_50 (by decide) ?_
          exact ih5 (i + 1) (by omega) (by omega) ls (lv_sub hl [2, 3, 4, 1, 0] rfl)
  exact lp_5 _ 0 (by omega) (Nat.lt_succ_self _) ls (lv_sub hl [2, 3, 4, 1, 0] rfl)

theorem hinX0_isWindy_X0 : ∀ w ∈ wsX00, w ∈ wsX0_isWindy := fun _ h => List.mem_cons_of_mem _ (List.mem_append_right _ h)
set_option maxHeartbeats 4000000 in
set_option maxRecDepth 100000 in
theorem c0_isWindy (l_ : Launch) (D : va_G) (k : Nat → ClassId) (a : Nat → Nat) (o : Nat) (tS : Nat) (sk sv : Nat → Nat) (F : Nat → Nat) (E : Nat → Nat → Nat) (M : Nat → Nat) (mn : Nat) (hR : Rb M F E) (hf : Wf M) (hm : mn < 60) : Met l_ yX0_isWindy wsX0_isWindy ({ frames := 0, cells := 0, slots := 0, locals := 0 }) (va_Pc [.ref (a o), .int (nI mn)] (wH (Am tS sk sv) D k (bw a o k F E))) (QcRead (bI (sAny (fun z_ => decide (M (20 + 2 * z_) = mn)) (M 19)))) 0 0 (fun _ => False) := by
  refine my_entry (cc := cX0_isWindy) (maxL := 3) (ret := some .boolean) (by decide) rfl (Nat.le_of_ble_eq_true rfl) ?_
  intro p_ e_ s_ m_ bl_ me_ c_ hz hr hlk hB ls hl
  obtain ⟨hP, hK, hD0, hy⟩ := hB
  have hD := wA.self hD0
  have hS : va_S (wA (bw a o k F E)) s_.heap s_.heap [] := va_S.rf
  have hl : lv_has ls 3 [(0, .ref (a o)), (1, .int (nI mn))] := hl
  have f0 := hf.n2
  have f1 := hf.n9
  have f2 := hf.fr
  have f3 := hf.gd
  have f4 := hf.pc
  have f5 := hf.wc
  refine lv_iconst (v := nI 0) hz.1 hz.2.1 dX0_isWindy_0 (by decide) ?_
  refine lv_istore_n (lv' := [(2, .int (nI 0)), (0, .ref (a o)), (1, .int (nI mn))]) hz.1 hz.2.1 dX0_isWindy_1 rfl hl (by decide) rfl (fun ls hl => ?_)
  have lp_2 : ∀ (fu : Nat) (i : Nat), (i ≤ M 19) → (sAny (fun z_ => decide (M (20 + 2 * z_) = mn)) i = false) → M 19 - i < fu → ∀ ls : Array Slot, lv_has ls 3 [(0, .ref (a o)), (1, .int (nI mn)), (2, .int (nI i))] → W p_ l_ e_ ({ frames := 0, cells := 0, slots := 0, locals := 0 }) s_ m_ [.ref (a o), .int (nI mn)].toArray bl_ me_ c_ s_.heap [] 0 0 (MQ bl_ (QcRead (bI (sAny (fun z_ => decide (M (20 + 2 * z_) = mn)) (M 19)))) [.ref (a o), .int (nI mn)].toArray s_ 0 0 (fun _ => False)) (F0 m_ 2 ls []) := by
    intro fu
    induction fu with
    | zero => intro i hi hn hm; exact absurd hm (Nat.not_lt_zero _)
    | succ fu ih2 =>
      intro i hi hn hm ls hl
      refine lv_iload_n hz.1 hz.2.1 dX0_isWindy_2 rfl (lv_at hl 2 rfl) ?_
      refine lv_aload_n hz.1 hz.2.1 dX0_isWindy_3 rfl (lv_at hl 0 rfl) ?_
      refine rg (T := TX0) (N := 12) hz hinX0_isWindy_X0 hK hP 0 rfl rfl 3 (by decide) (List.mem_of_getElem? (i := 1) rfl) rfl (v := .int (nI (F 3))) rfl dX0_isWindy_4 ?_
      refine toe (z := nI (M 19)) (by rw [hR.1.2.2.2.1]) ?_
      refine jge (tgt := 28) hz dX0_isWindy_7 (by decide) (by omega) (by omega) (fun c_7 => ?_) (fun c_7 => ?_)
      · obtain rfl : i = M 19 := by omega
        refine lv_iconst (v := nI 0) hz.1 hz.2.1 dX0_isWindy_28 (by decide) ?_
        exact rd_zret hz hr hlk dX0_isWindy_29 (bI_0 hn)
      · have hwi := hf.wi c_7
        refine lv_aload_n hz.1 hz.2.1 dX0_isWindy_10 rfl (lv_at hl 0 rfl) ?_
        refine rg (T := TX0) (N := 12) hz hinX0_isWindy_X0 hK hP 0 rfl rfl 7 (by decide) (List.mem_of_getElem? (i := 2) rfl) rfl (v := .ref (a (o + 3))) rfl dX0_isWindy_11 ?_
        refine lv_iload_n hz.1 hz.2.1 dX0_isWindy_14 rfl (lv_at hl 2 rfl) ?_
        refine rald hz hK hP 3 0 rfl rfl (i := i) (by omega) (by decide) (v := nI (E 2 i)) rfl dX0_isWindy_15 ?_
        refine toe (z := nI (M (20 + 2 * i))) (by rw [(hR.2.2.1 _ (by omega)).1]) ?_
        refine lv_iload_n hz.1 hz.2.1 dX0_isWindy_16 rfl (lv_at hl 1 rfl) ?_
        refine jne (tgt := 22) hz dX0_isWindy_17 (by decide) (by omega) (by omega) (fun c_17 => ?_) (fun c_17 => ?_)
        · refine lv_iinc (v := nI (i + 1)) (lv' := [(2, .int (nI (i + 1))), (0, .ref (a o)), (1, .int (nI mn))]) hz.1 hz.2.1 dX0_isWindy_22 hl (k := 2) rfl (nI_add _ 1) (by decide) rfl (fun ls hl => ?_)
          refine lv_goto (tgt := 2) hz.1 hz.2.1 dX0_isWindy_25 (by decide) ?_
          exact ih2 (i + 1) (by omega) (by simp [sAny, hn, c_17]) (by omega) ls (lv_sub hl [1, 2, 0] rfl)
        · refine lv_iconst (v := nI 1) hz.1 hz.2.1 dX0_isWindy_20 (by decide) ?_
          exact rd_zret hz hr hlk dX0_isWindy_21 (bI_1 (sAny_yes (i := i) (by simp [c_17]) _ c_7))
  exact lp_2 _ 0 (by omega) (rfl) (Nat.lt_succ_self _) ls (lv_sub hl [1, 2, 0] rfl)

theorem hinX0_isBlown_X0 : ∀ w ∈ wsX00, w ∈ wsX0_isBlown := fun _ h => List.mem_cons_of_mem _ (List.mem_append_right _ h)
set_option maxHeartbeats 4000000 in
set_option maxRecDepth 100000 in
theorem c0_isBlown (l_ : Launch) (D : va_G) (k : Nat → ClassId) (a : Nat → Nat) (o : Nat) (tS : Nat) (sk sv : Nat → Nat) (F : Nat → Nat) (E : Nat → Nat → Nat) (M : Nat → Nat) (mn w : Nat) (hR : Rb M F E) (hf : Wf M) (hm : mn < 60) (hw : w < 8) : Met l_ yX0_isBlown wsX0_isBlown ({ frames := 0, cells := 0, slots := 0, locals := 0 }) (va_Pc [.ref (a o), .int (nI mn), .int (nI w)] (wH (Am tS sk sv) D k (bw a o k F E))) (QcRead (bI (sWindy M mn w))) 0 0 (fun _ => False) := by
  refine my_entry (cc := cX0_isBlown) (maxL := 4) (ret := some .boolean) (by decide) rfl (Nat.le_of_ble_eq_true rfl) ?_
  intro p_ e_ s_ m_ bl_ me_ c_ hz hr hlk hB ls hl
  obtain ⟨hP, hK, hD0, hy⟩ := hB
  have hD := wA.self hD0
  have hS : va_S (wA (bw a o k F E)) s_.heap s_.heap [] := va_S.rf
  have hl : lv_has ls 4 [(0, .ref (a o)), (1, .int (nI mn)), (2, .int (nI w))] := hl
  have f0 := hf.n2
  have f1 := hf.n9
  have f2 := hf.fr
  have f3 := hf.gd
  have f4 := hf.pc
  have f5 := hf.wc
  refine lv_iconst (v := nI 0) hz.1 hz.2.1 dX0_isBlown_0 (by decide) ?_
  refine lv_istore_n (lv' := [(3, .int (nI 0)), (0, .ref (a o)), (1, .int (nI mn)), (2, .int (nI w))]) hz.1 hz.2.1 dX0_isBlown_1 rfl hl (by decide) rfl (fun ls hl => ?_)
  have lp_2 : ∀ (fu : Nat) (i : Nat), (i ≤ M 19) → (sAny (sWdF M mn w) i = false) → M 19 - i < fu → ∀ ls : Array Slot, lv_has ls 4 [(0, .ref (a o)), (1, .int (nI mn)), (2, .int (nI w)), (3, .int (nI i))] → W p_ l_ e_ ({ frames := 0, cells := 0, slots := 0, locals := 0 }) s_ m_ [.ref (a o), .int (nI mn), .int (nI w)].toArray bl_ me_ c_ s_.heap [] 0 0 (MQ bl_ (QcRead (bI (sWindy M mn w))) [.ref (a o), .int (nI mn), .int (nI w)].toArray s_ 0 0 (fun _ => False)) (F0 m_ 2 ls []) := by
    intro fu
    induction fu with
    | zero => intro i hi hn hm; exact absurd hm (Nat.not_lt_zero _)
    | succ fu ih2 =>
      intro i hi hn hm ls hl
      refine lv_iload_n hz.1 hz.2.1 dX0_isBlown_2 rfl (lv_at hl 3 rfl) ?_
      refine lv_aload_n hz.1 hz.2.1 dX0_isBlown_3 rfl (lv_at hl 0 rfl) ?_
      refine rg (T := TX0) (N := 12) hz hinX0_isBlown_X0 hK hP 0 rfl rfl 3 (by decide) (List.mem_of_getElem? (i := 1) rfl) rfl (v := .int (nI (F 3))) rfl dX0_isBlown_4 ?_
      refine toe (z := nI (M 19)) (by rw [hR.1.2.2.2.1]) ?_
      refine jge (tgt := 38) hz dX0_isBlown_7 (by decide) (by omega) (by omega) (fun c_7 => ?_) (fun c_7 => ?_)
      · obtain rfl : i = M 19 := by omega
        refine lv_iconst (v := nI 0) hz.1 hz.2.1 dX0_isBlown_38 (by decide) ?_
        exact rd_zret hz hr hlk dX0_isBlown_39 (bI_0 hn)
      · have hwi := hf.wi c_7
        refine lv_aload_n hz.1 hz.2.1 dX0_isBlown_10 rfl (lv_at hl 0 rfl) ?_
        refine rg (T := TX0) (N := 12) hz hinX0_isBlown_X0 hK hP 0 rfl rfl 7 (by decide) (List.mem_of_getElem? (i := 2) rfl) rfl (v := .ref (a (o + 3))) rfl dX0_isBlown_11 ?_
        refine lv_iload_n hz.1 hz.2.1 dX0_isBlown_14 rfl (lv_at hl 3 rfl) ?_
        refine rald hz hK hP 3 0 rfl rfl (i := i) (by omega) (by decide) (v := nI (E 2 i)) rfl dX0_isBlown_15 ?_
        refine toe (z := nI (M (20 + 2 * i))) (by rw [(hR.2.2.1 _ (by omega)).1]) ?_
        refine lv_iload_n hz.1 hz.2.1 dX0_isBlown_16 rfl (lv_at hl 1 rfl) ?_
        refine jne (tgt := 32) hz dX0_isBlown_17 (by decide) (by omega) (by omega) (fun c_17 => ?_) (fun c_17 => ?_)
        · refine lv_iinc (v := nI (i + 1)) (lv' := [(3, .int (nI (i + 1))), (0, .ref (a o)), (1, .int (nI mn)), (2, .int (nI w))]) hz.1 hz.2.1 dX0_isBlown_32 hl (k := 3) rfl (nI_add _ 1) (by decide) rfl (fun ls hl => ?_)
          refine lv_goto (tgt := 2) hz.1 hz.2.1 dX0_isBlown_35 (by decide) ?_
          exact ih2 (i + 1) (by omega) (by simp [sAny, sWdF, hn, c_17]) (by omega) ls (lv_sub hl [1, 2, 3, 0] rfl)
        · refine lv_aload_n hz.1 hz.2.1 dX0_isBlown_20 rfl (lv_at hl 0 rfl) ?_
          refine rg (T := TX0) (N := 12) hz hinX0_isBlown_X0 hK hP 0 rfl rfl 8 (by decide) (List.mem_of_getElem? (i := 3) rfl) rfl (v := .ref (a (o + 4))) rfl dX0_isBlown_21 ?_
          refine lv_iload_n hz.1 hz.2.1 dX0_isBlown_24 rfl (lv_at hl 3 rfl) ?_
          refine rald hz hK hP 4 0 rfl rfl (i := i) (by omega) (by decide) (v := nI (E 3 i)) rfl dX0_isBlown_25 ?_
          refine toe (z := nI (M (20 + 2 * i + 1))) (by rw [(hR.2.2.1 _ (by omega)).2]) ?_
          refine lv_iload_n hz.1 hz.2.1 dX0_isBlown_26 rfl (lv_at hl 2 rfl) ?_
          refine jne (tgt := 32) hz dX0_isBlown_27 (by decide) (by omega) (by omega) (fun c_27 => ?_) (fun c_27 => ?_)
          · refine lv_iinc (v := nI (i + 1)) (lv' := [(3, .int (nI (i + 1))), (0, .ref (a o)), (1, .int (nI mn)), (2, .int (nI w))]) hz.1 hz.2.1 dX0_isBlown_32 hl (k := 3) rfl (nI_add _ 1) (by decide) rfl (fun ls hl => ?_)
            refine lv_goto (tgt := 2) hz.1 hz.2.1 dX0_isBlown_35 (by decide) ?_
            exact ih2 (i + 1) (by omega) (by simp [sAny, sWdF, hn, c_17, c_27]) (by omega) ls (lv_sub hl [1, 2, 3, 0] rfl)
          · refine lv_iconst (v := nI 1) hz.1 hz.2.1 dX0_isBlown_30 (by decide) ?_
            exact rd_zret hz hr hlk dX0_isBlown_31 (bI_1 (sAny_yes (f := sWdF M mn w) (i := i) (by simp [sWdF, c_17, c_27]) _ c_7))
  exact lp_2 _ 0 (by omega) (rfl) (Nat.lt_succ_self _) ls (lv_sub hl [1, 2, 3, 0] rfl)

theorem hinX0_digestOn_X0 : ∀ w ∈ wsX00, w ∈ wsX0_digestOn := fun _ h => List.mem_cons_of_mem _ (List.mem_append_right _ h)
set_option maxHeartbeats 4000000 in
set_option maxRecDepth 100000 in
theorem c0_digestOn (l_ : Launch) (D : va_G) (k : Nat → ClassId) (a : Nat → Nat) (o : Nat) (tS : Nat) (sk sv : Nat → Nat) (F : Nat → Nat) (E : Nat → Nat → Nat) (M : Nat → Nat) (h0 : Nat) (hR : Rb M F E) (hf : Wf M) : Met l_ yX0_digestOn wsX0_digestOn ({ frames := 1, cells := 0, slots := 0, locals := 20 }) (va_Pc [.ref (a o), .long (lN h0)] (wH (Am tS sk sv) D k (bw a o k F E))) (k2_QcV (.long (lN (sSums (fun z_ => M (33 + z_)) (sSums (fun z_ => M (20 + z_)) (sWsum M (31 * h0 + M 2) (M 0 - 1)) (2 * M 19)) (3 * M 32))))) 0 0 (fun _ => False) := by
  refine my_entry (cc := cX0_digestOn) (maxL := 6) (ret := some .long) (by decide) rfl (Nat.le_of_ble_eq_true rfl) ?_
  intro p_ e_ s_ m_ bl_ me_ c_ hz hr hlk hB ls hl
  obtain ⟨hP, hK, hD0, hy⟩ := hB
  have hD := wA.self hD0
  have hS : va_S (wA (bw a o k F E)) s_.heap s_.heap [] := va_S.rf
  have hl : lv_has ls 6 [(0, .ref (a o)), (1, .long (lN h0))] := hl
  have f0 := hf.n2
  have f1 := hf.n9
  have f2 := hf.fr
  have f3 := hf.gd
  have f4 := hf.pc
  have f5 := hf.wc
  refine lv_ldc2 (own := RX0) (v := lN 31) hz.1 hz.2.1 hz.2.2.2.1 (hz.2.2.2.2 (.constantLong RX0 112 (31)) (List.mem_of_getElem? (i := 1) rfl)) dX0_digestOn_0 ?_
  refine lv_lload_n hz.1 hz.2.1 dX0_digestOn_3 rfl (lv_at hl 1 rfl) ?_
  refine lv_lmul hz.1 hz.2.1 dX0_digestOn_4 ?_
  refine toeL (z := lN (31 * h0)) (lN_mul _ _) ?_
  refine lv_aload_n hz.1 hz.2.1 dX0_digestOn_5 rfl (lv_at hl 0 rfl) ?_
  refine rg (T := TX0) (N := 12) hz hinX0_digestOn_X0 hK hP 0 rfl rfl 2 (by decide) (List.mem_of_getElem? (i := 2) rfl) rfl (v := .int (nI (F 2))) rfl dX0_digestOn_6 ?_
  refine toe (z := nI (M 2)) (by rw [hR.1.2.2.1]) ?_
  refine lv_i2l (v := lN (M 2)) hz.1 hz.2.1 dX0_digestOn_9 (nI_l (by omega)) ?_
  refine lv_ladd hz.1 hz.2.1 dX0_digestOn_10 ?_
  refine toeL (z := lN ((31 * h0) + (M 2))) (lN_add _ _) ?_
  refine lv_lstore_n (lv' := [(3, .long (lN ((31 * h0) + (M 2)))), (0, .ref (a o)), (1, .long (lN h0))]) hz.1 hz.2.1 dX0_digestOn_11 rfl hl (by decide) rfl (fun ls hl => ?_)
  refine lv_iconst (v := nI 0) hz.1 hz.2.1 dX0_digestOn_12 (by decide) ?_
  refine lv_istore (lv' := [(5, .int (nI 0)), (3, .long (lN ((31 * h0) + (M 2)))), (0, .ref (a o)), (1, .long (lN h0))]) hz.1 hz.2.1 dX0_digestOn_13 hl (by decide) rfl (fun ls hl => ?_)
  have lp_15 : ∀ (fu : Nat) (i : Nat), (i ≤ M 0 - 1) → M 0 - 1 - i < fu → ∀ ls : Array Slot, lv_has ls 6 [(0, .ref (a o)), (1, .long (lN h0)), (3, .long (lN (sWsum M (31 * h0 + M 2) i))), (5, .int (nI i))] → W p_ l_ e_ ({ frames := 1, cells := 0, slots := 0, locals := 20 }) s_ m_ [.ref (a o), .long (lN h0)].toArray bl_ me_ c_ s_.heap [] 0 0 (MQ bl_ (k2_QcV (.long (lN (sSums (fun z_ => M (33 + z_)) (sSums (fun z_ => M (20 + z_)) (sWsum M (31 * h0 + M 2) (M 0 - 1)) (2 * M 19)) (3 * M 32))))) [.ref (a o), .long (lN h0)].toArray s_ 0 0 (fun _ => False)) (F0 m_ 15 ls []) := by
    intro fu
    induction fu with
    | zero => intro i hi hm; exact absurd hm (Nat.not_lt_zero _)
    | succ fu ih15 =>
      intro i hi hm ls hl
      refine lv_iload hz.1 hz.2.1 dX0_digestOn_15 (lv_at hl 3 rfl) ?_
      refine lv_aload_n hz.1 hz.2.1 dX0_digestOn_17 rfl (lv_at hl 0 rfl) ?_
      refine rdV (A := wA (bw a o k F E)) (As := []) (rest := [.int (nI i)]) hz (okAm tS sk sv) (c0_wireCount l_ D k a o tS sk sv F E M  hR hf) (cwV 0 hz.2.2.2.2 gX0_digestOn_X0_wireCount rfl rfl rfl (by decide +kernel) ⟨Nat.le_of_ble_eq_true rfl, Nat.le_of_ble_eq_true rfl⟩) hK hy hP hD hS 0 0 rfl rfl rfl rfl hl.1 rfl (Nat.le_of_ble_eq_true rfl) dX0_digestOn_18 ⟨Nat.zero_le _, Nat.zero_le _⟩ ?_
      refine jge (tgt := 58) hz dX0_digestOn_21 (by decide) (by omega) (by omega) (fun c_21 => ?_) (fun c_21 => ?_)
      · obtain rfl : i = M 0 - 1 := by omega
        refine lv_iconst (v := nI 0) hz.1 hz.2.1 dX0_digestOn_58 (by decide) ?_
        refine lv_istore (lv' := [(5, .int (nI 0)), (0, .ref (a o)), (1, .long (lN h0)), (3, .long (lN (sWsum M (31 * h0 + M 2) (M 0 - 1))))]) hz.1 hz.2.1 dX0_digestOn_59 hl (by decide) rfl (fun ls hl => ?_)
        have lp_61 : ∀ (fu : Nat) (i : Nat), (i ≤ M 19) → M 19 - i < fu → ∀ ls : Array Slot, lv_has ls 6 [(0, .ref (a o)), (1, .long (lN h0)), (3, .long (lN (sSums (fun z_ => M (20 + z_)) (sWsum M (31 * h0 + M 2) (M 0 - 1)) (2 * i)))), (5, .int (nI i))] → W p_ l_ e_ ({ frames := 1, cells := 0, slots := 0, locals := 20 }) s_ m_ [.ref (a o), .long (lN h0)].toArray bl_ me_ c_ s_.heap [] 0 0 (MQ bl_ (k2_QcV (.long (lN (sSums (fun z_ => M (33 + z_)) (sSums (fun z_ => M (20 + z_)) (sWsum M (31 * h0 + M 2) (M 0 - 1)) (2 * M 19)) (3 * M 32))))) [.ref (a o), .long (lN h0)].toArray s_ 0 0 (fun _ => False)) (F0 m_ 61 ls []) := by
          intro fu
          induction fu with
          | zero => intro i hi hm; exact absurd hm (Nat.not_lt_zero _)
          | succ fu ih61 =>
            intro i hi hm ls hl
            refine lv_iload hz.1 hz.2.1 dX0_digestOn_61 (lv_at hl 3 rfl) ?_
            refine lv_aload_n hz.1 hz.2.1 dX0_digestOn_63 rfl (lv_at hl 0 rfl) ?_
            refine rg (T := TX0) (N := 12) hz hinX0_digestOn_X0 hK hP 0 rfl rfl 3 (by decide) (List.mem_of_getElem? (i := 5) rfl) rfl (v := .int (nI (F 3))) rfl dX0_digestOn_64 ?_
            refine toe (z := nI (M 19)) (by rw [hR.1.2.2.2.1]) ?_
            refine jge (tgt := 104) hz dX0_digestOn_67 (by decide) (by omega) (by omega) (fun c_67 => ?_) (fun c_67 => ?_)
            · obtain rfl : i = M 19 := by omega
              refine lv_iconst (v := nI 0) hz.1 hz.2.1 dX0_digestOn_104 (by decide) ?_
              refine lv_istore (lv' := [(5, .int (nI 0)), (0, .ref (a o)), (1, .long (lN h0)), (3, .long (lN (sSums (fun z_ => M (20 + z_)) (sWsum M (31 * h0 + M 2) (M 0 - 1)) (2 * (M 19)))))]) hz.1 hz.2.1 dX0_digestOn_105 hl (by decide) rfl (fun ls hl => ?_)
              have lp_107 : ∀ (fu : Nat) (i : Nat), (i ≤ M 32) → M 32 - i < fu → ∀ ls : Array Slot, lv_has ls 6 [(0, .ref (a o)), (1, .long (lN h0)), (3, .long (lN (sSums (fun z_ => M (33 + z_)) (sSums (fun z_ => M (20 + z_)) (sWsum M (31 * h0 + M 2) (M 0 - 1)) (2 * M 19)) (3 * i)))), (5, .int (nI i))] → W p_ l_ e_ ({ frames := 1, cells := 0, slots := 0, locals := 20 }) s_ m_ [.ref (a o), .long (lN h0)].toArray bl_ me_ c_ s_.heap [] 0 0 (MQ bl_ (k2_QcV (.long (lN (sSums (fun z_ => M (33 + z_)) (sSums (fun z_ => M (20 + z_)) (sWsum M (31 * h0 + M 2) (M 0 - 1)) (2 * M 19)) (3 * M 32))))) [.ref (a o), .long (lN h0)].toArray s_ 0 0 (fun _ => False)) (F0 m_ 107 ls []) := by
                intro fu
                induction fu with
                | zero => intro i hi hm; exact absurd hm (Nat.not_lt_zero _)
                | succ fu ih107 =>
                  intro i hi hm ls hl
                  refine lv_iload hz.1 hz.2.1 dX0_digestOn_107 (lv_at hl 3 rfl) ?_
                  refine lv_aload_n hz.1 hz.2.1 dX0_digestOn_109 rfl (lv_at hl 0 rfl) ?_
                  refine rg (T := TX0) (N := 12) hz hinX0_digestOn_X0 hK hP 0 rfl rfl 4 (by decide) (List.mem_of_getElem? (i := 8) rfl) rfl (v := .int (nI (F 4))) rfl dX0_digestOn_110 ?_
                  refine toe (z := nI (M 32)) (by rw [hR.1.2.2.2.2]) ?_
                  refine jge (tgt := 165) hz dX0_digestOn_113 (by decide) (by omega) (by omega) (fun c_113 => ?_) (fun c_113 => ?_)
                  · obtain rfl : i = M 32 := by omega
                    refine lv_lload_n hz.1 hz.2.1 dX0_digestOn_165 rfl (lv_at hl 2 rfl) ?_
                    exact rd_lret hz hr hlk dX0_digestOn_166 (rfl)
                  · have hpi := hf.pi c_113
                    refine lv_ldc2 (own := RX0) (v := lN 31) hz.1 hz.2.1 hz.2.2.2.1 (hz.2.2.2.2 (.constantLong RX0 112 (31)) (List.mem_of_getElem? (i := 1) rfl)) dX0_digestOn_116 ?_
                    refine lv_ldc2 (own := RX0) (v := lN 31) hz.1 hz.2.1 hz.2.2.2.1 (hz.2.2.2.2 (.constantLong RX0 112 (31)) (List.mem_of_getElem? (i := 1) rfl)) dX0_digestOn_119 ?_
                    refine lv_lload_n hz.1 hz.2.1 dX0_digestOn_122 rfl (lv_at hl 2 rfl) ?_
                    refine lv_lmul hz.1 hz.2.1 dX0_digestOn_123 ?_
                    refine toeL (z := lN (31 * (sSums (fun z_ => M (33 + z_)) (sSums (fun z_ => M (20 + z_)) (sWsum M (31 * h0 + M 2) (M 0 - 1)) (2 * M 19)) (3 * i)))) (lN_mul _ _) ?_
                    refine lv_aload_n hz.1 hz.2.1 dX0_digestOn_124 rfl (lv_at hl 0 rfl) ?_
                    refine rg (T := TX0) (N := 12) hz hinX0_digestOn_X0 hK hP 0 rfl rfl 9 (by decide) (List.mem_of_getElem? (i := 9) rfl) rfl (v := .ref (a (o + 5))) rfl dX0_digestOn_125 ?_
                    refine lv_iload hz.1 hz.2.1 dX0_digestOn_128 (lv_at hl 3 rfl) ?_
                    refine rald hz hK hP 5 0 rfl rfl (i := i) (by omega) (by decide) (v := nI (E 4 i)) rfl dX0_digestOn_130 ?_
                    refine toe (z := nI (M (33 + 3 * i))) (by rw [(hR.2.2.2 _ (by omega)).1]) ?_
                    refine lv_i2l (v := lN (M (33 + 3 * i))) hz.1 hz.2.1 dX0_digestOn_131 (nI_l (by omega)) ?_
                    refine lv_ladd hz.1 hz.2.1 dX0_digestOn_132 ?_
                    refine toeL (z := lN ((31 * (sSums (fun z_ => M (33 + z_)) (sSums (fun z_ => M (20 + z_)) (sWsum M (31 * h0 + M 2) (M 0 - 1)) (2 * M 19)) (3 * i))) + (M (33 + 3 * i)))) (lN_add _ _) ?_
                    refine lv_lmul hz.1 hz.2.1 dX0_digestOn_133 ?_
                    refine toeL (z := lN (31 * ((31 * (sSums (fun z_ => M (33 + z_)) (sSums (fun z_ => M (20 + z_)) (sWsum M (31 * h0 + M 2) (M 0 - 1)) (2 * M 19)) (3 * i))) + (M (33 + 3 * i))))) (lN_mul _ _) ?_
                    refine lv_aload_n hz.1 hz.2.1 dX0_digestOn_134 rfl (lv_at hl 0 rfl) ?_
                    refine rg (T := TX0) (N := 12) hz hinX0_digestOn_X0 hK hP 0 rfl rfl 10 (by decide) (List.mem_of_getElem? (i := 10) rfl) rfl (v := .ref (a (o + 6))) rfl dX0_digestOn_135 ?_
                    refine lv_iload hz.1 hz.2.1 dX0_digestOn_138 (lv_at hl 3 rfl) ?_
                    refine rald hz hK hP 6 0 rfl rfl (i := i) (by omega) (by decide) (v := nI (E 5 i)) rfl dX0_digestOn_140 ?_
                    refine toe (z := nI (M (33 + 3 * i + 1))) (by rw [(hR.2.2.2 _ (by omega)).2.1]) ?_
                    refine lv_i2l (v := lN (M (33 + 3 * i + 1))) hz.1 hz.2.1 dX0_digestOn_141 (nI_l (by omega)) ?_
                    refine lv_ladd hz.1 hz.2.1 dX0_digestOn_142 ?_
                    refine toeL (z := lN ((31 * ((31 * (sSums (fun z_ => M (33 + z_)) (sSums (fun z_ => M (20 + z_)) (sWsum M (31 * h0 + M 2) (M 0 - 1)) (2 * M 19)) (3 * i))) + (M (33 + 3 * i)))) + (M (33 + 3 * i + 1)))) (lN_add _ _) ?_
                    refine lv_lstore_n (lv' := [(3, .long (lN ((31 * ((31 * (sSums (fun z_ => M (33 + z_)) (sSums (fun z_ => M (20 + z_)) (sWsum M (31 * h0 + M 2) (M 0 - 1)) (2 * M 19)) (3 * i))) + (M (33 + 3 * i)))) + (M (33 + 3 * i + 1))))), (0, .ref (a o)), (1, .long (lN h0)), (5, .int (nI i))]) hz.1 hz.2.1 dX0_digestOn_143 rfl hl (by decide) rfl (fun ls hl => ?_)
                    refine lv_ldc2 (own := RX0) (v := lN 31) hz.1 hz.2.1 hz.2.2.2.1 (hz.2.2.2.2 (.constantLong RX0 112 (31)) (List.mem_of_getElem? (i := 1) rfl)) dX0_digestOn_144 ?_
                    refine lv_lload_n hz.1 hz.2.1 dX0_digestOn_147 rfl (lv_at hl 0 rfl) ?_
                    refine lv_lmul hz.1 hz.2.1 dX0_digestOn_148 ?_
                    refine toeL (z := lN (31 * ((31 * ((31 * (sSums (fun z_ => M (33 + z_)) (sSums (fun z_ => M (20 + z_)) (sWsum M (31 * h0 + M 2) (M 0 - 1)) (2 * M 19)) (3 * i))) + (M (33 + 3 * i)))) + (M (33 + 3 * i + 1))))) (lN_mul _ _) ?_
                    refine lv_aload_n hz.1 hz.2.1 dX0_digestOn_149 rfl (lv_at hl 1 rfl) ?_
                    refine rg (T := TX0) (N := 12) hz hinX0_digestOn_X0 hK hP 0 rfl rfl 11 (by decide) (List.mem_of_getElem? (i := 11) rfl) rfl (v := .ref (a (o + 7))) rfl dX0_digestOn_150 ?_
                    refine lv_iload hz.1 hz.2.1 dX0_digestOn_153 (lv_at hl 3 rfl) ?_
                    refine rald hz hK hP 7 0 rfl rfl (i := i) (by omega) (by decide) (v := nI (E 6 i)) rfl dX0_digestOn_155 ?_
                    refine toe (z := nI (M (33 + 3 * i + 2))) (by rw [(hR.2.2.2 _ (by omega)).2.2]) ?_
                    refine lv_i2l (v := lN (M (33 + 3 * i + 2))) hz.1 hz.2.1 dX0_digestOn_156 (nI_l (by omega)) ?_
                    refine lv_ladd hz.1 hz.2.1 dX0_digestOn_157 ?_
                    refine toeL (z := lN ((31 * ((31 * ((31 * (sSums (fun z_ => M (33 + z_)) (sSums (fun z_ => M (20 + z_)) (sWsum M (31 * h0 + M 2) (M 0 - 1)) (2 * M 19)) (3 * i))) + (M (33 + 3 * i)))) + (M (33 + 3 * i + 1)))) + (M (33 + 3 * i + 2)))) (lN_add _ _) ?_
                    refine toeL (z := lN (sSums (fun z_ => M (33 + z_)) (sSums (fun z_ => M (20 + z_)) (sWsum M (31 * h0 + M 2) (M 0 - 1)) (2 * M 19)) (3 * (i + 1)))) (rfl) ?_
                    refine lv_lstore_n (lv' := [(3, .long (lN (sSums (fun z_ => M (33 + z_)) (sSums (fun z_ => M (20 + z_)) (sWsum M (31 * h0 + M 2) (M 0 - 1)) (2 * M 19)) (3 * (i + 1))))), (0, .ref (a o)), (1, .long (lN h0)), (5, .int (nI i))]) hz.1 hz.2.1 dX0_digestOn_158 rfl hl (by decide) rfl (fun ls hl => ?_)
                    refine lv_iinc (v := nI (i + 1)) (lv' := [(5, .int (nI (i + 1))), (3, .long (lN (sSums (fun z_ => M (33 + z_)) (sSums (fun z_ => M (20 + z_)) (sWsum M (31 * h0 + M 2) (M 0 - 1)) (2 * M 19)) (3 * (i + 1))))), (0, .ref (a o)), (1, .long (lN h0))]) hz.1 hz.2.1 dX0_digestOn_159 hl (k := 3) rfl (nI_add _ 1) (by decide) rfl (fun ls hl => ?_)
                    refine lv_goto (tgt := 107) hz.1 hz.2.1 dX0_digestOn_162 (by decide) ?_
                    exact ih107 (i + 1) (by omega) (by omega) ls (lv_sub hl [2, 3, 1, 0] rfl)
              exact lp_107 _ 0 (by omega) (Nat.lt_succ_self _) ls (lv_sub hl [1, 2, 3, 0] rfl)
            · have hwi := hf.wi c_67
              refine lv_ldc2 (own := RX0) (v := lN 31) hz.1 hz.2.1 hz.2.2.2.1 (hz.2.2.2.2 (.constantLong RX0 112 (31)) (List.mem_of_getElem? (i := 1) rfl)) dX0_digestOn_70 ?_
              refine lv_ldc2 (own := RX0) (v := lN 31) hz.1 hz.2.1 hz.2.2.2.1 (hz.2.2.2.2 (.constantLong RX0 112 (31)) (List.mem_of_getElem? (i := 1) rfl)) dX0_digestOn_73 ?_
              refine lv_lload_n hz.1 hz.2.1 dX0_digestOn_76 rfl (lv_at hl 2 rfl) ?_
              refine lv_lmul hz.1 hz.2.1 dX0_digestOn_77 ?_
              refine toeL (z := lN (31 * (sSums (fun z_ => M (20 + z_)) (sWsum M (31 * h0 + M 2) (M 0 - 1)) (2 * i)))) (lN_mul _ _) ?_
              refine lv_aload_n hz.1 hz.2.1 dX0_digestOn_78 rfl (lv_at hl 0 rfl) ?_
              refine rg (T := TX0) (N := 12) hz hinX0_digestOn_X0 hK hP 0 rfl rfl 7 (by decide) (List.mem_of_getElem? (i := 6) rfl) rfl (v := .ref (a (o + 3))) rfl dX0_digestOn_79 ?_
              refine lv_iload hz.1 hz.2.1 dX0_digestOn_82 (lv_at hl 3 rfl) ?_
              refine rald hz hK hP 3 0 rfl rfl (i := i) (by omega) (by decide) (v := nI (E 2 i)) rfl dX0_digestOn_84 ?_
              refine toe (z := nI (M (20 + 2 * i))) (by rw [(hR.2.2.1 _ (by omega)).1]) ?_
              refine lv_i2l (v := lN (M (20 + 2 * i))) hz.1 hz.2.1 dX0_digestOn_85 (nI_l (by omega)) ?_
              refine lv_ladd hz.1 hz.2.1 dX0_digestOn_86 ?_
              refine toeL (z := lN ((31 * (sSums (fun z_ => M (20 + z_)) (sWsum M (31 * h0 + M 2) (M 0 - 1)) (2 * i))) + (M (20 + 2 * i)))) (lN_add _ _) ?_
              refine lv_lmul hz.1 hz.2.1 dX0_digestOn_87 ?_
              refine toeL (z := lN (31 * ((31 * (sSums (fun z_ => M (20 + z_)) (sWsum M (31 * h0 + M 2) (M 0 - 1)) (2 * i))) + (M (20 + 2 * i))))) (lN_mul _ _) ?_
              refine lv_aload_n hz.1 hz.2.1 dX0_digestOn_88 rfl (lv_at hl 0 rfl) ?_
              refine rg (T := TX0) (N := 12) hz hinX0_digestOn_X0 hK hP 0 rfl rfl 8 (by decide) (List.mem_of_getElem? (i := 7) rfl) rfl (v := .ref (a (o + 4))) rfl dX0_digestOn_89 ?_
              refine lv_iload hz.1 hz.2.1 dX0_digestOn_92 (lv_at hl 3 rfl) ?_
              refine rald hz hK hP 4 0 rfl rfl (i := i) (by omega) (by decide) (v := nI (E 3 i)) rfl dX0_digestOn_94 ?_
              refine toe (z := nI (M (20 + 2 * i + 1))) (by rw [(hR.2.2.1 _ (by omega)).2]) ?_
              refine lv_i2l (v := lN (M (20 + 2 * i + 1))) hz.1 hz.2.1 dX0_digestOn_95 (nI_l (by omega)) ?_
              refine lv_ladd hz.1 hz.2.1 dX0_digestOn_96 ?_
              refine toeL (z := lN ((31 * ((31 * (sSums (fun z_ => M (20 + z_)) (sWsum M (31 * h0 + M 2) (M 0 - 1)) (2 * i))) + (M (20 + 2 * i)))) + (M (20 + 2 * i + 1)))) (lN_add _ _) ?_
              refine toeL (z := lN (sSums (fun z_ => M (20 + z_)) (sWsum M (31 * h0 + M 2) (M 0 - 1)) (2 * (i + 1)))) (rfl) ?_
              refine lv_lstore_n (lv' := [(3, .long (lN (sSums (fun z_ => M (20 + z_)) (sWsum M (31 * h0 + M 2) (M 0 - 1)) (2 * (i + 1))))), (0, .ref (a o)), (1, .long (lN h0)), (5, .int (nI i))]) hz.1 hz.2.1 dX0_digestOn_97 rfl hl (by decide) rfl (fun ls hl => ?_)
              refine lv_iinc (v := nI (i + 1)) (lv' := [(5, .int (nI (i + 1))), (3, .long (lN (sSums (fun z_ => M (20 + z_)) (sWsum M (31 * h0 + M 2) (M 0 - 1)) (2 * (i + 1))))), (0, .ref (a o)), (1, .long (lN h0))]) hz.1 hz.2.1 dX0_digestOn_98 hl (k := 3) rfl (nI_add _ 1) (by decide) rfl (fun ls hl => ?_)
              refine lv_goto (tgt := 61) hz.1 hz.2.1 dX0_digestOn_101 (by decide) ?_
              exact ih61 (i + 1) (by omega) (by omega) ls (lv_sub hl [2, 3, 1, 0] rfl)
        exact lp_61 _ 0 (by omega) (Nat.lt_succ_self _) ls (lv_sub hl [1, 2, 3, 0] rfl)
      · have k1 := hf.kd (w := i) (by omega)
        have t1 := hf.tn (w := i) (by omega)
        refine lv_ldc2 (own := RX0) (v := lN 31) hz.1 hz.2.1 hz.2.2.2.1 (hz.2.2.2.2 (.constantLong RX0 112 (31)) (List.mem_of_getElem? (i := 1) rfl)) dX0_digestOn_24 ?_
        refine lv_ldc2 (own := RX0) (v := lN 31) hz.1 hz.2.1 hz.2.2.2.1 (hz.2.2.2.2 (.constantLong RX0 112 (31)) (List.mem_of_getElem? (i := 1) rfl)) dX0_digestOn_27 ?_
        refine lv_lload_n hz.1 hz.2.1 dX0_digestOn_30 rfl (lv_at hl 2 rfl) ?_
        refine lv_lmul hz.1 hz.2.1 dX0_digestOn_31 ?_
        refine toeL (z := lN (31 * (sWsum M (31 * h0 + M 2) i))) (lN_mul _ _) ?_
        refine lv_aload_n hz.1 hz.2.1 dX0_digestOn_32 rfl (lv_at hl 0 rfl) ?_
        refine rg (T := TX0) (N := 12) hz hinX0_digestOn_X0 hK hP 0 rfl rfl 5 (by decide) (List.mem_of_getElem? (i := 3) rfl) rfl (v := .ref (a (o + 1))) rfl dX0_digestOn_33 ?_
        refine lv_iload hz.1 hz.2.1 dX0_digestOn_36 (lv_at hl 3 rfl) ?_
        refine rald hz hK hP 1 0 rfl rfl (i := i) (by omega) (by decide) (v := nI (E 0 i)) rfl dX0_digestOn_38 ?_
        refine toe (z := nI (M (3 + i))) (by rw [(hR.2.1 _ (by omega)).1]) ?_
        refine lv_i2l (v := lN (M (3 + i))) hz.1 hz.2.1 dX0_digestOn_39 (nI_l (by omega)) ?_
        refine lv_ladd hz.1 hz.2.1 dX0_digestOn_40 ?_
        refine toeL (z := lN ((31 * (sWsum M (31 * h0 + M 2) i)) + (M (3 + i)))) (lN_add _ _) ?_
        refine lv_lmul hz.1 hz.2.1 dX0_digestOn_41 ?_
        refine toeL (z := lN (31 * ((31 * (sWsum M (31 * h0 + M 2) i)) + (M (3 + i))))) (lN_mul _ _) ?_
        refine lv_aload_n hz.1 hz.2.1 dX0_digestOn_42 rfl (lv_at hl 0 rfl) ?_
        refine rg (T := TX0) (N := 12) hz hinX0_digestOn_X0 hK hP 0 rfl rfl 6 (by decide) (List.mem_of_getElem? (i := 4) rfl) rfl (v := .ref (a (o + 2))) rfl dX0_digestOn_43 ?_
        refine lv_iload hz.1 hz.2.1 dX0_digestOn_46 (lv_at hl 3 rfl) ?_
        refine rald hz hK hP 2 0 rfl rfl (i := i) (by omega) (by decide) (v := nI (E 1 i)) rfl dX0_digestOn_48 ?_
        refine toe (z := nI (M (11 + i))) (by rw [(hR.2.1 _ (by omega)).2]) ?_
        refine lv_i2l (v := lN (M (11 + i))) hz.1 hz.2.1 dX0_digestOn_49 (nI_l (by omega)) ?_
        refine lv_ladd hz.1 hz.2.1 dX0_digestOn_50 ?_
        refine toeL (z := lN ((31 * ((31 * (sWsum M (31 * h0 + M 2) i)) + (M (3 + i)))) + (M (11 + i)))) (lN_add _ _) ?_
        refine lv_lstore_n (lv' := [(3, .long (lN ((31 * ((31 * (sWsum M (31 * h0 + M 2) i)) + (M (3 + i)))) + (M (11 + i))))), (0, .ref (a o)), (1, .long (lN h0)), (5, .int (nI i))]) hz.1 hz.2.1 dX0_digestOn_51 rfl hl (by decide) rfl (fun ls hl => ?_)
        refine lv_iinc (v := nI (i + 1)) (lv' := [(5, .int (nI (i + 1))), (3, .long (lN ((31 * ((31 * (sWsum M (31 * h0 + M 2) i)) + (M (3 + i)))) + (M (11 + i))))), (0, .ref (a o)), (1, .long (lN h0))]) hz.1 hz.2.1 dX0_digestOn_52 hl (k := 3) rfl (nI_add _ 1) (by decide) rfl (fun ls hl => ?_)
        refine lv_goto (tgt := 15) hz.1 hz.2.1 dX0_digestOn_55 (by decide) ?_
        exact ih15 (i + 1) (by omega) (by omega) ls (lv_sub hl [2, 3, 1, 0] rfl)
  exact lp_15 _ 0 (by omega) (Nat.lt_succ_self _) ls (lv_sub hl [2, 3, 1, 0] rfl)

theorem hinX0_stringWire_X0 : ∀ w ∈ wsX00, w ∈ wsX0_stringWire := fun _ h => List.mem_cons_of_mem _ (List.mem_append_right _ h)
set_option maxHeartbeats 4000000 in
set_option maxRecDepth 100000 in
theorem c0_stringWire (l_ : Launch) (D : va_G) (k : Nat → ClassId) (a : Nat → Nat) (o : Nat) (tS : Nat) (sk sv : Nat → Nat) (F : Nat → Nat) (E : Nat → Nat → Nat) (w kd t : Nat) (hw : w < 8) : Met l_ yX0_stringWire wsX0_stringWire ({ frames := 0, cells := 0, slots := 0, locals := 0 }) (va_Pc [.ref (a o), .int (nI w), .int (nI kd), .int (nI t)] (wH (Am tS sk sv) D k (bw a o k F E))) (va_Qv (fun (u : Unit) => True) (fun (u : Unit) (t_ : State) => va_P D vwCl ((fun (_ : Unit) => bw a o k F (gset (gset E 0 (nset (E 0) w kd)) 1 (nset (E 1) w t))) u) t_.heap) (wA (bw a o k F E))) 0 0 (wA (bw a o k F E)) := by
  refine my_entry (cc := cX0_stringWire) (maxL := 4) (ret := none) (by decide) rfl (Nat.le_of_ble_eq_true rfl) ?_
  intro p_ e_ s_ m_ bl_ me_ c_ hz hr hlk hB ls hl
  obtain ⟨hP, hK, hD0, hy⟩ := hB
  have hD := wA.self hD0
  have hS : va_S (wA (bw a o k F E)) s_.heap s_.heap [] := va_S.rf
  have hl : lv_has ls 4 [(0, .ref (a o)), (1, .int (nI w)), (2, .int (nI kd)), (3, .int (nI t))] := hl
  refine lv_aload_n hz.1 hz.2.1 dX0_stringWire_0 rfl (lv_at hl 0 rfl) ?_
  refine rg (T := TX0) (N := 12) hz hinX0_stringWire_X0 hK hP 0 rfl rfl 5 (by decide) (List.mem_of_getElem? (i := 1) rfl) rfl (v := .ref (a (o + 1))) rfl dX0_stringWire_1 ?_
  refine lv_iload_n hz.1 hz.2.1 dX0_stringWire_4 rfl (lv_at hl 1 rfl) ?_
  refine lv_iload_n hz.1 hz.2.1 dX0_stringWire_5 rfl (lv_at hl 2 rfl) ?_
  refine rast hz hK hP hD hS 1 0 rfl rfl (i := w) (v := kd) (by omega) (by decide) dX0_stringWire_6 (fun H locs hP hS => ?_)
  have hP : va_P D vwCl (bw a o k F (gset E 0 (nset (E 0) w kd))) H := hP
  have hD : va_D (wA (bw a o k F E)) (bw a o k F (gset E 0 (nset (E 0) w kd))) := hD.same rfl
  refine lv_aload_n hz.1 hz.2.1 dX0_stringWire_7 rfl (lv_at hl 0 rfl) ?_
  refine rg (T := TX0) (N := 12) hz hinX0_stringWire_X0 hK hP 0 rfl rfl 6 (by decide) (List.mem_of_getElem? (i := 2) rfl) rfl (v := .ref (a (o + 2))) rfl dX0_stringWire_8 ?_
  refine lv_iload_n hz.1 hz.2.1 dX0_stringWire_11 rfl (lv_at hl 1 rfl) ?_
  refine lv_iload_n hz.1 hz.2.1 dX0_stringWire_12 rfl (lv_at hl 3 rfl) ?_
  refine rast hz hK hP hD hS 2 0 rfl rfl (i := w) (v := t) (by omega) (by decide) dX0_stringWire_13 (fun H locs hP hS => ?_)
  have hP : va_P D vwCl (bw a o k F (gset (gset E 0 (nset (E 0) w kd)) 1 (nset (E 1) w t))) H := hP
  have hD : va_D (wA (bw a o k F E)) (bw a o k F (gset (gset E 0 (nset (E 0) w kd)) 1 (nset (E 1) w t))) := hD.same rfl
  exact wr_vret hz hr hlk dX0_stringWire_14 hS (()) hP (trivial)

theorem hinX0_startOver_X0 : ∀ w ∈ wsX00, w ∈ wsX0_startOver := fun _ h => List.mem_cons_of_mem _ (List.mem_append_right _ h)
set_option maxHeartbeats 4000000 in
set_option maxRecDepth 100000 in
theorem c0_startOver (l_ : Launch) (D : va_G) (k : Nat → ClassId) (a : Nat → Nat) (o : Nat) (tS : Nat) (sk sv : Nat → Nat) (F : Nat → Nat) (E : Nat → Nat → Nat) (n : Nat)  : Met l_ yX0_startOver wsX0_startOver ({ frames := 1, cells := 0, slots := 0, locals := 23 }) (va_Pc [.ref (a o), .int (nI n)] (wH (Am tS sk sv) D k (bw a o k F E))) (va_Qv (fun (u : Unit) => True) (fun (u : Unit) (t_ : State) => va_P D vwCl ((fun (_ : Unit) => bw a o k (nset (nset (nset (nset (nset F 0 n) 1 0) 2 0) 3 0) 4 0) (gset (gset E 0 (zfill (E 0) 8)) 1 (zfill (E 1) 8))) u) t_.heap) (wA (bw a o k F E))) 0 0 (wA (bw a o k F E)) := by
  refine my_entry (cc := cX0_startOver) (maxL := 3) (ret := none) (by decide) rfl (Nat.le_of_ble_eq_true rfl) ?_
  intro p_ e_ s_ m_ bl_ me_ c_ hz hr hlk hB ls hl
  obtain ⟨hP, hK, hD0, hy⟩ := hB
  have hD := wA.self hD0
  have hS : va_S (wA (bw a o k F E)) s_.heap s_.heap [] := va_S.rf
  have hl : lv_has ls 3 [(0, .ref (a o)), (1, .int (nI n))] := hl
  refine lv_aload_n hz.1 hz.2.1 dX0_startOver_0 rfl (lv_at hl 0 rfl) ?_
  refine lv_iload_n hz.1 hz.2.1 dX0_startOver_1 rfl (lv_at hl 1 rfl) ?_
  refine rput (v := .int (nI n)) (ty := .int) (T := TX0) (N := 12) hz hinX0_startOver_X0 tyX0 tyX0_ok nmX0 hK hP hD hS 0 rfl rfl 0 (by decide) (List.mem_of_getElem? (i := 1) rfl) rfl rfl (by decide +kernel) rfl rfl (Nat.le_of_ble_eq_true rfl) dX0_startOver_2 (fun H locs hP hS => ?_)
  have hP : va_P D vwCl (bw a o k (nset F 0 n) E) H := hP
  have hD : va_D (wA (bw a o k F E)) (bw a o k (nset F 0 n) E) := hD.same rfl
  refine lv_aload_n hz.1 hz.2.1 dX0_startOver_5 rfl (lv_at hl 0 rfl) ?_
  refine lv_iconst (v := nI 0) hz.1 hz.2.1 dX0_startOver_6 (by decide) ?_
  refine rput (v := .int (nI 0)) (ty := .int) (T := TX0) (N := 12) hz hinX0_startOver_X0 tyX0 tyX0_ok nmX0 hK hP hD hS 0 rfl rfl 1 (by decide) (List.mem_of_getElem? (i := 2) rfl) rfl rfl (by decide +kernel) rfl rfl (Nat.le_of_ble_eq_true rfl) dX0_startOver_7 (fun H locs hP hS => ?_)
  have hP : va_P D vwCl (bw a o k (nset (nset F 0 n) 1 0) E) H := hP
  have hD : va_D (wA (bw a o k F E)) (bw a o k (nset (nset F 0 n) 1 0) E) := hD.same rfl
  refine lv_aload_n hz.1 hz.2.1 dX0_startOver_10 rfl (lv_at hl 0 rfl) ?_
  refine lv_iconst (v := nI 0) hz.1 hz.2.1 dX0_startOver_11 (by decide) ?_
  refine rput (v := .int (nI 0)) (ty := .int) (T := TX0) (N := 12) hz hinX0_startOver_X0 tyX0 tyX0_ok nmX0 hK hP hD hS 0 rfl rfl 2 (by decide) (List.mem_of_getElem? (i := 3) rfl) rfl rfl (by decide +kernel) rfl rfl (Nat.le_of_ble_eq_true rfl) dX0_startOver_12 (fun H locs hP hS => ?_)
  have hP : va_P D vwCl (bw a o k (nset (nset (nset F 0 n) 1 0) 2 0) E) H := hP
  have hD : va_D (wA (bw a o k F E)) (bw a o k (nset (nset (nset F 0 n) 1 0) 2 0) E) := hD.same rfl
  refine lv_aload_n hz.1 hz.2.1 dX0_startOver_15 rfl (lv_at hl 0 rfl) ?_
  refine lv_iconst (v := nI 0) hz.1 hz.2.1 dX0_startOver_16 (by decide) ?_
  refine rput (v := .int (nI 0)) (ty := .int) (T := TX0) (N := 12) hz hinX0_startOver_X0 tyX0 tyX0_ok nmX0 hK hP hD hS 0 rfl rfl 3 (by decide) (List.mem_of_getElem? (i := 4) rfl) rfl rfl (by decide +kernel) rfl rfl (Nat.le_of_ble_eq_true rfl) dX0_startOver_17 (fun H locs hP hS => ?_)
  have hP : va_P D vwCl (bw a o k (nset (nset (nset (nset F 0 n) 1 0) 2 0) 3 0) E) H := hP
  have hD : va_D (wA (bw a o k F E)) (bw a o k (nset (nset (nset (nset F 0 n) 1 0) 2 0) 3 0) E) := hD.same rfl
  refine lv_aload_n hz.1 hz.2.1 dX0_startOver_20 rfl (lv_at hl 0 rfl) ?_
  refine lv_iconst (v := nI 0) hz.1 hz.2.1 dX0_startOver_21 (by decide) ?_
  refine rput (v := .int (nI 0)) (ty := .int) (T := TX0) (N := 12) hz hinX0_startOver_X0 tyX0 tyX0_ok nmX0 hK hP hD hS 0 rfl rfl 4 (by decide) (List.mem_of_getElem? (i := 5) rfl) rfl rfl (by decide +kernel) rfl rfl (Nat.le_of_ble_eq_true rfl) dX0_startOver_22 (fun H locs hP hS => ?_)
  have hP : va_P D vwCl (bw a o k (nset (nset (nset (nset (nset F 0 n) 1 0) 2 0) 3 0) 4 0) E) H := hP
  have hD : va_D (wA (bw a o k F E)) (bw a o k (nset (nset (nset (nset (nset F 0 n) 1 0) 2 0) 3 0) 4 0) E) := hD.same rfl
  refine lv_iconst (v := nI 0) hz.1 hz.2.1 dX0_startOver_25 (by decide) ?_
  refine lv_istore_n (lv' := [(2, .int (nI 0)), (0, .ref (a o)), (1, .int (nI n))]) hz.1 hz.2.1 dX0_startOver_26 rfl hl (by decide) rfl (fun ls hl => ?_)
  have lp_27 : ∀ (fu : Nat) (i : Nat), (i ≤ 8) → 8 - i < fu → ∀ ls : Array Slot, ∀ (H : Heap) (locs : List Loc), va_P D vwCl (bw a o k (nset (nset (nset (nset (nset F 0 n) 1 0) 2 0) 3 0) 4 0) (gset (gset E 0 (zfill (E 0) i)) 1 (zfill (E 1) i))) H → va_S (wA (bw a o k F E)) s_.heap H locs → lv_has ls 3 [(0, .ref (a o)), (1, .int (nI n)), (2, .int (nI i))] → W p_ l_ e_ ({ frames := 1, cells := 0, slots := 0, locals := 23 }) s_ m_ [.ref (a o), .int (nI n)].toArray bl_ me_ c_ H locs 0 0 (MQ bl_ (va_Qv (fun (u : Unit) => True) (fun (u : Unit) (t_ : State) => va_P D vwCl ((fun (_ : Unit) => bw a o k (nset (nset (nset (nset (nset F 0 n) 1 0) 2 0) 3 0) 4 0) (gset (gset E 0 (zfill (E 0) 8)) 1 (zfill (E 1) 8))) u) t_.heap) (wA (bw a o k F E))) [.ref (a o), .int (nI n)].toArray s_ 0 0 (wA (bw a o k F E))) (F0 m_ 27 ls []) := by
    intro fu
    induction fu with
    | zero => intro i hi hm; exact absurd hm (Nat.not_lt_zero _)
    | succ fu ih27 =>
      intro i hi hm ls H locs hP hS hl
      have hD : va_D (wA (bw a o k F E)) (bw a o k (nset (nset (nset (nset (nset F 0 n) 1 0) 2 0) 3 0) 4 0) (gset (gset E 0 (zfill (E 0) i)) 1 (zfill (E 1) i))) := hD.same rfl
      refine lv_iload_n hz.1 hz.2.1 dX0_startOver_27 rfl (lv_at hl 2 rfl) ?_
      refine lv_bipush (v := nI 8) hz.1 hz.2.1 dX0_startOver_28 (by decide) ?_
      refine jge (tgt := 46) hz dX0_startOver_30 (by decide) (by omega) (by omega) (fun c_30 => ?_) (fun c_30 => ?_)
      · obtain rfl : i = 8 := by omega
        exact wr_vret hz hr hlk dX0_startOver_46 hS (()) hP (trivial)
      · refine lv_aload_n hz.1 hz.2.1 dX0_startOver_33 rfl (lv_at hl 0 rfl) ?_
        refine lv_iload_n hz.1 hz.2.1 dX0_startOver_34 rfl (lv_at hl 2 rfl) ?_
        refine lv_iconst (v := nI 0) hz.1 hz.2.1 dX0_startOver_35 (by decide) ?_
        refine lv_iconst (v := nI 0) hz.1 hz.2.1 dX0_startOver_36 (by decide) ?_
        refine wrVv (A := wA (bw a o k F E)) (As := [.int (nI i), .int (nI 0), .int (nI 0)]) (rest := []) hz (okAm tS sk sv) (c0_stringWire l_ D k a o tS sk sv (nset (nset (nset (nset (nset F 0 n) 1 0) 2 0) 3 0) 4 0) (gset (gset E 0 (zfill (E 0) i)) 1 (zfill (E 1) i))  i 0 0 (by omega)) (cwV 3 hz.2.2.2.2 gX0_startOver_X0_stringWire rfl rfl rfl (by decide +kernel) ⟨Nat.le_of_ble_eq_true rfl, Nat.le_of_ble_eq_true rfl⟩) hK hy hP hD hS 0 0 rfl rfl rfl rfl hl.1 rfl (Nat.le_of_ble_eq_true rfl) dX0_startOver_37 ⟨Nat.zero_le _, Nat.zero_le _⟩ (fun u H1 locs hp hP1 hS hfr => ?_)
        have hP : va_P D vwCl (bw a o k (nset (nset (nset (nset (nset F 0 n) 1 0) 2 0) 3 0) 4 0) (gset (gset E 0 (nset (zfill (E 0) i) i 0)) 1 (nset (zfill (E 1) i) i 0))) H1 := hP1
        generalize H1 = H at hP hS ⊢
        have hD : va_D (wA (bw a o k F E)) (bw a o k (nset (nset (nset (nset (nset F 0 n) 1 0) 2 0) 3 0) 4 0) (gset (gset E 0 (nset (zfill (E 0) i) i 0)) 1 (nset (zfill (E 1) i) i 0))) := hD.same rfl
        refine lv_iinc (v := nI (i + 1)) (lv' := [(2, .int (nI (i + 1))), (0, .ref (a o)), (1, .int (nI n))]) hz.1 hz.2.1 dX0_startOver_40 hl (k := 2) rfl (nI_add _ 1) (by decide) rfl (fun ls hl => ?_)
        refine lv_goto (tgt := 27) hz.1 hz.2.1 dX0_startOver_43 (by decide) ?_
        have hP : va_P D vwCl (bw a o k (nset (nset (nset (nset (nset F 0 n) 1 0) 2 0) 3 0) 4 0) (gset (gset E 0 (zfill (E 0) (i + 1))) 1 (zfill (E 1) (i + 1)))) H := by rw [← zfill_s, ← zfill_s]; exact hP
        exact ih27 (i + 1) (by omega) (by omega) ls H locs hP hS (lv_sub hl [1, 2, 0] rfl)
  have hP : va_P D vwCl (bw a o k (nset (nset (nset (nset (nset F 0 n) 1 0) 2 0) 3 0) 4 0) (gset (gset E 0 (zfill (E 0) 0)) 1 (zfill (E 1) 0))) H := by rw [zfill_0, zfill_0]; exact hP
  exact lp_27 _ 0 (by omega) (Nat.lt_succ_self _) ls _ _ hP hS (lv_sub hl [1, 2, 0] rfl)

theorem hinX0_addWind_X0 : ∀ w ∈ wsX00, w ∈ wsX0_addWind := fun _ h => List.mem_cons_of_mem _ (List.mem_append_right _ h)
set_option maxHeartbeats 4000000 in
set_option maxRecDepth 100000 in
theorem c0_addWind (l_ : Launch) (D : va_G) (k : Nat → ClassId) (a : Nat → Nat) (o : Nat) (tS : Nat) (sk sv : Nat → Nat) (F : Nat → Nat) (E : Nat → Nat → Nat) (mn w : Nat) (hc : F 3 < 6) : Met l_ yX0_addWind wsX0_addWind ({ frames := 0, cells := 0, slots := 0, locals := 0 }) (va_Pc [.ref (a o), .int (nI mn), .int (nI w)] (wH (Am tS sk sv) D k (bw a o k F E))) (va_Qv (fun (u : Unit) => True) (fun (u : Unit) (t_ : State) => va_P D vwCl ((fun (_ : Unit) => bw a o k (nset F 3 (F 3 + 1)) (gset (gset E 2 (nset (E 2) (F 3) mn)) 3 (nset (E 3) (F 3) w))) u) t_.heap) (wA (bw a o k F E))) 0 0 (wA (bw a o k F E)) := by
  refine my_entry (cc := cX0_addWind) (maxL := 3) (ret := none) (by decide) rfl (Nat.le_of_ble_eq_true rfl) ?_
  intro p_ e_ s_ m_ bl_ me_ c_ hz hr hlk hB ls hl
  obtain ⟨hP, hK, hD0, hy⟩ := hB
  have hD := wA.self hD0
  have hS : va_S (wA (bw a o k F E)) s_.heap s_.heap [] := va_S.rf
  have hl : lv_has ls 3 [(0, .ref (a o)), (1, .int (nI mn)), (2, .int (nI w))] := hl
  refine lv_aload_n hz.1 hz.2.1 dX0_addWind_0 rfl (lv_at hl 0 rfl) ?_
  refine rg (T := TX0) (N := 12) hz hinX0_addWind_X0 hK hP 0 rfl rfl 3 (by decide) (List.mem_of_getElem? (i := 1) rfl) rfl (v := .int (nI (F 3))) rfl dX0_addWind_1 ?_
  refine lv_bipush (v := nI 6) hz.1 hz.2.1 dX0_addWind_4 (by decide) ?_
  refine jge (tgt := 39) hz dX0_addWind_6 (by decide) (by omega) (by omega) (fun c_6 => ?_) (fun c_6 => ?_)
  · exact absurd hc c_6
  · refine lv_aload_n hz.1 hz.2.1 dX0_addWind_9 rfl (lv_at hl 0 rfl) ?_
    refine rg (T := TX0) (N := 12) hz hinX0_addWind_X0 hK hP 0 rfl rfl 7 (by decide) (List.mem_of_getElem? (i := 2) rfl) rfl (v := .ref (a (o + 3))) rfl dX0_addWind_10 ?_
    refine lv_aload_n hz.1 hz.2.1 dX0_addWind_13 rfl (lv_at hl 0 rfl) ?_
    refine rg (T := TX0) (N := 12) hz hinX0_addWind_X0 hK hP 0 rfl rfl 3 (by decide) (List.mem_of_getElem? (i := 1) rfl) rfl (v := .int (nI (F 3))) rfl dX0_addWind_14 ?_
    refine lv_iload_n hz.1 hz.2.1 dX0_addWind_17 rfl (lv_at hl 1 rfl) ?_
    refine rast hz hK hP hD hS 3 0 rfl rfl (i := (F 3)) (v := mn) (by omega) (by decide) dX0_addWind_18 (fun H locs hP hS => ?_)
    have hP : va_P D vwCl (bw a o k F (gset E 2 (nset (E 2) (F 3) mn))) H := hP
    have hD : va_D (wA (bw a o k F E)) (bw a o k F (gset E 2 (nset (E 2) (F 3) mn))) := hD.same rfl
    refine lv_aload_n hz.1 hz.2.1 dX0_addWind_19 rfl (lv_at hl 0 rfl) ?_
    refine rg (T := TX0) (N := 12) hz hinX0_addWind_X0 hK hP 0 rfl rfl 8 (by decide) (List.mem_of_getElem? (i := 3) rfl) rfl (v := .ref (a (o + 4))) rfl dX0_addWind_20 ?_
    refine lv_aload_n hz.1 hz.2.1 dX0_addWind_23 rfl (lv_at hl 0 rfl) ?_
    refine rg (T := TX0) (N := 12) hz hinX0_addWind_X0 hK hP 0 rfl rfl 3 (by decide) (List.mem_of_getElem? (i := 1) rfl) rfl (v := .int (nI (F 3))) rfl dX0_addWind_24 ?_
    refine lv_iload_n hz.1 hz.2.1 dX0_addWind_27 rfl (lv_at hl 2 rfl) ?_
    refine rast hz hK hP hD hS 4 0 rfl rfl (i := (F 3)) (v := w) (by omega) (by decide) dX0_addWind_28 (fun H locs hP hS => ?_)
    have hP : va_P D vwCl (bw a o k F (gset (gset E 2 (nset (E 2) (F 3) mn)) 3 (nset (E 3) (F 3) w))) H := hP
    have hD : va_D (wA (bw a o k F E)) (bw a o k F (gset (gset E 2 (nset (E 2) (F 3) mn)) 3 (nset (E 3) (F 3) w))) := hD.same rfl
    refine lv_aload_n hz.1 hz.2.1 dX0_addWind_29 rfl (lv_at hl 0 rfl) ?_
    refine lv_dup hz.1 hz.2.1 dX0_addWind_30 rfl ?_
    refine rg (T := TX0) (N := 12) hz hinX0_addWind_X0 hK hP 0 rfl rfl 3 (by decide) (List.mem_of_getElem? (i := 1) rfl) rfl (v := .int (nI (F 3))) rfl dX0_addWind_31 ?_
    refine lv_iconst (v := nI 1) hz.1 hz.2.1 dX0_addWind_34 (by decide) ?_
    refine lv_iadd hz.1 hz.2.1 dX0_addWind_35 ?_
    refine toe (z := nI ((F 3) + 1)) (nI_add _ _) ?_
    refine rput (v := .int (nI ((F 3) + 1))) (ty := .int) (T := TX0) (N := 12) hz hinX0_addWind_X0 tyX0 tyX0_ok nmX0 hK hP hD hS 0 rfl rfl 3 (by decide) (List.mem_of_getElem? (i := 1) rfl) rfl rfl (by decide +kernel) rfl rfl (Nat.le_of_ble_eq_true rfl) dX0_addWind_36 (fun H locs hP hS => ?_)
    have hP : va_P D vwCl (bw a o k (nset F 3 ((F 3) + 1)) (gset (gset E 2 (nset (E 2) (F 3) mn)) 3 (nset (E 3) (F 3) w))) H := hP
    have hD : va_D (wA (bw a o k F E)) (bw a o k (nset F 3 ((F 3) + 1)) (gset (gset E 2 (nset (E 2) (F 3) mn)) 3 (nset (E 3) (F 3) w))) := hD.same rfl
    exact wr_vret hz hr hlk dX0_addWind_39 hS (()) hP (trivial)

theorem hinX0_addPass_X0 : ∀ w ∈ wsX00, w ∈ wsX0_addPass := fun _ h => List.mem_cons_of_mem _ (List.mem_append_right _ h)
set_option maxHeartbeats 4000000 in
set_option maxRecDepth 100000 in
theorem c0_addPass (l_ : Launch) (D : va_G) (k : Nat → ClassId) (a : Nat → Nat) (o : Nat) (tS : Nat) (sk sv : Nat → Nat) (F : Nat → Nat) (E : Nat → Nat → Nat) (mn w sp : Nat) (hc : F 4 < 8) : Met l_ yX0_addPass wsX0_addPass ({ frames := 0, cells := 0, slots := 0, locals := 0 }) (va_Pc [.ref (a o), .int (nI mn), .int (nI w), .int (nI sp)] (wH (Am tS sk sv) D k (bw a o k F E))) (va_Qv (fun (u : Unit) => True) (fun (u : Unit) (t_ : State) => va_P D vwCl ((fun (_ : Unit) => bw a o k (nset F 4 (F 4 + 1)) (gset (gset (gset E 4 (nset (E 4) (F 4) mn)) 5 (nset (E 5) (F 4) w)) 6 (nset (E 6) (F 4) sp))) u) t_.heap) (wA (bw a o k F E))) 0 0 (wA (bw a o k F E)) := by
  refine my_entry (cc := cX0_addPass) (maxL := 4) (ret := none) (by decide) rfl (Nat.le_of_ble_eq_true rfl) ?_
  intro p_ e_ s_ m_ bl_ me_ c_ hz hr hlk hB ls hl
  obtain ⟨hP, hK, hD0, hy⟩ := hB
  have hD := wA.self hD0
  have hS : va_S (wA (bw a o k F E)) s_.heap s_.heap [] := va_S.rf
  have hl : lv_has ls 4 [(0, .ref (a o)), (1, .int (nI mn)), (2, .int (nI w)), (3, .int (nI sp))] := hl
  refine lv_aload_n hz.1 hz.2.1 dX0_addPass_0 rfl (lv_at hl 0 rfl) ?_
  refine rg (T := TX0) (N := 12) hz hinX0_addPass_X0 hK hP 0 rfl rfl 4 (by decide) (List.mem_of_getElem? (i := 1) rfl) rfl (v := .int (nI (F 4))) rfl dX0_addPass_1 ?_
  refine lv_bipush (v := nI 8) hz.1 hz.2.1 dX0_addPass_4 (by decide) ?_
  refine jge (tgt := 49) hz dX0_addPass_6 (by decide) (by omega) (by omega) (fun c_6 => ?_) (fun c_6 => ?_)
  · exact absurd hc c_6
  · refine lv_aload_n hz.1 hz.2.1 dX0_addPass_9 rfl (lv_at hl 0 rfl) ?_
    refine rg (T := TX0) (N := 12) hz hinX0_addPass_X0 hK hP 0 rfl rfl 9 (by decide) (List.mem_of_getElem? (i := 2) rfl) rfl (v := .ref (a (o + 5))) rfl dX0_addPass_10 ?_
    refine lv_aload_n hz.1 hz.2.1 dX0_addPass_13 rfl (lv_at hl 0 rfl) ?_
    refine rg (T := TX0) (N := 12) hz hinX0_addPass_X0 hK hP 0 rfl rfl 4 (by decide) (List.mem_of_getElem? (i := 1) rfl) rfl (v := .int (nI (F 4))) rfl dX0_addPass_14 ?_
    refine lv_iload_n hz.1 hz.2.1 dX0_addPass_17 rfl (lv_at hl 1 rfl) ?_
    refine rast hz hK hP hD hS 5 0 rfl rfl (i := (F 4)) (v := mn) (by omega) (by decide) dX0_addPass_18 (fun H locs hP hS => ?_)
    have hP : va_P D vwCl (bw a o k F (gset E 4 (nset (E 4) (F 4) mn))) H := hP
    have hD : va_D (wA (bw a o k F E)) (bw a o k F (gset E 4 (nset (E 4) (F 4) mn))) := hD.same rfl
    refine lv_aload_n hz.1 hz.2.1 dX0_addPass_19 rfl (lv_at hl 0 rfl) ?_
    refine rg (T := TX0) (N := 12) hz hinX0_addPass_X0 hK hP 0 rfl rfl 10 (by decide) (List.mem_of_getElem? (i := 3) rfl) rfl (v := .ref (a (o + 6))) rfl dX0_addPass_20 ?_
    refine lv_aload_n hz.1 hz.2.1 dX0_addPass_23 rfl (lv_at hl 0 rfl) ?_
    refine rg (T := TX0) (N := 12) hz hinX0_addPass_X0 hK hP 0 rfl rfl 4 (by decide) (List.mem_of_getElem? (i := 1) rfl) rfl (v := .int (nI (F 4))) rfl dX0_addPass_24 ?_
    refine lv_iload_n hz.1 hz.2.1 dX0_addPass_27 rfl (lv_at hl 2 rfl) ?_
    refine rast hz hK hP hD hS 6 0 rfl rfl (i := (F 4)) (v := w) (by omega) (by decide) dX0_addPass_28 (fun H locs hP hS => ?_)
    have hP : va_P D vwCl (bw a o k F (gset (gset E 4 (nset (E 4) (F 4) mn)) 5 (nset (E 5) (F 4) w))) H := hP
    have hD : va_D (wA (bw a o k F E)) (bw a o k F (gset (gset E 4 (nset (E 4) (F 4) mn)) 5 (nset (E 5) (F 4) w))) := hD.same rfl
    refine lv_aload_n hz.1 hz.2.1 dX0_addPass_29 rfl (lv_at hl 0 rfl) ?_
    refine rg (T := TX0) (N := 12) hz hinX0_addPass_X0 hK hP 0 rfl rfl 11 (by decide) (List.mem_of_getElem? (i := 4) rfl) rfl (v := .ref (a (o + 7))) rfl dX0_addPass_30 ?_
    refine lv_aload_n hz.1 hz.2.1 dX0_addPass_33 rfl (lv_at hl 0 rfl) ?_
    refine rg (T := TX0) (N := 12) hz hinX0_addPass_X0 hK hP 0 rfl rfl 4 (by decide) (List.mem_of_getElem? (i := 1) rfl) rfl (v := .int (nI (F 4))) rfl dX0_addPass_34 ?_
    refine lv_iload_n hz.1 hz.2.1 dX0_addPass_37 rfl (lv_at hl 3 rfl) ?_
    refine rast hz hK hP hD hS 7 0 rfl rfl (i := (F 4)) (v := sp) (by omega) (by decide) dX0_addPass_38 (fun H locs hP hS => ?_)
    have hP : va_P D vwCl (bw a o k F (gset (gset (gset E 4 (nset (E 4) (F 4) mn)) 5 (nset (E 5) (F 4) w)) 6 (nset (E 6) (F 4) sp))) H := hP
    have hD : va_D (wA (bw a o k F E)) (bw a o k F (gset (gset (gset E 4 (nset (E 4) (F 4) mn)) 5 (nset (E 5) (F 4) w)) 6 (nset (E 6) (F 4) sp))) := hD.same rfl
    refine lv_aload_n hz.1 hz.2.1 dX0_addPass_39 rfl (lv_at hl 0 rfl) ?_
    refine lv_dup hz.1 hz.2.1 dX0_addPass_40 rfl ?_
    refine rg (T := TX0) (N := 12) hz hinX0_addPass_X0 hK hP 0 rfl rfl 4 (by decide) (List.mem_of_getElem? (i := 1) rfl) rfl (v := .int (nI (F 4))) rfl dX0_addPass_41 ?_
    refine lv_iconst (v := nI 1) hz.1 hz.2.1 dX0_addPass_44 (by decide) ?_
    refine lv_iadd hz.1 hz.2.1 dX0_addPass_45 ?_
    refine toe (z := nI ((F 4) + 1)) (nI_add _ _) ?_
    refine rput (v := .int (nI ((F 4) + 1))) (ty := .int) (T := TX0) (N := 12) hz hinX0_addPass_X0 tyX0 tyX0_ok nmX0 hK hP hD hS 0 rfl rfl 4 (by decide) (List.mem_of_getElem? (i := 1) rfl) rfl rfl (by decide +kernel) rfl rfl (Nat.le_of_ble_eq_true rfl) dX0_addPass_46 (fun H locs hP hS => ?_)
    have hP : va_P D vwCl (bw a o k (nset F 4 ((F 4) + 1)) (gset (gset (gset E 4 (nset (E 4) (F 4) mn)) 5 (nset (E 5) (F 4) w)) 6 (nset (E 6) (F 4) sp))) H := hP
    have hD : va_D (wA (bw a o k F E)) (bw a o k (nset F 4 ((F 4) + 1)) (gset (gset (gset E 4 (nset (E 4) (F 4) mn)) 5 (nset (E 5) (F 4) w)) 6 (nset (E 6) (F 4) sp))) := hD.same rfl
    exact wr_vret hz hr hlk dX0_addPass_49 hS (()) hP (trivial)

theorem hinX0_takeFrom_X0 : ∀ w ∈ wsX00, w ∈ wsX0_takeFrom := fun _ h => List.mem_cons_of_mem _ (List.mem_append_right _ h)
set_option maxHeartbeats 4000000 in
set_option maxRecDepth 100000 in
theorem c0_takeFrom (l_ : Launch) (D : va_G) (k : Nat → ClassId) (a : Nat → Nat) (o : Nat) (o2 : Nat) (tS : Nat) (sk sv : Nat → Nat) (F : Nat → Nat) (E : Nat → Nat → Nat) (F2 : Nat → Nat) (E2 : Nat → Nat → Nat)   : Met l_ yX0_takeFrom wsX0_takeFrom ({ frames := 1, cells := 0, slots := 0, locals := 80 }) (va_Pc [.ref (a o), .ref (a o2)] (wH (Am tS sk sv) D k (bw a o k F E ++ (bw a o2 k F2 E2)))) (va_Qv (fun (u : Unit) => True) (fun (u : Unit) (t_ : State) => va_P D vwCl ((fun (_ : Unit) => bw a o k (nset (nset (nset (nset (nset F 0 (F2 0)) 1 (F2 1)) 2 (F2 2)) 3 (F2 3)) 4 (F2 4)) (gset (gset (gset (gset (gset (gset (gset E 0 (ccpy (E 0) (E2 0) 8)) 1 (ccpy (E 1) (E2 1) 8)) 2 (ccpy (E 2) (E2 2) 6)) 3 (ccpy (E 3) (E2 3) 6)) 4 (ccpy (E 4) (E2 4) 8)) 5 (ccpy (E 5) (E2 5) 8)) 6 (ccpy (E 6) (E2 6) 8)) ++ (bw a o2 k F2 E2)) u) t_.heap) (wA (bw a o k F E ++ (bw a o2 k F2 E2)))) 0 0 (wA (bw a o k F E ++ (bw a o2 k F2 E2))) := by
  refine my_entry (cc := cX0_takeFrom) (maxL := 2) (ret := none) (by decide) rfl (Nat.le_of_ble_eq_true rfl) ?_
  intro p_ e_ s_ m_ bl_ me_ c_ hz hr hlk hB ls hl
  obtain ⟨hP, hK, hD0, hy⟩ := hB
  have hD := wA.self hD0
  have hS : va_S (wA (bw a o k F E ++ (bw a o2 k F2 E2))) s_.heap s_.heap [] := va_S.rf
  have hl : lv_has ls 2 [(0, .ref (a o)), (1, .ref (a o2))] := hl
  refine lv_aload_n hz.1 hz.2.1 dX0_takeFrom_0 rfl (lv_at hl 0 rfl) ?_
  refine lv_aload_n hz.1 hz.2.1 dX0_takeFrom_1 rfl (lv_at hl 1 rfl) ?_
  refine rg (T := TX0) (N := 12) hz hinX0_takeFrom_X0 hK hP 8 rfl rfl 0 (by decide) (List.mem_of_getElem? (i := 1) rfl) rfl (v := .int (nI (F2 0))) rfl dX0_takeFrom_2 ?_
  refine rput (v := .int (nI (F2 0))) (ty := .int) (T := TX0) (N := 12) hz hinX0_takeFrom_X0 tyX0 tyX0_ok nmX0 hK hP hD hS 0 rfl rfl 0 (by decide) (List.mem_of_getElem? (i := 1) rfl) rfl rfl (by decide +kernel) rfl rfl (Nat.le_of_ble_eq_true rfl) dX0_takeFrom_5 (fun H locs hP hS => ?_)
  have hP : va_P D vwCl (bw a o k (nset F 0 (F2 0)) E ++ (bw a o2 k F2 E2)) H := hP
  have hD : va_D (wA (bw a o k F E ++ (bw a o2 k F2 E2))) (bw a o k (nset F 0 (F2 0)) E ++ (bw a o2 k F2 E2)) := hD.same rfl
  refine lv_aload_n hz.1 hz.2.1 dX0_takeFrom_8 rfl (lv_at hl 0 rfl) ?_
  refine lv_aload_n hz.1 hz.2.1 dX0_takeFrom_9 rfl (lv_at hl 1 rfl) ?_
  refine rg (T := TX0) (N := 12) hz hinX0_takeFrom_X0 hK hP 8 rfl rfl 1 (by decide) (List.mem_of_getElem? (i := 2) rfl) rfl (v := .int (nI (F2 1))) rfl dX0_takeFrom_10 ?_
  refine rput (v := .int (nI (F2 1))) (ty := .int) (T := TX0) (N := 12) hz hinX0_takeFrom_X0 tyX0 tyX0_ok nmX0 hK hP hD hS 0 rfl rfl 1 (by decide) (List.mem_of_getElem? (i := 2) rfl) rfl rfl (by decide +kernel) rfl rfl (Nat.le_of_ble_eq_true rfl) dX0_takeFrom_13 (fun H locs hP hS => ?_)
  have hP : va_P D vwCl (bw a o k (nset (nset F 0 (F2 0)) 1 (F2 1)) E ++ (bw a o2 k F2 E2)) H := hP
  have hD : va_D (wA (bw a o k F E ++ (bw a o2 k F2 E2))) (bw a o k (nset (nset F 0 (F2 0)) 1 (F2 1)) E ++ (bw a o2 k F2 E2)) := hD.same rfl
  refine lv_aload_n hz.1 hz.2.1 dX0_takeFrom_16 rfl (lv_at hl 0 rfl) ?_
  refine lv_aload_n hz.1 hz.2.1 dX0_takeFrom_17 rfl (lv_at hl 1 rfl) ?_
  refine rg (T := TX0) (N := 12) hz hinX0_takeFrom_X0 hK hP 8 rfl rfl 2 (by decide) (List.mem_of_getElem? (i := 3) rfl) rfl (v := .int (nI (F2 2))) rfl dX0_takeFrom_18 ?_
  refine rput (v := .int (nI (F2 2))) (ty := .int) (T := TX0) (N := 12) hz hinX0_takeFrom_X0 tyX0 tyX0_ok nmX0 hK hP hD hS 0 rfl rfl 2 (by decide) (List.mem_of_getElem? (i := 3) rfl) rfl rfl (by decide +kernel) rfl rfl (Nat.le_of_ble_eq_true rfl) dX0_takeFrom_21 (fun H locs hP hS => ?_)
  have hP : va_P D vwCl (bw a o k (nset (nset (nset F 0 (F2 0)) 1 (F2 1)) 2 (F2 2)) E ++ (bw a o2 k F2 E2)) H := hP
  have hD : va_D (wA (bw a o k F E ++ (bw a o2 k F2 E2))) (bw a o k (nset (nset (nset F 0 (F2 0)) 1 (F2 1)) 2 (F2 2)) E ++ (bw a o2 k F2 E2)) := hD.same rfl
  refine lv_aload_n hz.1 hz.2.1 dX0_takeFrom_24 rfl (lv_at hl 0 rfl) ?_
  refine lv_aload_n hz.1 hz.2.1 dX0_takeFrom_25 rfl (lv_at hl 1 rfl) ?_
  refine rg (T := TX0) (N := 12) hz hinX0_takeFrom_X0 hK hP 8 rfl rfl 3 (by decide) (List.mem_of_getElem? (i := 4) rfl) rfl (v := .int (nI (F2 3))) rfl dX0_takeFrom_26 ?_
  refine rput (v := .int (nI (F2 3))) (ty := .int) (T := TX0) (N := 12) hz hinX0_takeFrom_X0 tyX0 tyX0_ok nmX0 hK hP hD hS 0 rfl rfl 3 (by decide) (List.mem_of_getElem? (i := 4) rfl) rfl rfl (by decide +kernel) rfl rfl (Nat.le_of_ble_eq_true rfl) dX0_takeFrom_29 (fun H locs hP hS => ?_)
  have hP : va_P D vwCl (bw a o k (nset (nset (nset (nset F 0 (F2 0)) 1 (F2 1)) 2 (F2 2)) 3 (F2 3)) E ++ (bw a o2 k F2 E2)) H := hP
  have hD : va_D (wA (bw a o k F E ++ (bw a o2 k F2 E2))) (bw a o k (nset (nset (nset (nset F 0 (F2 0)) 1 (F2 1)) 2 (F2 2)) 3 (F2 3)) E ++ (bw a o2 k F2 E2)) := hD.same rfl
  refine lv_aload_n hz.1 hz.2.1 dX0_takeFrom_32 rfl (lv_at hl 0 rfl) ?_
  refine lv_aload_n hz.1 hz.2.1 dX0_takeFrom_33 rfl (lv_at hl 1 rfl) ?_
  refine rg (T := TX0) (N := 12) hz hinX0_takeFrom_X0 hK hP 8 rfl rfl 4 (by decide) (List.mem_of_getElem? (i := 5) rfl) rfl (v := .int (nI (F2 4))) rfl dX0_takeFrom_34 ?_
  refine rput (v := .int (nI (F2 4))) (ty := .int) (T := TX0) (N := 12) hz hinX0_takeFrom_X0 tyX0 tyX0_ok nmX0 hK hP hD hS 0 rfl rfl 4 (by decide) (List.mem_of_getElem? (i := 5) rfl) rfl rfl (by decide +kernel) rfl rfl (Nat.le_of_ble_eq_true rfl) dX0_takeFrom_37 (fun H locs hP hS => ?_)
  have hP : va_P D vwCl (bw a o k (nset (nset (nset (nset (nset F 0 (F2 0)) 1 (F2 1)) 2 (F2 2)) 3 (F2 3)) 4 (F2 4)) E ++ (bw a o2 k F2 E2)) H := hP
  have hD : va_D (wA (bw a o k F E ++ (bw a o2 k F2 E2))) (bw a o k (nset (nset (nset (nset (nset F 0 (F2 0)) 1 (F2 1)) 2 (F2 2)) 3 (F2 3)) 4 (F2 4)) E ++ (bw a o2 k F2 E2)) := hD.same rfl
  refine lv_aload_n hz.1 hz.2.1 dX0_takeFrom_40 rfl (lv_at hl 1 rfl) ?_
  refine rg (T := TX0) (N := 12) hz hinX0_takeFrom_X0 hK hP 8 rfl rfl 5 (by decide) (List.mem_of_getElem? (i := 6) rfl) rfl (v := .ref (a (o2 + 1))) rfl dX0_takeFrom_41 ?_
  refine lv_iconst (v := nI 0) hz.1 hz.2.1 dX0_takeFrom_44 (by decide) ?_
  refine lv_aload_n hz.1 hz.2.1 dX0_takeFrom_45 rfl (lv_at hl 0 rfl) ?_
  refine rg (T := TX0) (N := 12) hz hinX0_takeFrom_X0 hK hP 0 rfl rfl 5 (by decide) (List.mem_of_getElem? (i := 6) rfl) rfl (v := .ref (a (o + 1))) rfl dX0_takeFrom_46 ?_
  refine lv_iconst (v := nI 0) hz.1 hz.2.1 dX0_takeFrom_49 (by decide) ?_
  refine lv_bipush (v := nI 8) hz.1 hz.2.1 dX0_takeFrom_50 (by decide) ?_
  refine rcpy hz hl.1 (List.mem_of_getElem? (i := 7) rfl) (List.mem_of_getElem? (i := 8) rfl) (List.mem_of_getElem? (i := 9) rfl) (List.mem_of_getElem? (i := 10) rfl) hK hP hD hS 9 1 rfl rfl (by decide) (by decide) (by decide) (Nat.le_of_ble_eq_true rfl) (Nat.le_of_ble_eq_true rfl) dX0_takeFrom_52 (fun H locs hP hS => ?_)
  have hP : va_P D vwCl (bw a o k (nset (nset (nset (nset (nset F 0 (F2 0)) 1 (F2 1)) 2 (F2 2)) 3 (F2 3)) 4 (F2 4)) (gset E 0 (ccpy (E 0) (E2 0) 8)) ++ (bw a o2 k F2 E2)) H := hP
  have hD : va_D (wA (bw a o k F E ++ (bw a o2 k F2 E2))) (bw a o k (nset (nset (nset (nset (nset F 0 (F2 0)) 1 (F2 1)) 2 (F2 2)) 3 (F2 3)) 4 (F2 4)) (gset E 0 (ccpy (E 0) (E2 0) 8)) ++ (bw a o2 k F2 E2)) := hD.same rfl
  refine lv_aload_n hz.1 hz.2.1 dX0_takeFrom_55 rfl (lv_at hl 1 rfl) ?_
  refine rg (T := TX0) (N := 12) hz hinX0_takeFrom_X0 hK hP 8 rfl rfl 6 (by decide) (List.mem_of_getElem? (i := 11) rfl) rfl (v := .ref (a (o2 + 2))) rfl dX0_takeFrom_56 ?_
  refine lv_iconst (v := nI 0) hz.1 hz.2.1 dX0_takeFrom_59 (by decide) ?_
  refine lv_aload_n hz.1 hz.2.1 dX0_takeFrom_60 rfl (lv_at hl 0 rfl) ?_
  refine rg (T := TX0) (N := 12) hz hinX0_takeFrom_X0 hK hP 0 rfl rfl 6 (by decide) (List.mem_of_getElem? (i := 11) rfl) rfl (v := .ref (a (o + 2))) rfl dX0_takeFrom_61 ?_
  refine lv_iconst (v := nI 0) hz.1 hz.2.1 dX0_takeFrom_64 (by decide) ?_
  refine lv_bipush (v := nI 8) hz.1 hz.2.1 dX0_takeFrom_65 (by decide) ?_
  refine rcpy hz hl.1 (List.mem_of_getElem? (i := 7) rfl) (List.mem_of_getElem? (i := 8) rfl) (List.mem_of_getElem? (i := 9) rfl) (List.mem_of_getElem? (i := 10) rfl) hK hP hD hS 10 2 rfl rfl (by decide) (by decide) (by decide) (Nat.le_of_ble_eq_true rfl) (Nat.le_of_ble_eq_true rfl) dX0_takeFrom_67 (fun H locs hP hS => ?_)
  have hP : va_P D vwCl (bw a o k (nset (nset (nset (nset (nset F 0 (F2 0)) 1 (F2 1)) 2 (F2 2)) 3 (F2 3)) 4 (F2 4)) (gset (gset E 0 (ccpy (E 0) (E2 0) 8)) 1 (ccpy (E 1) (E2 1) 8)) ++ (bw a o2 k F2 E2)) H := hP
  have hD : va_D (wA (bw a o k F E ++ (bw a o2 k F2 E2))) (bw a o k (nset (nset (nset (nset (nset F 0 (F2 0)) 1 (F2 1)) 2 (F2 2)) 3 (F2 3)) 4 (F2 4)) (gset (gset E 0 (ccpy (E 0) (E2 0) 8)) 1 (ccpy (E 1) (E2 1) 8)) ++ (bw a o2 k F2 E2)) := hD.same rfl
  refine lv_aload_n hz.1 hz.2.1 dX0_takeFrom_70 rfl (lv_at hl 1 rfl) ?_
  refine rg (T := TX0) (N := 12) hz hinX0_takeFrom_X0 hK hP 8 rfl rfl 7 (by decide) (List.mem_of_getElem? (i := 12) rfl) rfl (v := .ref (a (o2 + 3))) rfl dX0_takeFrom_71 ?_
  refine lv_iconst (v := nI 0) hz.1 hz.2.1 dX0_takeFrom_74 (by decide) ?_
  refine lv_aload_n hz.1 hz.2.1 dX0_takeFrom_75 rfl (lv_at hl 0 rfl) ?_
  refine rg (T := TX0) (N := 12) hz hinX0_takeFrom_X0 hK hP 0 rfl rfl 7 (by decide) (List.mem_of_getElem? (i := 12) rfl) rfl (v := .ref (a (o + 3))) rfl dX0_takeFrom_76 ?_
  refine lv_iconst (v := nI 0) hz.1 hz.2.1 dX0_takeFrom_79 (by decide) ?_
  refine lv_bipush (v := nI 6) hz.1 hz.2.1 dX0_takeFrom_80 (by decide) ?_
  refine rcpy hz hl.1 (List.mem_of_getElem? (i := 7) rfl) (List.mem_of_getElem? (i := 8) rfl) (List.mem_of_getElem? (i := 9) rfl) (List.mem_of_getElem? (i := 10) rfl) hK hP hD hS 11 3 rfl rfl (by decide) (by decide) (by decide) (Nat.le_of_ble_eq_true rfl) (Nat.le_of_ble_eq_true rfl) dX0_takeFrom_82 (fun H locs hP hS => ?_)
  have hP : va_P D vwCl (bw a o k (nset (nset (nset (nset (nset F 0 (F2 0)) 1 (F2 1)) 2 (F2 2)) 3 (F2 3)) 4 (F2 4)) (gset (gset (gset E 0 (ccpy (E 0) (E2 0) 8)) 1 (ccpy (E 1) (E2 1) 8)) 2 (ccpy (E 2) (E2 2) 6)) ++ (bw a o2 k F2 E2)) H := hP
  have hD : va_D (wA (bw a o k F E ++ (bw a o2 k F2 E2))) (bw a o k (nset (nset (nset (nset (nset F 0 (F2 0)) 1 (F2 1)) 2 (F2 2)) 3 (F2 3)) 4 (F2 4)) (gset (gset (gset E 0 (ccpy (E 0) (E2 0) 8)) 1 (ccpy (E 1) (E2 1) 8)) 2 (ccpy (E 2) (E2 2) 6)) ++ (bw a o2 k F2 E2)) := hD.same rfl
  refine lv_aload_n hz.1 hz.2.1 dX0_takeFrom_85 rfl (lv_at hl 1 rfl) ?_
  refine rg (T := TX0) (N := 12) hz hinX0_takeFrom_X0 hK hP 8 rfl rfl 8 (by decide) (List.mem_of_getElem? (i := 13) rfl) rfl (v := .ref (a (o2 + 4))) rfl dX0_takeFrom_86 ?_
  refine lv_iconst (v := nI 0) hz.1 hz.2.1 dX0_takeFrom_89 (by decide) ?_
  refine lv_aload_n hz.1 hz.2.1 dX0_takeFrom_90 rfl (lv_at hl 0 rfl) ?_
  refine rg (T := TX0) (N := 12) hz hinX0_takeFrom_X0 hK hP 0 rfl rfl 8 (by decide) (List.mem_of_getElem? (i := 13) rfl) rfl (v := .ref (a (o + 4))) rfl dX0_takeFrom_91 ?_
  refine lv_iconst (v := nI 0) hz.1 hz.2.1 dX0_takeFrom_94 (by decide) ?_
  refine lv_bipush (v := nI 6) hz.1 hz.2.1 dX0_takeFrom_95 (by decide) ?_
  refine rcpy hz hl.1 (List.mem_of_getElem? (i := 7) rfl) (List.mem_of_getElem? (i := 8) rfl) (List.mem_of_getElem? (i := 9) rfl) (List.mem_of_getElem? (i := 10) rfl) hK hP hD hS 12 4 rfl rfl (by decide) (by decide) (by decide) (Nat.le_of_ble_eq_true rfl) (Nat.le_of_ble_eq_true rfl) dX0_takeFrom_97 (fun H locs hP hS => ?_)
  have hP : va_P D vwCl (bw a o k (nset (nset (nset (nset (nset F 0 (F2 0)) 1 (F2 1)) 2 (F2 2)) 3 (F2 3)) 4 (F2 4)) (gset (gset (gset (gset E 0 (ccpy (E 0) (E2 0) 8)) 1 (ccpy (E 1) (E2 1) 8)) 2 (ccpy (E 2) (E2 2) 6)) 3 (ccpy (E 3) (E2 3) 6)) ++ (bw a o2 k F2 E2)) H := hP
  have hD : va_D (wA (bw a o k F E ++ (bw a o2 k F2 E2))) (bw a o k (nset (nset (nset (nset (nset F 0 (F2 0)) 1 (F2 1)) 2 (F2 2)) 3 (F2 3)) 4 (F2 4)) (gset (gset (gset (gset E 0 (ccpy (E 0) (E2 0) 8)) 1 (ccpy (E 1) (E2 1) 8)) 2 (ccpy (E 2) (E2 2) 6)) 3 (ccpy (E 3) (E2 3) 6)) ++ (bw a o2 k F2 E2)) := hD.same rfl
  refine lv_aload_n hz.1 hz.2.1 dX0_takeFrom_100 rfl (lv_at hl 1 rfl) ?_
  refine rg (T := TX0) (N := 12) hz hinX0_takeFrom_X0 hK hP 8 rfl rfl 9 (by decide) (List.mem_of_getElem? (i := 14) rfl) rfl (v := .ref (a (o2 + 5))) rfl dX0_takeFrom_101 ?_
  refine lv_iconst (v := nI 0) hz.1 hz.2.1 dX0_takeFrom_104 (by decide) ?_
  refine lv_aload_n hz.1 hz.2.1 dX0_takeFrom_105 rfl (lv_at hl 0 rfl) ?_
  refine rg (T := TX0) (N := 12) hz hinX0_takeFrom_X0 hK hP 0 rfl rfl 9 (by decide) (List.mem_of_getElem? (i := 14) rfl) rfl (v := .ref (a (o + 5))) rfl dX0_takeFrom_106 ?_
  refine lv_iconst (v := nI 0) hz.1 hz.2.1 dX0_takeFrom_109 (by decide) ?_
  refine lv_bipush (v := nI 8) hz.1 hz.2.1 dX0_takeFrom_110 (by decide) ?_
  refine rcpy hz hl.1 (List.mem_of_getElem? (i := 7) rfl) (List.mem_of_getElem? (i := 8) rfl) (List.mem_of_getElem? (i := 9) rfl) (List.mem_of_getElem? (i := 10) rfl) hK hP hD hS 13 5 rfl rfl (by decide) (by decide) (by decide) (Nat.le_of_ble_eq_true rfl) (Nat.le_of_ble_eq_true rfl) dX0_takeFrom_112 (fun H locs hP hS => ?_)
  have hP : va_P D vwCl (bw a o k (nset (nset (nset (nset (nset F 0 (F2 0)) 1 (F2 1)) 2 (F2 2)) 3 (F2 3)) 4 (F2 4)) (gset (gset (gset (gset (gset E 0 (ccpy (E 0) (E2 0) 8)) 1 (ccpy (E 1) (E2 1) 8)) 2 (ccpy (E 2) (E2 2) 6)) 3 (ccpy (E 3) (E2 3) 6)) 4 (ccpy (E 4) (E2 4) 8)) ++ (bw a o2 k F2 E2)) H := hP
  have hD : va_D (wA (bw a o k F E ++ (bw a o2 k F2 E2))) (bw a o k (nset (nset (nset (nset (nset F 0 (F2 0)) 1 (F2 1)) 2 (F2 2)) 3 (F2 3)) 4 (F2 4)) (gset (gset (gset (gset (gset E 0 (ccpy (E 0) (E2 0) 8)) 1 (ccpy (E 1) (E2 1) 8)) 2 (ccpy (E 2) (E2 2) 6)) 3 (ccpy (E 3) (E2 3) 6)) 4 (ccpy (E 4) (E2 4) 8)) ++ (bw a o2 k F2 E2)) := hD.same rfl
  refine lv_aload_n hz.1 hz.2.1 dX0_takeFrom_115 rfl (lv_at hl 1 rfl) ?_
  refine rg (T := TX0) (N := 12) hz hinX0_takeFrom_X0 hK hP 8 rfl rfl 10 (by decide) (List.mem_of_getElem? (i := 15) rfl) rfl (v := .ref (a (o2 + 6))) rfl dX0_takeFrom_116 ?_
  refine lv_iconst (v := nI 0) hz.1 hz.2.1 dX0_takeFrom_119 (by decide) ?_
  refine lv_aload_n hz.1 hz.2.1 dX0_takeFrom_120 rfl (lv_at hl 0 rfl) ?_
  refine rg (T := TX0) (N := 12) hz hinX0_takeFrom_X0 hK hP 0 rfl rfl 10 (by decide) (List.mem_of_getElem? (i := 15) rfl) rfl (v := .ref (a (o + 6))) rfl dX0_takeFrom_121 ?_
  refine lv_iconst (v := nI 0) hz.1 hz.2.1 dX0_takeFrom_124 (by decide) ?_
  refine lv_bipush (v := nI 8) hz.1 hz.2.1 dX0_takeFrom_125 (by decide) ?_
  refine rcpy hz hl.1 (List.mem_of_getElem? (i := 7) rfl) (List.mem_of_getElem? (i := 8) rfl) (List.mem_of_getElem? (i := 9) rfl) (List.mem_of_getElem? (i := 10) rfl) hK hP hD hS 14 6 rfl rfl (by decide) (by decide) (by decide) (Nat.le_of_ble_eq_true rfl) (Nat.le_of_ble_eq_true rfl) dX0_takeFrom_127 (fun H locs hP hS => ?_)
  have hP : va_P D vwCl (bw a o k (nset (nset (nset (nset (nset F 0 (F2 0)) 1 (F2 1)) 2 (F2 2)) 3 (F2 3)) 4 (F2 4)) (gset (gset (gset (gset (gset (gset E 0 (ccpy (E 0) (E2 0) 8)) 1 (ccpy (E 1) (E2 1) 8)) 2 (ccpy (E 2) (E2 2) 6)) 3 (ccpy (E 3) (E2 3) 6)) 4 (ccpy (E 4) (E2 4) 8)) 5 (ccpy (E 5) (E2 5) 8)) ++ (bw a o2 k F2 E2)) H := hP
  have hD : va_D (wA (bw a o k F E ++ (bw a o2 k F2 E2))) (bw a o k (nset (nset (nset (nset (nset F 0 (F2 0)) 1 (F2 1)) 2 (F2 2)) 3 (F2 3)) 4 (F2 4)) (gset (gset (gset (gset (gset (gset E 0 (ccpy (E 0) (E2 0) 8)) 1 (ccpy (E 1) (E2 1) 8)) 2 (ccpy (E 2) (E2 2) 6)) 3 (ccpy (E 3) (E2 3) 6)) 4 (ccpy (E 4) (E2 4) 8)) 5 (ccpy (E 5) (E2 5) 8)) ++ (bw a o2 k F2 E2)) := hD.same rfl
  refine lv_aload_n hz.1 hz.2.1 dX0_takeFrom_130 rfl (lv_at hl 1 rfl) ?_
  refine rg (T := TX0) (N := 12) hz hinX0_takeFrom_X0 hK hP 8 rfl rfl 11 (by decide) (List.mem_of_getElem? (i := 16) rfl) rfl (v := .ref (a (o2 + 7))) rfl dX0_takeFrom_131 ?_
  refine lv_iconst (v := nI 0) hz.1 hz.2.1 dX0_takeFrom_134 (by decide) ?_
  refine lv_aload_n hz.1 hz.2.1 dX0_takeFrom_135 rfl (lv_at hl 0 rfl) ?_
  refine rg (T := TX0) (N := 12) hz hinX0_takeFrom_X0 hK hP 0 rfl rfl 11 (by decide) (List.mem_of_getElem? (i := 16) rfl) rfl (v := .ref (a (o + 7))) rfl dX0_takeFrom_136 ?_
  refine lv_iconst (v := nI 0) hz.1 hz.2.1 dX0_takeFrom_139 (by decide) ?_
  refine lv_bipush (v := nI 8) hz.1 hz.2.1 dX0_takeFrom_140 (by decide) ?_
  refine rcpy hz hl.1 (List.mem_of_getElem? (i := 7) rfl) (List.mem_of_getElem? (i := 8) rfl) (List.mem_of_getElem? (i := 9) rfl) (List.mem_of_getElem? (i := 10) rfl) hK hP hD hS 15 7 rfl rfl (by decide) (by decide) (by decide) (Nat.le_of_ble_eq_true rfl) (Nat.le_of_ble_eq_true rfl) dX0_takeFrom_142 (fun H locs hP hS => ?_)
  have hP : va_P D vwCl (bw a o k (nset (nset (nset (nset (nset F 0 (F2 0)) 1 (F2 1)) 2 (F2 2)) 3 (F2 3)) 4 (F2 4)) (gset (gset (gset (gset (gset (gset (gset E 0 (ccpy (E 0) (E2 0) 8)) 1 (ccpy (E 1) (E2 1) 8)) 2 (ccpy (E 2) (E2 2) 6)) 3 (ccpy (E 3) (E2 3) 6)) 4 (ccpy (E 4) (E2 4) 8)) 5 (ccpy (E 5) (E2 5) 8)) 6 (ccpy (E 6) (E2 6) 8)) ++ (bw a o2 k F2 E2)) H := hP
  have hD : va_D (wA (bw a o k F E ++ (bw a o2 k F2 E2))) (bw a o k (nset (nset (nset (nset (nset F 0 (F2 0)) 1 (F2 1)) 2 (F2 2)) 3 (F2 3)) 4 (F2 4)) (gset (gset (gset (gset (gset (gset (gset E 0 (ccpy (E 0) (E2 0) 8)) 1 (ccpy (E 1) (E2 1) 8)) 2 (ccpy (E 2) (E2 2) 6)) 3 (ccpy (E 3) (E2 3) 6)) 4 (ccpy (E 4) (E2 4) 8)) 5 (ccpy (E 5) (E2 5) 8)) 6 (ccpy (E 6) (E2 6) 8)) ++ (bw a o2 k F2 E2)) := hD.same rfl
  exact wr_vret hz hr hlk dX0_takeFrom_145 hS (()) hP (trivial)
