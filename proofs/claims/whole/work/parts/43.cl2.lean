set_option maxHeartbeats 4000000 in
set_option maxRecDepth 100000 in
theorem cJ_bit (l_ : Launch) (x : Nat) (hx : x < 4096) : Met l_ yJ6_bitCount_0f7a4 wsJ6_bitCount_0f7a4 ({ frames := 0, cells := 0, slots := 0, locals := 0 }) (va_Pc [.int (nI x)] (fun _ => True)) (QcRead (nI (sPop x))) 0 0 (fun _ => False) := by
  refine my_entry (cc := cJ6_bitCount_0f7a4) (maxL := 1) (ret := some .int) (by decide) rfl (Nat.le_of_ble_eq_true rfl) ?_
  intro p_ e_ s_ m_ bl_ me_ c_ hz hr hlk hB ls hl
  have hl : lv_has ls 1 [(0, .int (nI x))] := hl
  refine lv_iload_n hz.1 hz.2.1 dJ6_bitCount_0f7a4_0 rfl (lv_at hl 0 rfl) ?_
  refine lv_iload_n hz.1 hz.2.1 dJ6_bitCount_0f7a4_1 rfl (lv_at hl 0 rfl) ?_
  refine lv_iconst (v := nI 1) hz.1 hz.2.1 dJ6_bitCount_0f7a4_2 (by decide) ?_
  refine lv_iushr (v := ush (nI x) (nI 1)) hz.1 hz.2.1 dJ6_bitCount_0f7a4_3 rfl ?_
  refine lv_ldcw (own := RJ6) (v := 1431655765) hz.1 hz.2.1 hz.2.2.2.1 (hz.2.2.2.2 (.constant RJ6 265 (1431655765)) (List.mem_of_getElem? (i := 1) rfl)) dJ6_bitCount_0f7a4_4 ?_
  refine lv_iand hz.1 hz.2.1 dJ6_bitCount_0f7a4_7 ?_
  refine lv_isub hz.1 hz.2.1 dJ6_bitCount_0f7a4_8 ?_
  refine toe (z := bc1 (nI x)) (rfl) ?_
  refine lv_istore_n (lv' := [(0, .int (bc1 (nI x)))]) hz.1 hz.2.1 dJ6_bitCount_0f7a4_9 rfl hl (by decide) rfl (fun ls hl => ?_)
  refine lv_iload_n hz.1 hz.2.1 dJ6_bitCount_0f7a4_10 rfl (lv_at hl 0 rfl) ?_
  refine lv_ldcw (own := RJ6) (v := 858993459) hz.1 hz.2.1 hz.2.2.2.1 (hz.2.2.2.2 (.constant RJ6 266 (858993459)) (List.mem_of_getElem? (i := 2) rfl)) dJ6_bitCount_0f7a4_11 ?_
  refine lv_iand hz.1 hz.2.1 dJ6_bitCount_0f7a4_14 ?_
  refine lv_iload_n hz.1 hz.2.1 dJ6_bitCount_0f7a4_15 rfl (lv_at hl 0 rfl) ?_
  refine lv_iconst (v := nI 2) hz.1 hz.2.1 dJ6_bitCount_0f7a4_16 (by decide) ?_
  refine lv_iushr (v := ush (bc1 (nI x)) (nI 2)) hz.1 hz.2.1 dJ6_bitCount_0f7a4_17 rfl ?_
  refine lv_ldcw (own := RJ6) (v := 858993459) hz.1 hz.2.1 hz.2.2.2.1 (hz.2.2.2.2 (.constant RJ6 266 (858993459)) (List.mem_of_getElem? (i := 2) rfl)) dJ6_bitCount_0f7a4_18 ?_
  refine lv_iand hz.1 hz.2.1 dJ6_bitCount_0f7a4_21 ?_
  refine lv_iadd hz.1 hz.2.1 dJ6_bitCount_0f7a4_22 ?_
  refine toe (z := bc2 (bc1 (nI x))) (rfl) ?_
  refine lv_istore_n (lv' := [(0, .int (bc2 (bc1 (nI x))))]) hz.1 hz.2.1 dJ6_bitCount_0f7a4_23 rfl hl (by decide) rfl (fun ls hl => ?_)
  refine lv_iload_n hz.1 hz.2.1 dJ6_bitCount_0f7a4_24 rfl (lv_at hl 0 rfl) ?_
  refine lv_iload_n hz.1 hz.2.1 dJ6_bitCount_0f7a4_25 rfl (lv_at hl 0 rfl) ?_
  refine lv_iconst (v := nI 4) hz.1 hz.2.1 dJ6_bitCount_0f7a4_26 (by decide) ?_
  refine lv_iushr (v := ush (bc2 (bc1 (nI x))) (nI 4)) hz.1 hz.2.1 dJ6_bitCount_0f7a4_27 rfl ?_
  refine lv_iadd hz.1 hz.2.1 dJ6_bitCount_0f7a4_28 ?_
  refine lv_ldcw (own := RJ6) (v := 252645135) hz.1 hz.2.1 hz.2.2.2.1 (hz.2.2.2.2 (.constant RJ6 267 (252645135)) (List.mem_of_getElem? (i := 3) rfl)) dJ6_bitCount_0f7a4_29 ?_
  refine lv_iand hz.1 hz.2.1 dJ6_bitCount_0f7a4_32 ?_
  refine toe (z := bc3 (bc2 (bc1 (nI x)))) (rfl) ?_
  refine lv_istore_n (lv' := [(0, .int (bc3 (bc2 (bc1 (nI x)))))]) hz.1 hz.2.1 dJ6_bitCount_0f7a4_33 rfl hl (by decide) rfl (fun ls hl => ?_)
  refine lv_iload_n hz.1 hz.2.1 dJ6_bitCount_0f7a4_34 rfl (lv_at hl 0 rfl) ?_
  refine lv_iload_n hz.1 hz.2.1 dJ6_bitCount_0f7a4_35 rfl (lv_at hl 0 rfl) ?_
  refine lv_bipush (v := nI 8) hz.1 hz.2.1 dJ6_bitCount_0f7a4_36 (by decide) ?_
  refine lv_iushr (v := ush (bc3 (bc2 (bc1 (nI x)))) (nI 8)) hz.1 hz.2.1 dJ6_bitCount_0f7a4_38 rfl ?_
  refine lv_iadd hz.1 hz.2.1 dJ6_bitCount_0f7a4_39 ?_
  refine toe (z := bc4 (bc3 (bc2 (bc1 (nI x))))) (rfl) ?_
  refine lv_istore_n (lv' := [(0, .int (bc4 (bc3 (bc2 (bc1 (nI x))))))]) hz.1 hz.2.1 dJ6_bitCount_0f7a4_40 rfl hl (by decide) rfl (fun ls hl => ?_)
  refine lv_iload_n hz.1 hz.2.1 dJ6_bitCount_0f7a4_41 rfl (lv_at hl 0 rfl) ?_
  refine lv_iload_n hz.1 hz.2.1 dJ6_bitCount_0f7a4_42 rfl (lv_at hl 0 rfl) ?_
  refine lv_bipush (v := nI 16) hz.1 hz.2.1 dJ6_bitCount_0f7a4_43 (by decide) ?_
  refine lv_iushr (v := ush (bc4 (bc3 (bc2 (bc1 (nI x))))) (nI 16)) hz.1 hz.2.1 dJ6_bitCount_0f7a4_45 rfl ?_
  refine lv_iadd hz.1 hz.2.1 dJ6_bitCount_0f7a4_46 ?_
  refine toe (z := bc5 (bc4 (bc3 (bc2 (bc1 (nI x)))))) (rfl) ?_
  refine lv_istore_n (lv' := [(0, .int (bc5 (bc4 (bc3 (bc2 (bc1 (nI x)))))))]) hz.1 hz.2.1 dJ6_bitCount_0f7a4_47 rfl hl (by decide) rfl (fun ls hl => ?_)
  refine lv_iload_n hz.1 hz.2.1 dJ6_bitCount_0f7a4_48 rfl (lv_at hl 0 rfl) ?_
  refine lv_bipush (v := nI 63) hz.1 hz.2.1 dJ6_bitCount_0f7a4_49 (by decide) ?_
  refine lv_iand hz.1 hz.2.1 dJ6_bitCount_0f7a4_51 ?_
  exact rd_iret hz hr hlk dJ6_bitCount_0f7a4_52 (bc_small hx)

set_option maxHeartbeats 4000000 in
set_option maxRecDepth 100000 in
theorem c2_gcd (l_ : Launch) (ov un : Nat) (h1 : ov < 1000000) (h2 : un < 1000000) : Met l_ yX2_commonDivisor wsX2_commonDivisor ({ frames := 0, cells := 0, slots := 0, locals := 0 }) (va_Pc [.long (lN ov), .long (lN un)] (fun _ => True)) (k2_QcV (.long (lN (Nat.gcd ov un)))) 0 0 (fun _ => False) := by
  refine my_entry (cc := cX2_commonDivisor) (maxL := 7) (ret := some .long) (by decide) rfl (Nat.le_of_ble_eq_true rfl) ?_
  intro p_ e_ s_ m_ bl_ me_ c_ hz hr hlk hB ls hl
  have hl : lv_has ls 7 [(0, .long (lN ov)), (2, .long (lN un))] := hl
  refine lv_iconst (v := nI 0) hz.1 hz.2.1 dX2_commonDivisor_0 (by decide) ?_
  refine lv_istore (lv' := [(4, .int (nI 0)), (0, .long (lN ov)), (2, .long (lN un))]) hz.1 hz.2.1 dX2_commonDivisor_1 hl (by decide) rfl (fun ls hl => ?_)
  have lp_3 : ∀ (fu : Nat) (j : Nat) (x : Nat) (y : Nat), (Nat.gcd x y = Nat.gcd ov un) → (x < 1000000) → (y < 1000000) → (j ≤ 64) → (j = 0 ∨ (y < x ∧ x * y * 2 ^ j < 2 ^ 42)) → 64 - j < fu → ∀ ls : Array Slot, lv_has ls 7 [(0, .long (lN x)), (2, .long (lN y)), (4, .int (nI j))] → W p_ l_ e_ ({ frames := 0, cells := 0, slots := 0, locals := 0 }) s_ m_ [.long (lN ov), .long (lN un)].toArray bl_ me_ c_ s_.heap [] 0 0 (MQ bl_ (k2_QcV (.long (lN (Nat.gcd ov un)))) [.long (lN ov), .long (lN un)].toArray s_ 0 0 (fun _ => False)) (F0 m_ 3 ls []) := by
    intro fu
    induction fu with
    | zero => intro j x y hg hx hy hj hE hm; exact absurd hm (Nat.not_lt_zero _)
    | succ fu ih3 =>
      intro j x y hg hx hy hj hE hm ls hl
      refine lv_iload hz.1 hz.2.1 dX2_commonDivisor_3 (lv_at hl 2 rfl) ?_
      refine lv_bipush (v := nI 64) hz.1 hz.2.1 dX2_commonDivisor_5 (by decide) ?_
      refine jge (tgt := 32) hz dX2_commonDivisor_7 (by decide) (by omega) (by omega) (fun c_7 => ?_) (fun c_7 => ?_)
      · obtain rfl : j = 64 := by omega
        have hy0 := eu_end hE
        rw [hy0, Nat.gcd_zero_right] at hg
        refine lv_lload_n hz.1 hz.2.1 dX2_commonDivisor_32 rfl (lv_at hl 0 rfl) ?_
        exact rd_lret hz hr hlk dX2_commonDivisor_33 (by rw [hg])
      · refine lv_lload_n hz.1 hz.2.1 dX2_commonDivisor_10 rfl (lv_at hl 1 rfl) ?_
        refine lv_lconst (v := lN 0) hz.1 hz.2.1 dX2_commonDivisor_11 (by decide) ?_
        refine W.lcmp hz.1 hz.2.1 dX2_commonDivisor_12 ?_
        refine lceq (tgt := 32) hz dX2_commonDivisor_13 (by decide) (by omega) (by omega) (fun c_13 => ?_) (fun c_13 => ?_)
        · rw [c_13, Nat.gcd_zero_right] at hg
          refine lv_lload_n hz.1 hz.2.1 dX2_commonDivisor_32 rfl (lv_at hl 0 rfl) ?_
          exact rd_lret hz hr hlk dX2_commonDivisor_33 (by rw [hg])
        · have hm2 := Nat.mod_lt x (Nat.pos_of_ne_zero c_13)
          refine lv_lload_n hz.1 hz.2.1 dX2_commonDivisor_16 rfl (lv_at hl 0 rfl) ?_
          refine lv_lload_n hz.1 hz.2.1 dX2_commonDivisor_17 rfl (lv_at hl 1 rfl) ?_
          refine lv_lrem hz.1 hz.2.1 dX2_commonDivisor_18 (lN_ne0 (by omega) (by omega)) ?_
          refine toeL (z := lN (x % y)) (pk_lRem (by omega) (by omega) (by omega)) ?_
          refine lv_lstore (lv' := [(5, .long (lN (x % y))), (0, .long (lN x)), (2, .long (lN y)), (4, .int (nI j))]) hz.1 hz.2.1 dX2_commonDivisor_19 hl (by decide) rfl (fun ls hl => ?_)
          refine lv_lload_n hz.1 hz.2.1 dX2_commonDivisor_21 rfl (lv_at hl 2 rfl) ?_
          refine lv_lstore_n (lv' := [(0, .long (lN y)), (5, .long (lN (x % y))), (2, .long (lN y)), (4, .int (nI j))]) hz.1 hz.2.1 dX2_commonDivisor_22 rfl hl (by decide) rfl (fun ls hl => ?_)
          refine lv_lload hz.1 hz.2.1 dX2_commonDivisor_23 (lv_at hl 1 rfl) ?_
          refine lv_lstore_n (lv' := [(2, .long (lN (x % y))), (0, .long (lN y)), (5, .long (lN (x % y))), (4, .int (nI j))]) hz.1 hz.2.1 dX2_commonDivisor_25 rfl hl (by decide) rfl (fun ls hl => ?_)
          refine lv_iinc (v := nI (j + 1)) (lv' := [(4, .int (nI (j + 1))), (2, .long (lN (x % y))), (0, .long (lN y)), (5, .long (lN (x % y)))]) hz.1 hz.2.1 dX2_commonDivisor_26 hl (k := 3) rfl (nI_add _ 1) (by decide) rfl (fun ls hl => ?_)
          refine lv_goto (tgt := 3) hz.1 hz.2.1 dX2_commonDivisor_29 (by decide) ?_
          exact ih3 (j + 1) y (x % y) (gcd_step.trans hg) (hy) (by omega) (by omega) (eu_step c_13 hx hy hE) (by omega) ls (lv_sub hl [2, 1, 0] rfl)
  exact lp_3 _ 0 ov un (rfl) (h1) (h2) (by omega) (Or.inl rfl) (Nat.lt_succ_self _) ls (lv_sub hl [1, 2, 0] rfl)

theorem hinX2_become_X2 : ∀ w ∈ wsX20, w ∈ wsX2_become := fun _ h => List.mem_cons_of_mem _ (List.mem_append_right _ h)
set_option maxHeartbeats 4000000 in
set_option maxRecDepth 100000 in
theorem c2_become (l_ : Launch) (D : va_G) (k : Nat → ClassId) (a : Nat → Nat) (tS : Nat) (sk sv : Nat → Nat) (Q : Nat → Nat) (ov un : Nat) (h1 : ov < 1000000) (h2 : un < 1000000) (h3 : 0 < un) : Met l_ yX2_become wsX2_become ({ frames := 1, cells := 0, slots := 0, locals := 26 }) (va_Pc [.ref (a 53), .long (lN ov), .long (lN un)] (wH (Am tS sk sv) D k (qw a Q))) (va_Qv (fun (u : Unit) => True) (fun (u : Unit) (t_ : State) => va_P D vwCl ((fun (_ : Unit) => qw a (nset (nset Q 0 (ov / Nat.gcd ov un)) 1 (un / Nat.gcd ov un))) u) t_.heap) (wA (qw a Q))) 0 0 (wA (qw a Q)) := by
  refine my_entry (cc := cX2_become) (maxL := 7) (ret := none) (by decide) rfl (Nat.le_of_ble_eq_true rfl) ?_
  intro p_ e_ s_ m_ bl_ me_ c_ hz hr hlk hB ls hl
  obtain ⟨hP, hK, hD0, hy⟩ := hB
  have hD := wA.self hD0
  have hS : va_S (wA (qw a Q)) s_.heap s_.heap [] := va_S.rf
  have hl : lv_has ls 7 [(0, .ref (a 53)), (1, .long (lN ov)), (3, .long (lN un))] := hl
  have hg0 : 0 < Nat.gcd ov un := Nat.gcd_pos_of_pos_right _ h3
  have hg1 : Nat.gcd ov un ≤ un := Nat.gcd_le_right _ h3
  refine lv_lload_n hz.1 hz.2.1 dX2_become_0 rfl (lv_at hl 1 rfl) ?_
  refine lv_lload_n hz.1 hz.2.1 dX2_become_1 rfl (lv_at hl 2 rfl) ?_
  refine rdSl (As := [.long (lN ov), .long (lN un)]) (rest := []) hz (c2_gcd l_ ov un (by omega) (by omega)) rfl (va_cwS 2 hz.2.2.2.2 gX2_become_X2_commonDivisor rfl rfl rfl (by decide +kernel) ⟨Nat.le_of_ble_eq_true rfl, Nat.le_of_ble_eq_true rfl⟩) rfl hl.1 rfl (Nat.le_of_ble_eq_true rfl) dX2_become_2 ⟨Nat.zero_le _, Nat.zero_le _⟩ ?_
  refine lv_lstore (lv' := [(5, .long (lN (Nat.gcd ov un))), (0, .ref (a 53)), (1, .long (lN ov)), (3, .long (lN un))]) hz.1 hz.2.1 dX2_become_5 hl (by decide) rfl (fun ls hl => ?_)
  refine lv_lload hz.1 hz.2.1 dX2_become_7 (lv_at hl 0 rfl) ?_
  refine lv_lconst (v := lN 0) hz.1 hz.2.1 dX2_become_9 (by decide) ?_
  refine W.lcmp hz.1 hz.2.1 dX2_become_10 ?_
  refine lcle (tgt := 30) hz dX2_become_11 (by decide) (by omega) (by omega) (fun c_11 => ?_) (fun c_11 => ?_)
  · exact absurd hg0 c_11
  · refine lv_aload_n hz.1 hz.2.1 dX2_become_14 rfl (lv_at hl 1 rfl) ?_
    refine lv_lload_n hz.1 hz.2.1 dX2_become_15 rfl (lv_at hl 2 rfl) ?_
    refine lv_lload hz.1 hz.2.1 dX2_become_16 (lv_at hl 0 rfl) ?_
    refine lv_ldiv hz.1 hz.2.1 dX2_become_18 (lN_ne0 (by omega) (by omega)) ?_
    refine toeL (z := lN (ov / (Nat.gcd ov un))) (pk_lDiv (by omega) (by omega) (by omega)) ?_
    refine rput (v := .long (lN (ov / (Nat.gcd ov un)))) (ty := .long) (T := TX2) (N := 2) hz hinX2_become_X2 tyX2 tyX2_ok nmX2 hK hP hD hS 0 rfl rfl 0 (by decide) (List.mem_of_getElem? (i := 1) rfl) rfl rfl (by decide +kernel) rfl rfl (Nat.le_of_ble_eq_true rfl) dX2_become_19 (fun H locs hP hS => ?_)
    have hP : va_P D vwCl (qw a (nset Q 0 (ov / (Nat.gcd ov un)))) H := hP
    have hD : va_D (wA (qw a Q)) (qw a (nset Q 0 (ov / (Nat.gcd ov un)))) := hD.same rfl
    refine lv_aload_n hz.1 hz.2.1 dX2_become_22 rfl (lv_at hl 1 rfl) ?_
    refine lv_lload_n hz.1 hz.2.1 dX2_become_23 rfl (lv_at hl 3 rfl) ?_
    refine lv_lload hz.1 hz.2.1 dX2_become_24 (lv_at hl 0 rfl) ?_
    refine lv_ldiv hz.1 hz.2.1 dX2_become_26 (lN_ne0 (by omega) (by omega)) ?_
    refine toeL (z := lN (un / (Nat.gcd ov un))) (pk_lDiv (by omega) (by omega) (by omega)) ?_
    refine rput (v := .long (lN (un / (Nat.gcd ov un)))) (ty := .long) (T := TX2) (N := 2) hz hinX2_become_X2 tyX2 tyX2_ok nmX2 hK hP hD hS 0 rfl rfl 1 (by decide) (List.mem_of_getElem? (i := 2) rfl) rfl rfl (by decide +kernel) rfl rfl (Nat.le_of_ble_eq_true rfl) dX2_become_27 (fun H locs hP hS => ?_)
    have hP : va_P D vwCl (qw a (nset (nset Q 0 (ov / (Nat.gcd ov un))) 1 (un / (Nat.gcd ov un)))) H := hP
    have hD : va_D (wA (qw a Q)) (qw a (nset (nset Q 0 (ov / (Nat.gcd ov un))) 1 (un / (Nat.gcd ov un)))) := hD.same rfl
    exact wr_vret hz hr hlk dX2_become_30 hS (()) hP (trivial)

theorem hinX5_bad_X5 : ∀ w ∈ wsX50, w ∈ wsX5_bad := fun _ h => List.mem_cons_of_mem _ (List.mem_append_right _ h)
set_option maxHeartbeats 4000000 in
set_option maxRecDepth 100000 in
theorem c5_bad (l_ : Launch) (D : va_G) (k : Nat → ClassId) (a : Nat → Nat) (tS : Nat) (sk sv : Nat → Nat) (C : Nat → Nat) (x : Int32)  : Met l_ yX5_bad wsX5_bad ({ frames := 0, cells := 0, slots := 0, locals := 0 }) (va_Pc [.ref (a 0), .int x] (wH (Am tS sk sv) D k (ho a C))) (va_Qi (fun (r : Int32) (u : Unit) => r = x) (fun (u : Unit) (t_ : State) => va_P D vwCl ((fun (_ : Unit) => ho a (nset C 0 (C 0 + 1))) u) t_.heap) (wA (ho a C))) 0 0 (wA (ho a C)) := by
  refine my_entry (cc := cX5_bad) (maxL := 2) (ret := some .int) (by decide) rfl (Nat.le_of_ble_eq_true rfl) ?_
  intro p_ e_ s_ m_ bl_ me_ c_ hz hr hlk hB ls hl
  obtain ⟨hP, hK, hD0, hy⟩ := hB
  have hD := wA.self hD0
  have hS : va_S (wA (ho a C)) s_.heap s_.heap [] := va_S.rf
  have hl : lv_has ls 2 [(0, .ref (a 0)), (1, .int x)] := hl
  refine lv_aload_n hz.1 hz.2.1 dX5_bad_0 rfl (lv_at hl 0 rfl) ?_
  refine lv_dup hz.1 hz.2.1 dX5_bad_1 rfl ?_
  refine rg (T := TX5) (N := 11) hz hinX5_bad_X5 hK hP 0 rfl rfl 8 (by decide) (List.mem_of_getElem? (i := 1) rfl) rfl (v := .int (nI (C 0))) rfl dX5_bad_2 ?_
  refine lv_iconst (v := nI 1) hz.1 hz.2.1 dX5_bad_5 (by decide) ?_
  refine lv_iadd hz.1 hz.2.1 dX5_bad_6 ?_
  refine toe (z := nI ((C 0) + 1)) (nI_add _ _) ?_
  refine rput (v := .int (nI ((C 0) + 1))) (ty := .int) (T := TX5) (N := 11) hz hinX5_bad_X5 tyX5 tyX5_ok nmX5 hK hP hD hS 0 rfl rfl 8 (by decide) (List.mem_of_getElem? (i := 1) rfl) rfl rfl (by decide +kernel) rfl rfl (Nat.le_of_ble_eq_true rfl) dX5_bad_7 (fun H locs hP hS => ?_)
  have hP : va_P D vwCl (ho a (nset C 0 ((C 0) + 1))) H := hP
  have hD : va_D (wA (ho a C)) (ho a (nset C 0 ((C 0) + 1))) := hD.same rfl
  refine lv_iload_n hz.1 hz.2.1 dX5_bad_10 rfl (lv_at hl 1 rfl) ?_
  exact wr_iret hz hr hlk dX5_bad_11 hS (()) hP (rfl)

theorem hinX5_no_X5 : ∀ w ∈ wsX50, w ∈ wsX5_no := fun _ h => List.mem_cons_of_mem _ (List.mem_append_right _ h)
set_option maxHeartbeats 4000000 in
set_option maxRecDepth 100000 in
theorem c5_no (l_ : Launch) (D : va_G) (k : Nat → ClassId) (a : Nat → Nat) (tS : Nat) (sk sv : Nat → Nat) (C : Nat → Nat)   : Met l_ yX5_no wsX5_no ({ frames := 0, cells := 0, slots := 0, locals := 0 }) (va_Pc [.ref (a 0)] (wH (Am tS sk sv) D k (ho a C))) (va_Qi (fun (r : Int32) (u : Unit) => r = -3) (fun (u : Unit) (t_ : State) => va_P D vwCl ((fun (_ : Unit) => ho a (nset C 1 (C 1 + 1))) u) t_.heap) (wA (ho a C))) 0 0 (wA (ho a C)) := by
  refine my_entry (cc := cX5_no) (maxL := 1) (ret := some .int) (by decide) rfl (Nat.le_of_ble_eq_true rfl) ?_
  intro p_ e_ s_ m_ bl_ me_ c_ hz hr hlk hB ls hl
  obtain ⟨hP, hK, hD0, hy⟩ := hB
  have hD := wA.self hD0
  have hS : va_S (wA (ho a C)) s_.heap s_.heap [] := va_S.rf
  have hl : lv_has ls 1 [(0, .ref (a 0))] := hl
  refine lv_aload_n hz.1 hz.2.1 dX5_no_0 rfl (lv_at hl 0 rfl) ?_
  refine lv_dup hz.1 hz.2.1 dX5_no_1 rfl ?_
  refine rg (T := TX5) (N := 11) hz hinX5_no_X5 hK hP 0 rfl rfl 9 (by decide) (List.mem_of_getElem? (i := 1) rfl) rfl (v := .int (nI (C 1))) rfl dX5_no_2 ?_
  refine lv_iconst (v := nI 1) hz.1 hz.2.1 dX5_no_5 (by decide) ?_
  refine lv_iadd hz.1 hz.2.1 dX5_no_6 ?_
  refine toe (z := nI ((C 1) + 1)) (nI_add _ _) ?_
  refine rput (v := .int (nI ((C 1) + 1))) (ty := .int) (T := TX5) (N := 11) hz hinX5_no_X5 tyX5 tyX5_ok nmX5 hK hP hD hS 0 rfl rfl 9 (by decide) (List.mem_of_getElem? (i := 1) rfl) rfl rfl (by decide +kernel) rfl rfl (Nat.le_of_ble_eq_true rfl) dX5_no_7 (fun H locs hP hS => ?_)
  have hP : va_P D vwCl (ho a (nset C 1 ((C 1) + 1))) H := hP
  have hD : va_D (wA (ho a C)) (ho a (nset C 1 ((C 1) + 1))) := hD.same rfl
  refine lv_bipush (v := (-3)) hz.1 hz.2.1 dX5_no_10 (by decide) ?_
  exact wr_iret hz hr hlk dX5_no_12 hS (()) hP (rfl)

theorem hinX5_full_X5 : ∀ w ∈ wsX50, w ∈ wsX5_full := fun _ h => List.mem_cons_of_mem _ (List.mem_append_right _ h)
set_option maxHeartbeats 4000000 in
set_option maxRecDepth 100000 in
theorem c5_full (l_ : Launch) (D : va_G) (k : Nat → ClassId) (a : Nat → Nat) (tS : Nat) (sk sv : Nat → Nat) (C : Nat → Nat)   : Met l_ yX5_full wsX5_full ({ frames := 0, cells := 0, slots := 0, locals := 0 }) (va_Pc [.ref (a 0)] (wH (Am tS sk sv) D k (ho a C))) (va_Qi (fun (r : Int32) (u : Unit) => r = -4) (fun (u : Unit) (t_ : State) => va_P D vwCl ((fun (_ : Unit) => ho a (nset C 2 (C 2 + 1))) u) t_.heap) (wA (ho a C))) 0 0 (wA (ho a C)) := by
  refine my_entry (cc := cX5_full) (maxL := 1) (ret := some .int) (by decide) rfl (Nat.le_of_ble_eq_true rfl) ?_
  intro p_ e_ s_ m_ bl_ me_ c_ hz hr hlk hB ls hl
  obtain ⟨hP, hK, hD0, hy⟩ := hB
  have hD := wA.self hD0
  have hS : va_S (wA (ho a C)) s_.heap s_.heap [] := va_S.rf
  have hl : lv_has ls 1 [(0, .ref (a 0))] := hl
  refine lv_aload_n hz.1 hz.2.1 dX5_full_0 rfl (lv_at hl 0 rfl) ?_
  refine lv_dup hz.1 hz.2.1 dX5_full_1 rfl ?_
  refine rg (T := TX5) (N := 11) hz hinX5_full_X5 hK hP 0 rfl rfl 10 (by decide) (List.mem_of_getElem? (i := 1) rfl) rfl (v := .int (nI (C 2))) rfl dX5_full_2 ?_
  refine lv_iconst (v := nI 1) hz.1 hz.2.1 dX5_full_5 (by decide) ?_
  refine lv_iadd hz.1 hz.2.1 dX5_full_6 ?_
  refine toe (z := nI ((C 2) + 1)) (nI_add _ _) ?_
  refine rput (v := .int (nI ((C 2) + 1))) (ty := .int) (T := TX5) (N := 11) hz hinX5_full_X5 tyX5 tyX5_ok nmX5 hK hP hD hS 0 rfl rfl 10 (by decide) (List.mem_of_getElem? (i := 1) rfl) rfl rfl (by decide +kernel) rfl rfl (Nat.le_of_ble_eq_true rfl) dX5_full_7 (fun H locs hP hS => ?_)
  have hP : va_P D vwCl (ho a (nset C 2 ((C 2) + 1))) H := hP
  have hD : va_D (wA (ho a C)) (ho a (nset C 2 ((C 2) + 1))) := hD.same rfl
  refine lv_bipush (v := (-4)) hz.1 hz.2.1 dX5_full_10 (by decide) ?_
  exact wr_iret hz hr hlk dX5_full_12 hS (()) hP (rfl)

theorem hinX5_posts_X5 : ∀ w ∈ wsX50, w ∈ wsX5_posts := fun _ h => List.mem_cons_of_mem _ (List.mem_append_left _ (List.mem_append_right _ h))
theorem hinX5_posts_X0 : ∀ w ∈ wsX00, w ∈ wsX5_posts := fun _ h => List.mem_cons_of_mem _ (List.mem_append_right _ h)
set_option maxHeartbeats 4000000 in
set_option maxRecDepth 100000 in
theorem c5_posts_bad (l_ : Launch) (D : va_G) (k : Nat → ClassId) (a : Nat → Nat) (tS : Nat) (sk sv : Nat → Nat) (C : Nat → Nat) (F : Nat → Nat) (E : Nat → Nat → Nat) (M : Nat → Nat) (x : Int32) (hR : Rb M F E) (hf : Wf M) (hb : wIn x 2 9 = false) : Met l_ yX5_posts wsX5_posts ({ frames := 1, cells := 0, slots := 0, locals := 22 }) (va_Pc [.ref (a 0), .int x] (wH (Am tS sk sv) D k (ho a C ++ (bw a 1 k F E)))) (va_Qi (fun (r : Int32) (u : Unit) => r = -2) (fun (u : Unit) (t_ : State) => va_P D vwCl ((fun (_ : Unit) => ho a (nset C 0 (C 0 + 1)) ++ (bw a 1 k F E)) u) t_.heap) (wA (ho a C ++ (bw a 1 k F E)))) 0 0 (wA (ho a C ++ (bw a 1 k F E))) := by
  refine my_entry (cc := cX5_posts) (maxL := 3) (ret := some .int) (by decide) rfl (Nat.le_of_ble_eq_true rfl) ?_
  intro p_ e_ s_ m_ bl_ me_ c_ hz hr hlk hB ls hl
  obtain ⟨hP, hK, hD0, hy⟩ := hB
  have hD := wA.self hD0
  have hS : va_S (wA (ho a C ++ (bw a 1 k F E))) s_.heap s_.heap [] := va_S.rf
  have hl : lv_has ls 3 [(0, .ref (a 0)), (1, .int x)] := hl
  have f0 := hf.n2
  have f1 := hf.n9
  have f2 := hf.fr
  have f3 := hf.gd
  have f4 := hf.pc
  have f5 := hf.wc
  have e0 : F 0 = M 0 := hR.1.1
  have e1 : F 1 = M 1 := hR.1.2.1
  have e2 : F 2 = M 2 := hR.1.2.2.1
  have e3 : F 3 = M 19 := hR.1.2.2.2.1
  have e4 : F 4 = M 32 := hR.1.2.2.2.2
  refine lv_iload_n hz.1 hz.2.1 dX5_posts_0 rfl (lv_at hl 1 rfl) ?_
  refine lv_iconst (v := nI 2) hz.1 hz.2.1 dX5_posts_1 (by decide) ?_
  refine lv_bipush (v := nI 9) hz.1 hz.2.1 dX5_posts_2 (by decide) ?_
  refine rdS (As := [.int x, .int (nI 2), .int (nI 9)]) (rest := []) hz (c5_within l_ x 2 9 ) rfl (va_cwS 3 hz.2.2.2.2 gX5_posts_X5_within rfl rfl rfl (by decide +kernel) ⟨Nat.le_of_ble_eq_true rfl, Nat.le_of_ble_eq_true rfl⟩) rfl hl.1 rfl (Nat.le_of_ble_eq_true rfl) dX5_posts_4 ⟨Nat.zero_le _, Nat.zero_le _⟩ ?_
  refine zne (tgt := 17) hz dX5_posts_7 (by decide) (fun c_7 => ?_) (fun c_7 => ?_)
  · simp [c_7] at hb
  · refine lv_aload_n hz.1 hz.2.1 dX5_posts_10 rfl (lv_at hl 0 rfl) ?_
    refine lv_bipush (v := (-2)) hz.1 hz.2.1 dX5_posts_11 (by decide) ?_
    refine wrV (A := wA (ho a C ++ (bw a 1 k F E))) (As := [.int (-2)]) (rest := []) hz (okAm tS sk sv) (c5_bad l_ D k a tS sk sv C  (-2) ) (cwV 1 hz.2.2.2.2 gX5_posts_X5_bad rfl rfl rfl (by decide +kernel) ⟨Nat.le_of_ble_eq_true rfl, Nat.le_of_ble_eq_true rfl⟩) hK hy (hP.sub (ws' := ho a C) [0] rfl) (hD.sub (ws' := ho a C) [0] (by decide) rfl) hS 0 5 rfl rfl rfl rfl hl.1 rfl (Nat.le_of_ble_eq_true rfl) dX5_posts_13 ⟨Nat.zero_le _, Nat.zero_le _⟩ (fun r u H1 locs hp hP1 hS hfr => ?_)
    obtain rfl : r = -2 := hp
    have hP1 : va_P D vwCl (ho a (nset C 0 (C 0 + 1))) H1 := hP1
    have hP : va_P D vwCl (ho a (nset C 0 (C 0 + 1)) ++ (bw a 1 k F E)) H1 := wJn (w1 := ho a (nset C 0 (C 0 + 1))) (wc := ho a C) hP hD [0] rfl rfl hP1 hfr
    generalize H1 = H at hP hS ⊢
    have hD : va_D (wA (ho a C ++ (bw a 1 k F E))) (ho a (nset C 0 (C 0 + 1)) ++ (bw a 1 k F E)) := hD.same rfl
    exact wr_iret hz hr hlk dX5_posts_16 hS (()) hP (rfl)

set_option maxHeartbeats 4000000 in
set_option maxRecDepth 100000 in
theorem c5_posts_ok (l_ : Launch) (D : va_G) (k : Nat → ClassId) (a : Nat → Nat) (tS : Nat) (sk sv : Nat → Nat) (C : Nat → Nat) (F : Nat → Nat) (E : Nat → Nat → Nat) (M : Nat → Nat) (n : Nat) (hR : Rb M F E) (hf : Wf M) (h1 : 2 ≤ n) (h2 : n ≤ 9) : Met l_ yX5_posts wsX5_posts ({ frames := 2, cells := 0, slots := 0, locals := 45 }) (va_Pc [.ref (a 0), .int (nI n)] (wH (Am tS sk sv) D k (ho a C ++ (bw a 1 k F E)))) (va_Qi (fun (r : Int32) (u : Unit) => r = nI (M 0)) (fun (u : Unit) (t_ : State) => va_P D vwCl ((fun (_ : Unit) => ho a C ++ (bw a 1 k (nset (nset (nset (nset (nset F 0 n) 1 0) 2 0) 3 0) 4 0) (gset (gset E 0 (zfill (E 0) 8)) 1 (zfill (E 1) 8)))) u) t_.heap) (wA (ho a C ++ (bw a 1 k F E)))) 0 0 (wA (ho a C ++ (bw a 1 k F E))) := by
  refine my_entry (cc := cX5_posts) (maxL := 3) (ret := some .int) (by decide) rfl (Nat.le_of_ble_eq_true rfl) ?_
  intro p_ e_ s_ m_ bl_ me_ c_ hz hr hlk hB ls hl
  obtain ⟨hP, hK, hD0, hy⟩ := hB
  have hD := wA.self hD0
  have hS : va_S (wA (ho a C ++ (bw a 1 k F E))) s_.heap s_.heap [] := va_S.rf
  have hl : lv_has ls 3 [(0, .ref (a 0)), (1, .int (nI n))] := hl
  have f0 := hf.n2
  have f1 := hf.n9
  have f2 := hf.fr
  have f3 := hf.gd
  have f4 := hf.pc
  have f5 := hf.wc
  have e0 : F 0 = M 0 := hR.1.1
  have e1 : F 1 = M 1 := hR.1.2.1
  have e2 : F 2 = M 2 := hR.1.2.2.1
  have e3 : F 3 = M 19 := hR.1.2.2.2.1
  have e4 : F 4 = M 32 := hR.1.2.2.2.2
  refine lv_iload_n hz.1 hz.2.1 dX5_posts_0 rfl (lv_at hl 1 rfl) ?_
  refine lv_iconst (v := nI 2) hz.1 hz.2.1 dX5_posts_1 (by decide) ?_
  refine lv_bipush (v := nI 9) hz.1 hz.2.1 dX5_posts_2 (by decide) ?_
  refine rdS (As := [.int (nI n), .int (nI 2), .int (nI 9)]) (rest := []) hz (c5_within l_ (nI n) 2 9 ) rfl (va_cwS 3 hz.2.2.2.2 gX5_posts_X5_within rfl rfl rfl (by decide +kernel) ⟨Nat.le_of_ble_eq_true rfl, Nat.le_of_ble_eq_true rfl⟩) rfl hl.1 rfl (Nat.le_of_ble_eq_true rfl) dX5_posts_4 ⟨Nat.zero_le _, Nat.zero_le _⟩ ?_
  refine zne (tgt := 17) hz dX5_posts_7 (by decide) (fun c_7 => ?_) (fun c_7 => ?_)
  · refine lv_aload_n hz.1 hz.2.1 dX5_posts_17 rfl (lv_at hl 0 rfl) ?_
    refine rg (T := TX5) (N := 11) hz hinX5_posts_X5 hK hP 0 rfl rfl 0 (by decide) (List.mem_of_getElem? (i := 1) rfl) rfl (v := .ref (a 1)) rfl dX5_posts_18 ?_
    refine rg (T := TX0) (N := 12) hz hinX5_posts_X0 hK hP 1 rfl rfl 0 (by decide) (List.mem_of_getElem? (i := 2) rfl) rfl (v := .int (nI (F 0))) rfl dX5_posts_21 ?_
    refine toe (z := nI (M 0)) (by rw [hR.1.1]) ?_
    refine lv_istore_n (lv' := [(2, .int (nI (M 0))), (0, .ref (a 0)), (1, .int (nI n))]) hz.1 hz.2.1 dX5_posts_24 rfl hl (by decide) rfl (fun ls hl => ?_)
    refine lv_aload_n hz.1 hz.2.1 dX5_posts_25 rfl (lv_at hl 1 rfl) ?_
    refine rg (T := TX5) (N := 11) hz hinX5_posts_X5 hK hP 0 rfl rfl 0 (by decide) (List.mem_of_getElem? (i := 1) rfl) rfl (v := .ref (a 1)) rfl dX5_posts_26 ?_
    refine lv_iload_n hz.1 hz.2.1 dX5_posts_29 rfl (lv_at hl 2 rfl) ?_
    refine wrVv (A := wA (ho a C ++ (bw a 1 k F E))) (As := [.int (nI n)]) (rest := []) hz (okAm tS sk sv) (c0_startOver l_ D k a 1 tS sk sv F E  n ) (cwV 1 hz.2.2.2.2 gX5_posts_X0_startOver rfl rfl rfl (by decide +kernel) ⟨Nat.le_of_ble_eq_true rfl, Nat.le_of_ble_eq_true rfl⟩) hK hy (hP.sub (ws' := bw a 1 k F E) [1, 2, 3, 4, 5, 6, 7, 8] rfl) (hD.sub (ws' := bw a 1 k F E) [1, 2, 3, 4, 5, 6, 7, 8] (by decide) rfl) hS 0 0 rfl rfl rfl rfl hl.1 rfl (Nat.le_of_ble_eq_true rfl) dX5_posts_30 ⟨Nat.zero_le _, Nat.zero_le _⟩ (fun u H1 locs hp hP1 hS hfr => ?_)
    have hP1 : va_P D vwCl (bw a 1 k (nset (nset (nset (nset (nset F 0 n) 1 0) 2 0) 3 0) 4 0) (gset (gset E 0 (zfill (E 0) 8)) 1 (zfill (E 1) 8))) H1 := hP1
    have hP : va_P D vwCl (ho a C ++ (bw a 1 k (nset (nset (nset (nset (nset F 0 n) 1 0) 2 0) 3 0) 4 0) (gset (gset E 0 (zfill (E 0) 8)) 1 (zfill (E 1) 8)))) H1 := wJn (w1 := bw a 1 k (nset (nset (nset (nset (nset F 0 n) 1 0) 2 0) 3 0) 4 0) (gset (gset E 0 (zfill (E 0) 8)) 1 (zfill (E 1) 8))) (wc := bw a 1 k F E) hP hD [1, 2, 3, 4, 5, 6, 7, 8] rfl rfl hP1 hfr
    generalize H1 = H at hP hS ⊢
    have hD : va_D (wA (ho a C ++ (bw a 1 k F E))) (ho a C ++ (bw a 1 k (nset (nset (nset (nset (nset F 0 n) 1 0) 2 0) 3 0) 4 0) (gset (gset E 0 (zfill (E 0) 8)) 1 (zfill (E 1) 8)))) := hD.same rfl
    refine lv_iload_n hz.1 hz.2.1 dX5_posts_33 rfl (lv_at hl 0 rfl) ?_
    exact wr_iret hz hr hlk dX5_posts_34 hS (()) hP (rfl)
  · exact absurd ((wIn_ok (by omega) (by omega) (by omega)).symm.trans c_7) (by decide)

theorem hinX5_wire_X5 : ∀ w ∈ wsX50, w ∈ wsX5_wire := fun _ h => List.mem_cons_of_mem _ (List.mem_append_left _ (List.mem_append_right _ h))
theorem hinX5_wire_X0 : ∀ w ∈ wsX00, w ∈ wsX5_wire := fun _ h => List.mem_cons_of_mem _ (List.mem_append_right _ h)
set_option maxHeartbeats 4000000 in
set_option maxRecDepth 100000 in
theorem c5_wire_bad (l_ : Launch) (D : va_G) (k : Nat → ClassId) (a : Nat → Nat) (tS : Nat) (sk sv : Nat → Nat) (C : Nat → Nat) (F : Nat → Nat) (E : Nat → Nat → Nat) (M : Nat → Nat) (x1 x2 x3 : Int32) (hR : Rb M F E) (hf : Wf M) (hb : (wIn x1 0 (M 0 - 1 - 1) && wIn x2 0 4 && wIn x3 0 11) = false) : Met l_ yX5_wire wsX5_wire ({ frames := 2, cells := 0, slots := 0, locals := 42 }) (va_Pc [.ref (a 0), .int x1, .int x2, .int x3] (wH (Am tS sk sv) D k (ho a C ++ (bw a 1 k F E)))) (va_Qi (fun (r : Int32) (u : Unit) => r = -2) (fun (u : Unit) (t_ : State) => va_P D vwCl ((fun (_ : Unit) => ho a (nset C 0 (C 0 + 1)) ++ (bw a 1 k F E)) u) t_.heap) (wA (ho a C ++ (bw a 1 k F E)))) 0 0 (wA (ho a C ++ (bw a 1 k F E))) := by
  refine my_entry (cc := cX5_wire) (maxL := 5) (ret := some .int) (by decide) rfl (Nat.le_of_ble_eq_true rfl) ?_
  intro p_ e_ s_ m_ bl_ me_ c_ hz hr hlk hB ls hl
  obtain ⟨hP, hK, hD0, hy⟩ := hB
  have hD := wA.self hD0
  have hS : va_S (wA (ho a C ++ (bw a 1 k F E))) s_.heap s_.heap [] := va_S.rf
  have hl : lv_has ls 5 [(0, .ref (a 0)), (1, .int x1), (2, .int x2), (3, .int x3)] := hl
  have f0 := hf.n2
  have f1 := hf.n9
  have f2 := hf.fr
  have f3 := hf.gd
  have f4 := hf.pc
  have f5 := hf.wc
  have e0 : F 0 = M 0 := hR.1.1
  have e1 : F 1 = M 1 := hR.1.2.1
  have e2 : F 2 = M 2 := hR.1.2.2.1
  have e3 : F 3 = M 19 := hR.1.2.2.2.1
  have e4 : F 4 = M 32 := hR.1.2.2.2.2
  refine lv_aload_n hz.1 hz.2.1 dX5_wire_0 rfl (lv_at hl 0 rfl) ?_
  refine rg (T := TX5) (N := 11) hz hinX5_wire_X5 hK hP 0 rfl rfl 0 (by decide) (List.mem_of_getElem? (i := 1) rfl) rfl (v := .ref (a 1)) rfl dX5_wire_1 ?_
  refine lv_iload_n hz.1 hz.2.1 dX5_wire_4 rfl (lv_at hl 1 rfl) ?_
  refine rdV (A := wA (ho a C ++ (bw a 1 k F E))) (As := [.int x1]) (rest := []) hz (okAm tS sk sv) (c0_isWire l_ D k a 1 tS sk sv F E M x1 hR hf) (cwV 1 hz.2.2.2.2 gX5_wire_X0_isWire rfl rfl rfl (by decide +kernel) ⟨Nat.le_of_ble_eq_true rfl, Nat.le_of_ble_eq_true rfl⟩) hK hy (hP.sub (ws' := bw a 1 k F E) [1, 2, 3, 4, 5, 6, 7, 8] rfl) (hD.sub (ws' := bw a 1 k F E) [1, 2, 3, 4, 5, 6, 7, 8] (by decide) rfl) hS 0 0 rfl rfl rfl rfl hl.1 rfl (Nat.le_of_ble_eq_true rfl) dX5_wire_5 ⟨Nat.zero_le _, Nat.zero_le _⟩ ?_
  refine zeq (tgt := 28) hz dX5_wire_8 (by decide) (fun c_8 => ?_) (fun c_8 => ?_)
  · refine lv_aload_n hz.1 hz.2.1 dX5_wire_28 rfl (lv_at hl 0 rfl) ?_
    refine lv_bipush (v := (-2)) hz.1 hz.2.1 dX5_wire_29 (by decide) ?_
    refine wrV (A := wA (ho a C ++ (bw a 1 k F E))) (As := [.int (-2)]) (rest := []) hz (okAm tS sk sv) (c5_bad l_ D k a tS sk sv C  (-2) ) (cwV 1 hz.2.2.2.2 gX5_wire_X5_bad rfl rfl rfl (by decide +kernel) ⟨Nat.le_of_ble_eq_true rfl, Nat.le_of_ble_eq_true rfl⟩) hK hy (hP.sub (ws' := ho a C) [0] rfl) (hD.sub (ws' := ho a C) [0] (by decide) rfl) hS 0 5 rfl rfl rfl rfl hl.1 rfl (Nat.le_of_ble_eq_true rfl) dX5_wire_31 ⟨Nat.zero_le _, Nat.zero_le _⟩ (fun r u H1 locs hp hP1 hS hfr => ?_)
    obtain rfl : r = -2 := hp
    have hP1 : va_P D vwCl (ho a (nset C 0 (C 0 + 1))) H1 := hP1
    have hP : va_P D vwCl (ho a (nset C 0 (C 0 + 1)) ++ (bw a 1 k F E)) H1 := wJn (w1 := ho a (nset C 0 (C 0 + 1))) (wc := ho a C) hP hD [0] rfl rfl hP1 hfr
    generalize H1 = H at hP hS ⊢
    have hD : va_D (wA (ho a C ++ (bw a 1 k F E))) (ho a (nset C 0 (C 0 + 1)) ++ (bw a 1 k F E)) := hD.same rfl
    exact wr_iret hz hr hlk dX5_wire_34 hS (()) hP (rfl)
  · refine lv_iload_n hz.1 hz.2.1 dX5_wire_11 rfl (lv_at hl 2 rfl) ?_
    refine lv_iconst (v := nI 5) hz.1 hz.2.1 dX5_wire_12 (by decide) ?_
    refine rdS (As := [.int x2, .int (nI 5)]) (rest := []) hz (c5_inRow l_ x2 5 4 (by omega) (by omega)) rfl (va_cwS 2 hz.2.2.2.2 gX5_wire_X5_inRow rfl rfl rfl (by decide +kernel) ⟨Nat.le_of_ble_eq_true rfl, Nat.le_of_ble_eq_true rfl⟩) rfl hl.1 rfl (Nat.le_of_ble_eq_true rfl) dX5_wire_13 ⟨Nat.zero_le _, Nat.zero_le _⟩ ?_
    refine zeq (tgt := 28) hz dX5_wire_16 (by decide) (fun c_16 => ?_) (fun c_16 => ?_)
    · refine lv_aload_n hz.1 hz.2.1 dX5_wire_28 rfl (lv_at hl 0 rfl) ?_
      refine lv_bipush (v := (-2)) hz.1 hz.2.1 dX5_wire_29 (by decide) ?_
      refine wrV (A := wA (ho a C ++ (bw a 1 k F E))) (As := [.int (-2)]) (rest := []) hz (okAm tS sk sv) (c5_bad l_ D k a tS sk sv C  (-2) ) (cwV 1 hz.2.2.2.2 gX5_wire_X5_bad rfl rfl rfl (by decide +kernel) ⟨Nat.le_of_ble_eq_true rfl, Nat.le_of_ble_eq_true rfl⟩) hK hy (hP.sub (ws' := ho a C) [0] rfl) (hD.sub (ws' := ho a C) [0] (by decide) rfl) hS 0 5 rfl rfl rfl rfl hl.1 rfl (Nat.le_of_ble_eq_true rfl) dX5_wire_31 ⟨Nat.zero_le _, Nat.zero_le _⟩ (fun r u H1 locs hp hP1 hS hfr => ?_)
      obtain rfl : r = -2 := hp
      have hP1 : va_P D vwCl (ho a (nset C 0 (C 0 + 1))) H1 := hP1
      have hP : va_P D vwCl (ho a (nset C 0 (C 0 + 1)) ++ (bw a 1 k F E)) H1 := wJn (w1 := ho a (nset C 0 (C 0 + 1))) (wc := ho a C) hP hD [0] rfl rfl hP1 hfr
      generalize H1 = H at hP hS ⊢
      have hD : va_D (wA (ho a C ++ (bw a 1 k F E))) (ho a (nset C 0 (C 0 + 1)) ++ (bw a 1 k F E)) := hD.same rfl
      exact wr_iret hz hr hlk dX5_wire_34 hS (()) hP (rfl)
    · refine lv_iload_n hz.1 hz.2.1 dX5_wire_19 rfl (lv_at hl 3 rfl) ?_
      refine lv_bipush (v := nI 12) hz.1 hz.2.1 dX5_wire_20 (by decide) ?_
      refine rdS (As := [.int x3, .int (nI 12)]) (rest := []) hz (c5_inRow l_ x3 12 11 (by omega) (by omega)) rfl (va_cwS 2 hz.2.2.2.2 gX5_wire_X5_inRow rfl rfl rfl (by decide +kernel) ⟨Nat.le_of_ble_eq_true rfl, Nat.le_of_ble_eq_true rfl⟩) rfl hl.1 rfl (Nat.le_of_ble_eq_true rfl) dX5_wire_22 ⟨Nat.zero_le _, Nat.zero_le _⟩ ?_
      refine zne (tgt := 35) hz dX5_wire_25 (by decide) (fun c_25 => ?_) (fun c_25 => ?_)
      · simp [c_8, c_16, c_25] at hb
      · refine lv_aload_n hz.1 hz.2.1 dX5_wire_28 rfl (lv_at hl 0 rfl) ?_
        refine lv_bipush (v := (-2)) hz.1 hz.2.1 dX5_wire_29 (by decide) ?_
        refine wrV (A := wA (ho a C ++ (bw a 1 k F E))) (As := [.int (-2)]) (rest := []) hz (okAm tS sk sv) (c5_bad l_ D k a tS sk sv C  (-2) ) (cwV 1 hz.2.2.2.2 gX5_wire_X5_bad rfl rfl rfl (by decide +kernel) ⟨Nat.le_of_ble_eq_true rfl, Nat.le_of_ble_eq_true rfl⟩) hK hy (hP.sub (ws' := ho a C) [0] rfl) (hD.sub (ws' := ho a C) [0] (by decide) rfl) hS 0 5 rfl rfl rfl rfl hl.1 rfl (Nat.le_of_ble_eq_true rfl) dX5_wire_31 ⟨Nat.zero_le _, Nat.zero_le _⟩ (fun r u H1 locs hp hP1 hS hfr => ?_)
        obtain rfl : r = -2 := hp
        have hP1 : va_P D vwCl (ho a (nset C 0 (C 0 + 1))) H1 := hP1
        have hP : va_P D vwCl (ho a (nset C 0 (C 0 + 1)) ++ (bw a 1 k F E)) H1 := wJn (w1 := ho a (nset C 0 (C 0 + 1))) (wc := ho a C) hP hD [0] rfl rfl hP1 hfr
        generalize H1 = H at hP hS ⊢
        have hD : va_D (wA (ho a C ++ (bw a 1 k F E))) (ho a (nset C 0 (C 0 + 1)) ++ (bw a 1 k F E)) := hD.same rfl
        exact wr_iret hz hr hlk dX5_wire_34 hS (()) hP (rfl)

set_option maxHeartbeats 4000000 in
set_option maxRecDepth 100000 in
theorem c5_wire_ok (l_ : Launch) (D : va_G) (k : Nat → ClassId) (a : Nat → Nat) (tS : Nat) (sk sv : Nat → Nat) (C : Nat → Nat) (F : Nat → Nat) (E : Nat → Nat → Nat) (M : Nat → Nat) (w kd t : Nat) (hR : Rb M F E) (hf : Wf M) (h1 : w < M 0 - 1) (h2 : kd ≤ 4) (h3 : t ≤ 11) : Met l_ yX5_wire wsX5_wire ({ frames := 2, cells := 0, slots := 0, locals := 42 }) (va_Pc [.ref (a 0), .int (nI w), .int (nI kd), .int (nI t)] (wH (Am tS sk sv) D k (ho a C ++ (bw a 1 k F E)))) (va_Qi (fun (r : Int32) (u : Unit) => r = nI (12 * M (3 + w) + M (11 + w))) (fun (u : Unit) (t_ : State) => va_P D vwCl ((fun (_ : Unit) => ho a C ++ (bw a 1 k F (gset (gset E 0 (nset (E 0) w kd)) 1 (nset (E 1) w t)))) u) t_.heap) (wA (ho a C ++ (bw a 1 k F E)))) 0 0 (wA (ho a C ++ (bw a 1 k F E))) := by
  refine my_entry (cc := cX5_wire) (maxL := 5) (ret := some .int) (by decide) rfl (Nat.le_of_ble_eq_true rfl) ?_
  intro p_ e_ s_ m_ bl_ me_ c_ hz hr hlk hB ls hl
  obtain ⟨hP, hK, hD0, hy⟩ := hB
  have hD := wA.self hD0
  have hS : va_S (wA (ho a C ++ (bw a 1 k F E))) s_.heap s_.heap [] := va_S.rf
  have hl : lv_has ls 5 [(0, .ref (a 0)), (1, .int (nI w)), (2, .int (nI kd)), (3, .int (nI t))] := hl
  have f0 := hf.n2
  have f1 := hf.n9
  have f2 := hf.fr
  have f3 := hf.gd
  have f4 := hf.pc
  have f5 := hf.wc
  have e0 : F 0 = M 0 := hR.1.1
  have e1 : F 1 = M 1 := hR.1.2.1
  have e2 : F 2 = M 2 := hR.1.2.2.1
  have e3 : F 3 = M 19 := hR.1.2.2.2.1
  have e4 : F 4 = M 32 := hR.1.2.2.2.2
  have k1 := hf.kd (w := w) (by omega)
  have t1 := hf.tn (w := w) (by omega)
  refine lv_aload_n hz.1 hz.2.1 dX5_wire_0 rfl (lv_at hl 0 rfl) ?_
  refine rg (T := TX5) (N := 11) hz hinX5_wire_X5 hK hP 0 rfl rfl 0 (by decide) (List.mem_of_getElem? (i := 1) rfl) rfl (v := .ref (a 1)) rfl dX5_wire_1 ?_
  refine lv_iload_n hz.1 hz.2.1 dX5_wire_4 rfl (lv_at hl 1 rfl) ?_
  refine rdV (A := wA (ho a C ++ (bw a 1 k F E))) (As := [.int (nI w)]) (rest := []) hz (okAm tS sk sv) (c0_isWire l_ D k a 1 tS sk sv F E M (nI w) hR hf) (cwV 1 hz.2.2.2.2 gX5_wire_X0_isWire rfl rfl rfl (by decide +kernel) ⟨Nat.le_of_ble_eq_true rfl, Nat.le_of_ble_eq_true rfl⟩) hK hy (hP.sub (ws' := bw a 1 k F E) [1, 2, 3, 4, 5, 6, 7, 8] rfl) (hD.sub (ws' := bw a 1 k F E) [1, 2, 3, 4, 5, 6, 7, 8] (by decide) rfl) hS 0 0 rfl rfl rfl rfl hl.1 rfl (Nat.le_of_ble_eq_true rfl) dX5_wire_5 ⟨Nat.zero_le _, Nat.zero_le _⟩ ?_
  refine zeq (tgt := 28) hz dX5_wire_8 (by decide) (fun c_8 => ?_) (fun c_8 => ?_)
  · exact absurd ((wIn_ok (by omega) (by omega) (by omega)).symm.trans c_8) (by decide)
  · refine lv_iload_n hz.1 hz.2.1 dX5_wire_11 rfl (lv_at hl 2 rfl) ?_
    refine lv_iconst (v := nI 5) hz.1 hz.2.1 dX5_wire_12 (by decide) ?_
    refine rdS (As := [.int (nI kd), .int (nI 5)]) (rest := []) hz (c5_inRow l_ (nI kd) 5 4 (by omega) (by omega)) rfl (va_cwS 2 hz.2.2.2.2 gX5_wire_X5_inRow rfl rfl rfl (by decide +kernel) ⟨Nat.le_of_ble_eq_true rfl, Nat.le_of_ble_eq_true rfl⟩) rfl hl.1 rfl (Nat.le_of_ble_eq_true rfl) dX5_wire_13 ⟨Nat.zero_le _, Nat.zero_le _⟩ ?_
    refine zeq (tgt := 28) hz dX5_wire_16 (by decide) (fun c_16 => ?_) (fun c_16 => ?_)
    · exact absurd ((wIn_ok (by omega) (by omega) (by omega)).symm.trans c_16) (by decide)
    · refine lv_iload_n hz.1 hz.2.1 dX5_wire_19 rfl (lv_at hl 3 rfl) ?_
      refine lv_bipush (v := nI 12) hz.1 hz.2.1 dX5_wire_20 (by decide) ?_
      refine rdS (As := [.int (nI t), .int (nI 12)]) (rest := []) hz (c5_inRow l_ (nI t) 12 11 (by omega) (by omega)) rfl (va_cwS 2 hz.2.2.2.2 gX5_wire_X5_inRow rfl rfl rfl (by decide +kernel) ⟨Nat.le_of_ble_eq_true rfl, Nat.le_of_ble_eq_true rfl⟩) rfl hl.1 rfl (Nat.le_of_ble_eq_true rfl) dX5_wire_22 ⟨Nat.zero_le _, Nat.zero_le _⟩ ?_
      refine zne (tgt := 35) hz dX5_wire_25 (by decide) (fun c_25 => ?_) (fun c_25 => ?_)
      · refine lv_bipush (v := nI 12) hz.1 hz.2.1 dX5_wire_35 (by decide) ?_
        refine lv_aload_n hz.1 hz.2.1 dX5_wire_37 rfl (lv_at hl 0 rfl) ?_
        refine rg (T := TX5) (N := 11) hz hinX5_wire_X5 hK hP 0 rfl rfl 0 (by decide) (List.mem_of_getElem? (i := 1) rfl) rfl (v := .ref (a 1)) rfl dX5_wire_38 ?_
        refine rg (T := TX0) (N := 12) hz hinX5_wire_X0 hK hP 1 rfl rfl 5 (by decide) (List.mem_of_getElem? (i := 2) rfl) rfl (v := .ref (a 2)) rfl dX5_wire_41 ?_
        refine lv_iload_n hz.1 hz.2.1 dX5_wire_44 rfl (lv_at hl 1 rfl) ?_
        refine rald hz hK hP 2 0 rfl rfl (i := w) (by omega) (by decide) (v := nI (E 0 w)) rfl dX5_wire_45 ?_
        refine toe (z := nI (M (3 + w))) (by rw [(hR.2.1 _ (by omega)).1]) ?_
        refine lv_imul hz.1 hz.2.1 dX5_wire_46 ?_
        refine toe (z := nI (12 * (M (3 + w)))) (pk_mul _ _) ?_
        refine lv_aload_n hz.1 hz.2.1 dX5_wire_47 rfl (lv_at hl 0 rfl) ?_
        refine rg (T := TX5) (N := 11) hz hinX5_wire_X5 hK hP 0 rfl rfl 0 (by decide) (List.mem_of_getElem? (i := 1) rfl) rfl (v := .ref (a 1)) rfl dX5_wire_48 ?_
        refine rg (T := TX0) (N := 12) hz hinX5_wire_X0 hK hP 1 rfl rfl 6 (by decide) (List.mem_of_getElem? (i := 3) rfl) rfl (v := .ref (a 3)) rfl dX5_wire_51 ?_
        refine lv_iload_n hz.1 hz.2.1 dX5_wire_54 rfl (lv_at hl 1 rfl) ?_
        refine rald hz hK hP 3 0 rfl rfl (i := w) (by omega) (by decide) (v := nI (E 1 w)) rfl dX5_wire_55 ?_
        refine toe (z := nI (M (11 + w))) (by rw [(hR.2.1 _ (by omega)).2]) ?_
        refine lv_iadd hz.1 hz.2.1 dX5_wire_56 ?_
        refine toe (z := nI ((12 * (M (3 + w))) + (M (11 + w)))) (nI_add _ _) ?_
        refine lv_istore (lv' := [(4, .int (nI ((12 * (M (3 + w))) + (M (11 + w))))), (0, .ref (a 0)), (1, .int (nI w)), (2, .int (nI kd)), (3, .int (nI t))]) hz.1 hz.2.1 dX5_wire_57 hl (by decide) rfl (fun ls hl => ?_)
        refine lv_aload_n hz.1 hz.2.1 dX5_wire_59 rfl (lv_at hl 1 rfl) ?_
        refine rg (T := TX5) (N := 11) hz hinX5_wire_X5 hK hP 0 rfl rfl 0 (by decide) (List.mem_of_getElem? (i := 1) rfl) rfl (v := .ref (a 1)) rfl dX5_wire_60 ?_
        refine lv_iload_n hz.1 hz.2.1 dX5_wire_63 rfl (lv_at hl 2 rfl) ?_
        refine lv_iload_n hz.1 hz.2.1 dX5_wire_64 rfl (lv_at hl 3 rfl) ?_
        refine lv_iload_n hz.1 hz.2.1 dX5_wire_65 rfl (lv_at hl 4 rfl) ?_
        refine wrVv (A := wA (ho a C ++ (bw a 1 k F E))) (As := [.int (nI w), .int (nI kd), .int (nI t)]) (rest := []) hz (okAm tS sk sv) (c0_stringWire l_ D k a 1 tS sk sv F E  w kd t (by omega)) (cwV 3 hz.2.2.2.2 gX5_wire_X0_stringWire rfl rfl rfl (by decide +kernel) ⟨Nat.le_of_ble_eq_true rfl, Nat.le_of_ble_eq_true rfl⟩) hK hy (hP.sub (ws' := bw a 1 k F E) [1, 2, 3, 4, 5, 6, 7, 8] rfl) (hD.sub (ws' := bw a 1 k F E) [1, 2, 3, 4, 5, 6, 7, 8] (by decide) rfl) hS 0 0 rfl rfl rfl rfl hl.1 rfl (Nat.le_of_ble_eq_true rfl) dX5_wire_66 ⟨Nat.zero_le _, Nat.zero_le _⟩ (fun u H1 locs hp hP1 hS hfr => ?_)
        have hP1 : va_P D vwCl (bw a 1 k F (gset (gset E 0 (nset (E 0) w kd)) 1 (nset (E 1) w t))) H1 := hP1
        have hP : va_P D vwCl (ho a C ++ (bw a 1 k F (gset (gset E 0 (nset (E 0) w kd)) 1 (nset (E 1) w t)))) H1 := wJn (w1 := bw a 1 k F (gset (gset E 0 (nset (E 0) w kd)) 1 (nset (E 1) w t))) (wc := bw a 1 k F E) hP hD [1, 2, 3, 4, 5, 6, 7, 8] rfl rfl hP1 hfr
        generalize H1 = H at hP hS ⊢
        have hD : va_D (wA (ho a C ++ (bw a 1 k F E))) (ho a C ++ (bw a 1 k F (gset (gset E 0 (nset (E 0) w kd)) 1 (nset (E 1) w t)))) := hD.same rfl
        refine lv_iload hz.1 hz.2.1 dX5_wire_69 (lv_at hl 0 rfl) ?_
        exact wr_iret hz hr hlk dX5_wire_71 hS (()) hP (rfl)
      · exact absurd ((wIn_ok (by omega) (by omega) (by omega)).symm.trans c_25) (by decide)

theorem hinX5_frost_X5 : ∀ w ∈ wsX50, w ∈ wsX5_frost := fun _ h => List.mem_cons_of_mem _ (List.mem_append_left _ (List.mem_append_right _ h))
theorem hinX5_frost_X0 : ∀ w ∈ wsX00, w ∈ wsX5_frost := fun _ h => List.mem_cons_of_mem _ (List.mem_append_right _ h)
set_option maxHeartbeats 4000000 in
set_option maxRecDepth 100000 in
theorem c5_frost_bad (l_ : Launch) (D : va_G) (k : Nat → ClassId) (a : Nat → Nat) (tS : Nat) (sk sv : Nat → Nat) (C : Nat → Nat) (F : Nat → Nat) (E : Nat → Nat → Nat) (M : Nat → Nat) (x : Int32) (hR : Rb M F E) (hf : Wf M) (hb : wIn x 0 5 = false) : Met l_ yX5_frost wsX5_frost ({ frames := 1, cells := 0, slots := 0, locals := 22 }) (va_Pc [.ref (a 0), .int x] (wH (Am tS sk sv) D k (ho a C ++ (bw a 1 k F E)))) (va_Qi (fun (r : Int32) (u : Unit) => r = -2) (fun (u : Unit) (t_ : State) => va_P D vwCl ((fun (_ : Unit) => ho a (nset C 0 (C 0 + 1)) ++ (bw a 1 k F E)) u) t_.heap) (wA (ho a C ++ (bw a 1 k F E)))) 0 0 (wA (ho a C ++ (bw a 1 k F E))) := by
  refine my_entry (cc := cX5_frost) (maxL := 3) (ret := some .int) (by decide) rfl (Nat.le_of_ble_eq_true rfl) ?_
  intro p_ e_ s_ m_ bl_ me_ c_ hz hr hlk hB ls hl
  obtain ⟨hP, hK, hD0, hy⟩ := hB
  have hD := wA.self hD0
  have hS : va_S (wA (ho a C ++ (bw a 1 k F E))) s_.heap s_.heap [] := va_S.rf
  have hl : lv_has ls 3 [(0, .ref (a 0)), (1, .int x)] := hl
  have f0 := hf.n2
  have f1 := hf.n9
  have f2 := hf.fr
  have f3 := hf.gd
  have f4 := hf.pc
  have f5 := hf.wc
  have e0 : F 0 = M 0 := hR.1.1
  have e1 : F 1 = M 1 := hR.1.2.1
  have e2 : F 2 = M 2 := hR.1.2.2.1
  have e3 : F 3 = M 19 := hR.1.2.2.2.1
  have e4 : F 4 = M 32 := hR.1.2.2.2.2
  refine lv_iload_n hz.1 hz.2.1 dX5_frost_0 rfl (lv_at hl 1 rfl) ?_
  refine lv_iconst (v := nI 0) hz.1 hz.2.1 dX5_frost_1 (by decide) ?_
  refine lv_iconst (v := nI 5) hz.1 hz.2.1 dX5_frost_2 (by decide) ?_
  refine rdS (As := [.int x, .int (nI 0), .int (nI 5)]) (rest := []) hz (c5_within l_ x 0 5 ) rfl (va_cwS 3 hz.2.2.2.2 gX5_frost_X5_within rfl rfl rfl (by decide +kernel) ⟨Nat.le_of_ble_eq_true rfl, Nat.le_of_ble_eq_true rfl⟩) rfl hl.1 rfl (Nat.le_of_ble_eq_true rfl) dX5_frost_3 ⟨Nat.zero_le _, Nat.zero_le _⟩ ?_
  refine zne (tgt := 16) hz dX5_frost_6 (by decide) (fun c_6 => ?_) (fun c_6 => ?_)
  · simp [c_6] at hb
  · refine lv_aload_n hz.1 hz.2.1 dX5_frost_9 rfl (lv_at hl 0 rfl) ?_
    refine lv_bipush (v := (-2)) hz.1 hz.2.1 dX5_frost_10 (by decide) ?_
    refine wrV (A := wA (ho a C ++ (bw a 1 k F E))) (As := [.int (-2)]) (rest := []) hz (okAm tS sk sv) (c5_bad l_ D k a tS sk sv C  (-2) ) (cwV 1 hz.2.2.2.2 gX5_frost_X5_bad rfl rfl rfl (by decide +kernel) ⟨Nat.le_of_ble_eq_true rfl, Nat.le_of_ble_eq_true rfl⟩) hK hy (hP.sub (ws' := ho a C) [0] rfl) (hD.sub (ws' := ho a C) [0] (by decide) rfl) hS 0 5 rfl rfl rfl rfl hl.1 rfl (Nat.le_of_ble_eq_true rfl) dX5_frost_12 ⟨Nat.zero_le _, Nat.zero_le _⟩ (fun r u H1 locs hp hP1 hS hfr => ?_)
    obtain rfl : r = -2 := hp
    have hP1 : va_P D vwCl (ho a (nset C 0 (C 0 + 1))) H1 := hP1
    have hP : va_P D vwCl (ho a (nset C 0 (C 0 + 1)) ++ (bw a 1 k F E)) H1 := wJn (w1 := ho a (nset C 0 (C 0 + 1))) (wc := ho a C) hP hD [0] rfl rfl hP1 hfr
    generalize H1 = H at hP hS ⊢
    have hD : va_D (wA (ho a C ++ (bw a 1 k F E))) (ho a (nset C 0 (C 0 + 1)) ++ (bw a 1 k F E)) := hD.same rfl
    exact wr_iret hz hr hlk dX5_frost_15 hS (()) hP (rfl)

set_option maxHeartbeats 4000000 in
set_option maxRecDepth 100000 in
theorem c5_frost_ok (l_ : Launch) (D : va_G) (k : Nat → ClassId) (a : Nat → Nat) (tS : Nat) (sk sv : Nat → Nat) (C : Nat → Nat) (F : Nat → Nat) (E : Nat → Nat → Nat) (M : Nat → Nat) (n : Nat) (hR : Rb M F E) (hf : Wf M) (h2 : n ≤ 5) : Met l_ yX5_frost wsX5_frost ({ frames := 1, cells := 0, slots := 0, locals := 22 }) (va_Pc [.ref (a 0), .int (nI n)] (wH (Am tS sk sv) D k (ho a C ++ (bw a 1 k F E)))) (va_Qi (fun (r : Int32) (u : Unit) => r = nI (M 1)) (fun (u : Unit) (t_ : State) => va_P D vwCl ((fun (_ : Unit) => ho a C ++ (bw a 1 k (nset F 1 n) E)) u) t_.heap) (wA (ho a C ++ (bw a 1 k F E)))) 0 0 (wA (ho a C ++ (bw a 1 k F E))) := by
  refine my_entry (cc := cX5_frost) (maxL := 3) (ret := some .int) (by decide) rfl (Nat.le_of_ble_eq_true rfl) ?_
  intro p_ e_ s_ m_ bl_ me_ c_ hz hr hlk hB ls hl
  obtain ⟨hP, hK, hD0, hy⟩ := hB
  have hD := wA.self hD0
  have hS : va_S (wA (ho a C ++ (bw a 1 k F E))) s_.heap s_.heap [] := va_S.rf
  have hl : lv_has ls 3 [(0, .ref (a 0)), (1, .int (nI n))] := hl
  have f0 := hf.n2
  have f1 := hf.n9
  have f2 := hf.fr
  have f3 := hf.gd
  have f4 := hf.pc
  have f5 := hf.wc
  have e0 : F 0 = M 0 := hR.1.1
  have e1 : F 1 = M 1 := hR.1.2.1
  have e2 : F 2 = M 2 := hR.1.2.2.1
  have e3 : F 3 = M 19 := hR.1.2.2.2.1
  have e4 : F 4 = M 32 := hR.1.2.2.2.2
  refine lv_iload_n hz.1 hz.2.1 dX5_frost_0 rfl (lv_at hl 1 rfl) ?_
  refine lv_iconst (v := nI 0) hz.1 hz.2.1 dX5_frost_1 (by decide) ?_
  refine lv_iconst (v := nI 5) hz.1 hz.2.1 dX5_frost_2 (by decide) ?_
  refine rdS (As := [.int (nI n), .int (nI 0), .int (nI 5)]) (rest := []) hz (c5_within l_ (nI n) 0 5 ) rfl (va_cwS 3 hz.2.2.2.2 gX5_frost_X5_within rfl rfl rfl (by decide +kernel) ⟨Nat.le_of_ble_eq_true rfl, Nat.le_of_ble_eq_true rfl⟩) rfl hl.1 rfl (Nat.le_of_ble_eq_true rfl) dX5_frost_3 ⟨Nat.zero_le _, Nat.zero_le _⟩ ?_
  refine zne (tgt := 16) hz dX5_frost_6 (by decide) (fun c_6 => ?_) (fun c_6 => ?_)
  · refine lv_aload_n hz.1 hz.2.1 dX5_frost_16 rfl (lv_at hl 0 rfl) ?_
    refine rg (T := TX5) (N := 11) hz hinX5_frost_X5 hK hP 0 rfl rfl 0 (by decide) (List.mem_of_getElem? (i := 1) rfl) rfl (v := .ref (a 1)) rfl dX5_frost_17 ?_
    refine rg (T := TX0) (N := 12) hz hinX5_frost_X0 hK hP 1 rfl rfl 1 (by decide) (List.mem_of_getElem? (i := 2) rfl) rfl (v := .int (nI (F 1))) rfl dX5_frost_20 ?_
    refine toe (z := nI (M 1)) (by rw [hR.1.2.1]) ?_
    refine lv_istore_n (lv' := [(2, .int (nI (M 1))), (0, .ref (a 0)), (1, .int (nI n))]) hz.1 hz.2.1 dX5_frost_23 rfl hl (by decide) rfl (fun ls hl => ?_)
    refine lv_aload_n hz.1 hz.2.1 dX5_frost_24 rfl (lv_at hl 1 rfl) ?_
    refine rg (T := TX5) (N := 11) hz hinX5_frost_X5 hK hP 0 rfl rfl 0 (by decide) (List.mem_of_getElem? (i := 1) rfl) rfl (v := .ref (a 1)) rfl dX5_frost_25 ?_
    refine lv_iload_n hz.1 hz.2.1 dX5_frost_28 rfl (lv_at hl 2 rfl) ?_
    refine rput (v := .int (nI n)) (ty := .int) (T := TX0) (N := 12) hz hinX5_frost_X0 tyX0 tyX0_ok nmX0 hK hP hD hS 1 rfl rfl 1 (by decide) (List.mem_of_getElem? (i := 2) rfl) rfl rfl (by decide +kernel) rfl rfl (Nat.le_of_ble_eq_true rfl) dX5_frost_29 (fun H locs hP hS => ?_)
    have hP : va_P D vwCl (ho a C ++ (bw a 1 k (nset F 1 n) E)) H := hP
    have hD : va_D (wA (ho a C ++ (bw a 1 k F E))) (ho a C ++ (bw a 1 k (nset F 1 n) E)) := hD.same rfl
    refine lv_iload_n hz.1 hz.2.1 dX5_frost_32 rfl (lv_at hl 0 rfl) ?_
    exact wr_iret hz hr hlk dX5_frost_33 hS (()) hP (rfl)
  · exact absurd ((wIn_ok (by omega) (by omega) (by omega)).symm.trans c_6) (by decide)

theorem hinX5_guard_X5 : ∀ w ∈ wsX50, w ∈ wsX5_guard := fun _ h => List.mem_cons_of_mem _ (List.mem_append_left _ (List.mem_append_right _ h))
theorem hinX5_guard_X0 : ∀ w ∈ wsX00, w ∈ wsX5_guard := fun _ h => List.mem_cons_of_mem _ (List.mem_append_right _ h)
set_option maxHeartbeats 4000000 in
set_option maxRecDepth 100000 in
theorem c5_guard_bad (l_ : Launch) (D : va_G) (k : Nat → ClassId) (a : Nat → Nat) (tS : Nat) (sk sv : Nat → Nat) (C : Nat → Nat) (F : Nat → Nat) (E : Nat → Nat → Nat) (M : Nat → Nat) (x : Int32) (t : Bool) (hR : Rb M F E) (hf : Wf M) (hb : wIn x 0 (M 0 - 1) = false) : Met l_ yX5_guard wsX5_guard ({ frames := 2, cells := 0, slots := 0, locals := 42 }) (va_Pc [.ref (a 0), .int x, .int (bI t)] (wH (Am tS sk sv) D k (ho a C ++ (bw a 1 k F E)))) (va_Qi (fun (r : Int32) (u : Unit) => r = -2) (fun (u : Unit) (t_ : State) => va_P D vwCl ((fun (_ : Unit) => ho a (nset C 0 (C 0 + 1)) ++ (bw a 1 k F E)) u) t_.heap) (wA (ho a C ++ (bw a 1 k F E)))) 0 0 (wA (ho a C ++ (bw a 1 k F E))) := by
  refine my_entry (cc := cX5_guard) (maxL := 3) (ret := some .int) (by decide) rfl (Nat.le_of_ble_eq_true rfl) ?_
  intro p_ e_ s_ m_ bl_ me_ c_ hz hr hlk hB ls hl
  obtain ⟨hP, hK, hD0, hy⟩ := hB
  have hD := wA.self hD0
  have hS : va_S (wA (ho a C ++ (bw a 1 k F E))) s_.heap s_.heap [] := va_S.rf
  have hl : lv_has ls 3 [(0, .ref (a 0)), (1, .int x), (2, .int (bI t))] := hl
  have f0 := hf.n2
  have f1 := hf.n9
  have f2 := hf.fr
  have f3 := hf.gd
  have f4 := hf.pc
  have f5 := hf.wc
  have e0 : F 0 = M 0 := hR.1.1
  have e1 : F 1 = M 1 := hR.1.2.1
  have e2 : F 2 = M 2 := hR.1.2.2.1
  have e3 : F 3 = M 19 := hR.1.2.2.2.1
  have e4 : F 4 = M 32 := hR.1.2.2.2.2
  refine lv_aload_n hz.1 hz.2.1 dX5_guard_0 rfl (lv_at hl 0 rfl) ?_
  refine rg (T := TX5) (N := 11) hz hinX5_guard_X5 hK hP 0 rfl rfl 0 (by decide) (List.mem_of_getElem? (i := 1) rfl) rfl (v := .ref (a 1)) rfl dX5_guard_1 ?_
  refine lv_iload_n hz.1 hz.2.1 dX5_guard_4 rfl (lv_at hl 1 rfl) ?_
  refine rdV (A := wA (ho a C ++ (bw a 1 k F E))) (As := [.int x]) (rest := []) hz (okAm tS sk sv) (c0_isPost l_ D k a 1 tS sk sv F E M x hR hf) (cwV 1 hz.2.2.2.2 gX5_guard_X0_isPost rfl rfl rfl (by decide +kernel) ⟨Nat.le_of_ble_eq_true rfl, Nat.le_of_ble_eq_true rfl⟩) hK hy (hP.sub (ws' := bw a 1 k F E) [1, 2, 3, 4, 5, 6, 7, 8] rfl) (hD.sub (ws' := bw a 1 k F E) [1, 2, 3, 4, 5, 6, 7, 8] (by decide) rfl) hS 0 0 rfl rfl rfl rfl hl.1 rfl (Nat.le_of_ble_eq_true rfl) dX5_guard_5 ⟨Nat.zero_le _, Nat.zero_le _⟩ ?_
  refine zne (tgt := 18) hz dX5_guard_8 (by decide) (fun c_8 => ?_) (fun c_8 => ?_)
  · simp [c_8] at hb
  · refine lv_aload_n hz.1 hz.2.1 dX5_guard_11 rfl (lv_at hl 0 rfl) ?_
    refine lv_bipush (v := (-2)) hz.1 hz.2.1 dX5_guard_12 (by decide) ?_
    refine wrV (A := wA (ho a C ++ (bw a 1 k F E))) (As := [.int (-2)]) (rest := []) hz (okAm tS sk sv) (c5_bad l_ D k a tS sk sv C  (-2) ) (cwV 1 hz.2.2.2.2 gX5_guard_X5_bad rfl rfl rfl (by decide +kernel) ⟨Nat.le_of_ble_eq_true rfl, Nat.le_of_ble_eq_true rfl⟩) hK hy (hP.sub (ws' := ho a C) [0] rfl) (hD.sub (ws' := ho a C) [0] (by decide) rfl) hS 0 5 rfl rfl rfl rfl hl.1 rfl (Nat.le_of_ble_eq_true rfl) dX5_guard_14 ⟨Nat.zero_le _, Nat.zero_le _⟩ (fun r u H1 locs hp hP1 hS hfr => ?_)
    obtain rfl : r = -2 := hp
    have hP1 : va_P D vwCl (ho a (nset C 0 (C 0 + 1))) H1 := hP1
    have hP : va_P D vwCl (ho a (nset C 0 (C 0 + 1)) ++ (bw a 1 k F E)) H1 := wJn (w1 := ho a (nset C 0 (C 0 + 1))) (wc := ho a C) hP hD [0] rfl rfl hP1 hfr
    generalize H1 = H at hP hS ⊢
    have hD : va_D (wA (ho a C ++ (bw a 1 k F E))) (ho a (nset C 0 (C 0 + 1)) ++ (bw a 1 k F E)) := hD.same rfl
    exact wr_iret hz hr hlk dX5_guard_17 hS (()) hP (rfl)

set_option maxHeartbeats 4000000 in
set_option maxRecDepth 100000 in
theorem c5_guard_ok (l_ : Launch) (D : va_G) (k : Nat → ClassId) (a : Nat → Nat) (tS : Nat) (sk sv : Nat → Nat) (C : Nat → Nat) (F : Nat → Nat) (E : Nat → Nat → Nat) (M : Nat → Nat) (p : Nat) (t : Bool) (hR : Rb M F E) (hf : Wf M) (hp : p < M 0) (hb : ¬ (M 2).testBit p = t) : Met l_ yX5_guard wsX5_guard ({ frames := 2, cells := 0, slots := 0, locals := 42 }) (va_Pc [.ref (a 0), .int (nI p), .int (bI t)] (wH (Am tS sk sv) D k (ho a C ++ (bw a 1 k F E)))) (va_Qi (fun (r : Int32) (u : Unit) => r = nI 1) (fun (u : Unit) (t_ : State) => va_P D vwCl ((fun (_ : Unit) => ho a C ++ (bw a 1 k (nset F 2 (M 2 ^^^ 2 ^ p)) E)) u) t_.heap) (wA (ho a C ++ (bw a 1 k F E)))) 0 0 (wA (ho a C ++ (bw a 1 k F E))) := by
  refine my_entry (cc := cX5_guard) (maxL := 3) (ret := some .int) (by decide) rfl (Nat.le_of_ble_eq_true rfl) ?_
  intro p_ e_ s_ m_ bl_ me_ c_ hz hr hlk hB ls hl
  obtain ⟨hP, hK, hD0, hy⟩ := hB
  have hD := wA.self hD0
  have hS : va_S (wA (ho a C ++ (bw a 1 k F E))) s_.heap s_.heap [] := va_S.rf
  have hl : lv_has ls 3 [(0, .ref (a 0)), (1, .int (nI p)), (2, .int (bI t))] := hl
  have f0 := hf.n2
  have f1 := hf.n9
  have f2 := hf.fr
  have f3 := hf.gd
  have f4 := hf.pc
  have f5 := hf.wc
  have e0 : F 0 = M 0 := hR.1.1
  have e1 : F 1 = M 1 := hR.1.2.1
  have e2 : F 2 = M 2 := hR.1.2.2.1
  have e3 : F 3 = M 19 := hR.1.2.2.2.1
  have e4 : F 4 = M 32 := hR.1.2.2.2.2
  refine lv_aload_n hz.1 hz.2.1 dX5_guard_0 rfl (lv_at hl 0 rfl) ?_
  refine rg (T := TX5) (N := 11) hz hinX5_guard_X5 hK hP 0 rfl rfl 0 (by decide) (List.mem_of_getElem? (i := 1) rfl) rfl (v := .ref (a 1)) rfl dX5_guard_1 ?_
  refine lv_iload_n hz.1 hz.2.1 dX5_guard_4 rfl (lv_at hl 1 rfl) ?_
  refine rdV (A := wA (ho a C ++ (bw a 1 k F E))) (As := [.int (nI p)]) (rest := []) hz (okAm tS sk sv) (c0_isPost l_ D k a 1 tS sk sv F E M (nI p) hR hf) (cwV 1 hz.2.2.2.2 gX5_guard_X0_isPost rfl rfl rfl (by decide +kernel) ⟨Nat.le_of_ble_eq_true rfl, Nat.le_of_ble_eq_true rfl⟩) hK hy (hP.sub (ws' := bw a 1 k F E) [1, 2, 3, 4, 5, 6, 7, 8] rfl) (hD.sub (ws' := bw a 1 k F E) [1, 2, 3, 4, 5, 6, 7, 8] (by decide) rfl) hS 0 0 rfl rfl rfl rfl hl.1 rfl (Nat.le_of_ble_eq_true rfl) dX5_guard_5 ⟨Nat.zero_le _, Nat.zero_le _⟩ ?_
  refine zne (tgt := 18) hz dX5_guard_8 (by decide) (fun c_8 => ?_) (fun c_8 => ?_)
  · refine lv_aload_n hz.1 hz.2.1 dX5_guard_18 rfl (lv_at hl 0 rfl) ?_
    refine rg (T := TX5) (N := 11) hz hinX5_guard_X5 hK hP 0 rfl rfl 0 (by decide) (List.mem_of_getElem? (i := 1) rfl) rfl (v := .ref (a 1)) rfl dX5_guard_19 ?_
    refine lv_iload_n hz.1 hz.2.1 dX5_guard_22 rfl (lv_at hl 1 rfl) ?_
    refine rdV (A := wA (ho a C ++ (bw a 1 k F E))) (As := [.int (nI p)]) (rest := []) hz (okAm tS sk sv) (c0_hasGuard l_ D k a 1 tS sk sv F E M p hR hf (by omega)) (cwV 1 hz.2.2.2.2 gX5_guard_X0_hasGuard rfl rfl rfl (by decide +kernel) ⟨Nat.le_of_ble_eq_true rfl, Nat.le_of_ble_eq_true rfl⟩) hK hy (hP.sub (ws' := bw a 1 k F E) [1, 2, 3, 4, 5, 6, 7, 8] rfl) (hD.sub (ws' := bw a 1 k F E) [1, 2, 3, 4, 5, 6, 7, 8] (by decide) rfl) hS 0 0 rfl rfl rfl rfl hl.1 rfl (Nat.le_of_ble_eq_true rfl) dX5_guard_23 ⟨Nat.zero_le _, Nat.zero_le _⟩ ?_
    refine lv_iload_n hz.1 hz.2.1 dX5_guard_26 rfl (lv_at hl 2 rfl) ?_
    refine lv_icmp_ne (tgt := 35) hz.1 hz.2.1 dX5_guard_27 (by decide) (fun c_27 => ?_) (fun c_27 => ?_)
    · refine lv_aload_n hz.1 hz.2.1 dX5_guard_35 rfl (lv_at hl 0 rfl) ?_
      refine rg (T := TX5) (N := 11) hz hinX5_guard_X5 hK hP 0 rfl rfl 0 (by decide) (List.mem_of_getElem? (i := 1) rfl) rfl (v := .ref (a 1)) rfl dX5_guard_36 ?_
      refine lv_dup hz.1 hz.2.1 dX5_guard_39 rfl ?_
      refine rg (T := TX0) (N := 12) hz hinX5_guard_X0 hK hP 1 rfl rfl 2 (by decide) (List.mem_of_getElem? (i := 2) rfl) rfl (v := .int (nI (F 2))) rfl dX5_guard_40 ?_
      refine toe (z := nI (M 2)) (by rw [hR.1.2.2.1]) ?_
      refine lv_iconst (v := nI 1) hz.1 hz.2.1 dX5_guard_43 (by decide) ?_
      refine lv_iload_n hz.1 hz.2.1 dX5_guard_44 rfl (lv_at hl 1 rfl) ?_
      refine lv_ishl hz.1 hz.2.1 dX5_guard_45 ?_
      refine toe (z := nI (2 ^ p)) (nI_shl1 (by omega)) ?_
      refine lv_ixor hz.1 hz.2.1 dX5_guard_46 ?_
      refine toe (z := nI ((M 2) ^^^ (2 ^ p))) (fb_xorI _ _) ?_
      refine rput (v := .int (nI ((M 2) ^^^ (2 ^ p)))) (ty := .int) (T := TX0) (N := 12) hz hinX5_guard_X0 tyX0 tyX0_ok nmX0 hK hP hD hS 1 rfl rfl 2 (by decide) (List.mem_of_getElem? (i := 2) rfl) rfl rfl (by decide +kernel) rfl rfl (Nat.le_of_ble_eq_true rfl) dX5_guard_47 (fun H locs hP hS => ?_)
      have hP : va_P D vwCl (ho a C ++ (bw a 1 k (nset F 2 ((M 2) ^^^ (2 ^ p))) E)) H := hP
      have hD : va_D (wA (ho a C ++ (bw a 1 k F E))) (ho a C ++ (bw a 1 k (nset F 2 ((M 2) ^^^ (2 ^ p))) E)) := hD.same rfl
      refine lv_iconst (v := nI 1) hz.1 hz.2.1 dX5_guard_50 (by decide) ?_
      exact wr_iret hz hr hlk dX5_guard_51 hS (()) hP (rfl)
    · exact absurd (bI_inj c_27) hb
  · exact absurd ((wIn_ok (by omega) (by omega) (by omega)).symm.trans c_8) (by decide)

set_option maxHeartbeats 4000000 in
set_option maxRecDepth 100000 in
theorem c5_guard_no (l_ : Launch) (D : va_G) (k : Nat → ClassId) (a : Nat → Nat) (tS : Nat) (sk sv : Nat → Nat) (C : Nat → Nat) (F : Nat → Nat) (E : Nat → Nat → Nat) (M : Nat → Nat) (p : Nat) (t : Bool) (hR : Rb M F E) (hf : Wf M) (hp : p < M 0) (hb : (M 2).testBit p = t) : Met l_ yX5_guard wsX5_guard ({ frames := 2, cells := 0, slots := 0, locals := 42 }) (va_Pc [.ref (a 0), .int (nI p), .int (bI t)] (wH (Am tS sk sv) D k (ho a C ++ (bw a 1 k F E)))) (va_Qi (fun (r : Int32) (u : Unit) => r = -3) (fun (u : Unit) (t_ : State) => va_P D vwCl ((fun (_ : Unit) => ho a (nset C 1 (C 1 + 1)) ++ (bw a 1 k F E)) u) t_.heap) (wA (ho a C ++ (bw a 1 k F E)))) 0 0 (wA (ho a C ++ (bw a 1 k F E))) := by
  refine my_entry (cc := cX5_guard) (maxL := 3) (ret := some .int) (by decide) rfl (Nat.le_of_ble_eq_true rfl) ?_
  intro p_ e_ s_ m_ bl_ me_ c_ hz hr hlk hB ls hl
  obtain ⟨hP, hK, hD0, hy⟩ := hB
  have hD := wA.self hD0
  have hS : va_S (wA (ho a C ++ (bw a 1 k F E))) s_.heap s_.heap [] := va_S.rf
  have hl : lv_has ls 3 [(0, .ref (a 0)), (1, .int (nI p)), (2, .int (bI t))] := hl
  have f0 := hf.n2
  have f1 := hf.n9
  have f2 := hf.fr
  have f3 := hf.gd
  have f4 := hf.pc
  have f5 := hf.wc
  have e0 : F 0 = M 0 := hR.1.1
  have e1 : F 1 = M 1 := hR.1.2.1
  have e2 : F 2 = M 2 := hR.1.2.2.1
  have e3 : F 3 = M 19 := hR.1.2.2.2.1
  have e4 : F 4 = M 32 := hR.1.2.2.2.2
  refine lv_aload_n hz.1 hz.2.1 dX5_guard_0 rfl (lv_at hl 0 rfl) ?_
  refine rg (T := TX5) (N := 11) hz hinX5_guard_X5 hK hP 0 rfl rfl 0 (by decide) (List.mem_of_getElem? (i := 1) rfl) rfl (v := .ref (a 1)) rfl dX5_guard_1 ?_
  refine lv_iload_n hz.1 hz.2.1 dX5_guard_4 rfl (lv_at hl 1 rfl) ?_
  refine rdV (A := wA (ho a C ++ (bw a 1 k F E))) (As := [.int (nI p)]) (rest := []) hz (okAm tS sk sv) (c0_isPost l_ D k a 1 tS sk sv F E M (nI p) hR hf) (cwV 1 hz.2.2.2.2 gX5_guard_X0_isPost rfl rfl rfl (by decide +kernel) ⟨Nat.le_of_ble_eq_true rfl, Nat.le_of_ble_eq_true rfl⟩) hK hy (hP.sub (ws' := bw a 1 k F E) [1, 2, 3, 4, 5, 6, 7, 8] rfl) (hD.sub (ws' := bw a 1 k F E) [1, 2, 3, 4, 5, 6, 7, 8] (by decide) rfl) hS 0 0 rfl rfl rfl rfl hl.1 rfl (Nat.le_of_ble_eq_true rfl) dX5_guard_5 ⟨Nat.zero_le _, Nat.zero_le _⟩ ?_
  refine zne (tgt := 18) hz dX5_guard_8 (by decide) (fun c_8 => ?_) (fun c_8 => ?_)
  · refine lv_aload_n hz.1 hz.2.1 dX5_guard_18 rfl (lv_at hl 0 rfl) ?_
    refine rg (T := TX5) (N := 11) hz hinX5_guard_X5 hK hP 0 rfl rfl 0 (by decide) (List.mem_of_getElem? (i := 1) rfl) rfl (v := .ref (a 1)) rfl dX5_guard_19 ?_
    refine lv_iload_n hz.1 hz.2.1 dX5_guard_22 rfl (lv_at hl 1 rfl) ?_
    refine rdV (A := wA (ho a C ++ (bw a 1 k F E))) (As := [.int (nI p)]) (rest := []) hz (okAm tS sk sv) (c0_hasGuard l_ D k a 1 tS sk sv F E M p hR hf (by omega)) (cwV 1 hz.2.2.2.2 gX5_guard_X0_hasGuard rfl rfl rfl (by decide +kernel) ⟨Nat.le_of_ble_eq_true rfl, Nat.le_of_ble_eq_true rfl⟩) hK hy (hP.sub (ws' := bw a 1 k F E) [1, 2, 3, 4, 5, 6, 7, 8] rfl) (hD.sub (ws' := bw a 1 k F E) [1, 2, 3, 4, 5, 6, 7, 8] (by decide) rfl) hS 0 0 rfl rfl rfl rfl hl.1 rfl (Nat.le_of_ble_eq_true rfl) dX5_guard_23 ⟨Nat.zero_le _, Nat.zero_le _⟩ ?_
    refine lv_iload_n hz.1 hz.2.1 dX5_guard_26 rfl (lv_at hl 2 rfl) ?_
    refine lv_icmp_ne (tgt := 35) hz.1 hz.2.1 dX5_guard_27 (by decide) (fun c_27 => ?_) (fun c_27 => ?_)
    · exact absurd (by rw [hb]) c_27
    · refine lv_aload_n hz.1 hz.2.1 dX5_guard_30 rfl (lv_at hl 0 rfl) ?_
      refine wrV (A := wA (ho a C ++ (bw a 1 k F E))) (As := []) (rest := []) hz (okAm tS sk sv) (c5_no l_ D k a tS sk sv C   ) (cwV 0 hz.2.2.2.2 gX5_guard_X5_no rfl rfl rfl (by decide +kernel) ⟨Nat.le_of_ble_eq_true rfl, Nat.le_of_ble_eq_true rfl⟩) hK hy (hP.sub (ws' := ho a C) [0] rfl) (hD.sub (ws' := ho a C) [0] (by decide) rfl) hS 0 5 rfl rfl rfl rfl hl.1 rfl (Nat.le_of_ble_eq_true rfl) dX5_guard_31 ⟨Nat.zero_le _, Nat.zero_le _⟩ (fun r u H1 locs hp hP1 hS hfr => ?_)
      obtain rfl : r = -3 := hp
      have hP1 : va_P D vwCl (ho a (nset C 1 (C 1 + 1))) H1 := hP1
      have hP : va_P D vwCl (ho a (nset C 1 (C 1 + 1)) ++ (bw a 1 k F E)) H1 := wJn (w1 := ho a (nset C 1 (C 1 + 1))) (wc := ho a C) hP hD [0] rfl rfl hP1 hfr
      generalize H1 = H at hP hS ⊢
      have hD : va_D (wA (ho a C ++ (bw a 1 k F E))) (ho a (nset C 1 (C 1 + 1)) ++ (bw a 1 k F E)) := hD.same rfl
      exact wr_iret hz hr hlk dX5_guard_34 hS (()) hP (rfl)
  · exact absurd ((wIn_ok (by omega) (by omega) (by omega)).symm.trans c_8) (by decide)

theorem hinX5_wind_X5 : ∀ w ∈ wsX50, w ∈ wsX5_wind := fun _ h => List.mem_cons_of_mem _ (List.mem_append_left _ (List.mem_append_right _ h))
theorem hinX5_wind_X0 : ∀ w ∈ wsX00, w ∈ wsX5_wind := fun _ h => List.mem_cons_of_mem _ (List.mem_append_right _ h)
set_option maxHeartbeats 4000000 in
set_option maxRecDepth 100000 in
theorem c5_wind_bad (l_ : Launch) (D : va_G) (k : Nat → ClassId) (a : Nat → Nat) (tS : Nat) (sk sv : Nat → Nat) (C : Nat → Nat) (F : Nat → Nat) (E : Nat → Nat → Nat) (M : Nat → Nat) (x1 x2 : Int32) (hR : Rb M F E) (hf : Wf M) (hb : (wIn x1 0 59 && wIn x2 0 (M 0 - 1 - 1)) = false) : Met l_ yX5_wind wsX5_wind ({ frames := 2, cells := 0, slots := 0, locals := 42 }) (va_Pc [.ref (a 0), .int x1, .int x2] (wH (Am tS sk sv) D k (ho a C ++ (bw a 1 k F E)))) (va_Qi (fun (r : Int32) (u : Unit) => r = -2) (fun (u : Unit) (t_ : State) => va_P D vwCl ((fun (_ : Unit) => ho a (nset C 0 (C 0 + 1)) ++ (bw a 1 k F E)) u) t_.heap) (wA (ho a C ++ (bw a 1 k F E)))) 0 0 (wA (ho a C ++ (bw a 1 k F E))) := by
  refine my_entry (cc := cX5_wind) (maxL := 3) (ret := some .int) (by decide) rfl (Nat.le_of_ble_eq_true rfl) ?_
  intro p_ e_ s_ m_ bl_ me_ c_ hz hr hlk hB ls hl
  obtain ⟨hP, hK, hD0, hy⟩ := hB
  have hD := wA.self hD0
  have hS : va_S (wA (ho a C ++ (bw a 1 k F E))) s_.heap s_.heap [] := va_S.rf
  have hl : lv_has ls 3 [(0, .ref (a 0)), (1, .int x1), (2, .int x2)] := hl
  have f0 := hf.n2
  have f1 := hf.n9
  have f2 := hf.fr
  have f3 := hf.gd
  have f4 := hf.pc
  have f5 := hf.wc
  have e0 : F 0 = M 0 := hR.1.1
  have e1 : F 1 = M 1 := hR.1.2.1
  have e2 : F 2 = M 2 := hR.1.2.2.1
  have e3 : F 3 = M 19 := hR.1.2.2.2.1
  have e4 : F 4 = M 32 := hR.1.2.2.2.2
  refine lv_iload_n hz.1 hz.2.1 dX5_wind_0 rfl (lv_at hl 1 rfl) ?_
  refine lv_bipush (v := nI 60) hz.1 hz.2.1 dX5_wind_1 (by decide) ?_
  refine rdS (As := [.int x1, .int (nI 60)]) (rest := []) hz (c5_inRow l_ x1 60 59 (by omega) (by omega)) rfl (va_cwS 2 hz.2.2.2.2 gX5_wind_X5_inRow rfl rfl rfl (by decide +kernel) ⟨Nat.le_of_ble_eq_true rfl, Nat.le_of_ble_eq_true rfl⟩) rfl hl.1 rfl (Nat.le_of_ble_eq_true rfl) dX5_wind_3 ⟨Nat.zero_le _, Nat.zero_le _⟩ ?_
  refine zeq (tgt := 20) hz dX5_wind_6 (by decide) (fun c_6 => ?_) (fun c_6 => ?_)
  · refine lv_aload_n hz.1 hz.2.1 dX5_wind_20 rfl (lv_at hl 0 rfl) ?_
    refine lv_bipush (v := (-2)) hz.1 hz.2.1 dX5_wind_21 (by decide) ?_
    refine wrV (A := wA (ho a C ++ (bw a 1 k F E))) (As := [.int (-2)]) (rest := []) hz (okAm tS sk sv) (c5_bad l_ D k a tS sk sv C  (-2) ) (cwV 1 hz.2.2.2.2 gX5_wind_X5_bad rfl rfl rfl (by decide +kernel) ⟨Nat.le_of_ble_eq_true rfl, Nat.le_of_ble_eq_true rfl⟩) hK hy (hP.sub (ws' := ho a C) [0] rfl) (hD.sub (ws' := ho a C) [0] (by decide) rfl) hS 0 5 rfl rfl rfl rfl hl.1 rfl (Nat.le_of_ble_eq_true rfl) dX5_wind_23 ⟨Nat.zero_le _, Nat.zero_le _⟩ (fun r u H1 locs hp hP1 hS hfr => ?_)
    obtain rfl : r = -2 := hp
    have hP1 : va_P D vwCl (ho a (nset C 0 (C 0 + 1))) H1 := hP1
    have hP : va_P D vwCl (ho a (nset C 0 (C 0 + 1)) ++ (bw a 1 k F E)) H1 := wJn (w1 := ho a (nset C 0 (C 0 + 1))) (wc := ho a C) hP hD [0] rfl rfl hP1 hfr
    generalize H1 = H at hP hS ⊢
    have hD : va_D (wA (ho a C ++ (bw a 1 k F E))) (ho a (nset C 0 (C 0 + 1)) ++ (bw a 1 k F E)) := hD.same rfl
    exact wr_iret hz hr hlk dX5_wind_26 hS (()) hP (rfl)
  · refine lv_aload_n hz.1 hz.2.1 dX5_wind_9 rfl (lv_at hl 0 rfl) ?_
    refine rg (T := TX5) (N := 11) hz hinX5_wind_X5 hK hP 0 rfl rfl 0 (by decide) (List.mem_of_getElem? (i := 1) rfl) rfl (v := .ref (a 1)) rfl dX5_wind_10 ?_
    refine lv_iload_n hz.1 hz.2.1 dX5_wind_13 rfl (lv_at hl 2 rfl) ?_
    refine rdV (A := wA (ho a C ++ (bw a 1 k F E))) (As := [.int x2]) (rest := []) hz (okAm tS sk sv) (c0_isWire l_ D k a 1 tS sk sv F E M x2 hR hf) (cwV 1 hz.2.2.2.2 gX5_wind_X0_isWire rfl rfl rfl (by decide +kernel) ⟨Nat.le_of_ble_eq_true rfl, Nat.le_of_ble_eq_true rfl⟩) hK hy (hP.sub (ws' := bw a 1 k F E) [1, 2, 3, 4, 5, 6, 7, 8] rfl) (hD.sub (ws' := bw a 1 k F E) [1, 2, 3, 4, 5, 6, 7, 8] (by decide) rfl) hS 0 0 rfl rfl rfl rfl hl.1 rfl (Nat.le_of_ble_eq_true rfl) dX5_wind_14 ⟨Nat.zero_le _, Nat.zero_le _⟩ ?_
    refine zne (tgt := 27) hz dX5_wind_17 (by decide) (fun c_17 => ?_) (fun c_17 => ?_)
    · simp [c_6, c_17] at hb
    · refine lv_aload_n hz.1 hz.2.1 dX5_wind_20 rfl (lv_at hl 0 rfl) ?_
      refine lv_bipush (v := (-2)) hz.1 hz.2.1 dX5_wind_21 (by decide) ?_
      refine wrV (A := wA (ho a C ++ (bw a 1 k F E))) (As := [.int (-2)]) (rest := []) hz (okAm tS sk sv) (c5_bad l_ D k a tS sk sv C  (-2) ) (cwV 1 hz.2.2.2.2 gX5_wind_X5_bad rfl rfl rfl (by decide +kernel) ⟨Nat.le_of_ble_eq_true rfl, Nat.le_of_ble_eq_true rfl⟩) hK hy (hP.sub (ws' := ho a C) [0] rfl) (hD.sub (ws' := ho a C) [0] (by decide) rfl) hS 0 5 rfl rfl rfl rfl hl.1 rfl (Nat.le_of_ble_eq_true rfl) dX5_wind_23 ⟨Nat.zero_le _, Nat.zero_le _⟩ (fun r u H1 locs hp hP1 hS hfr => ?_)
      obtain rfl : r = -2 := hp
      have hP1 : va_P D vwCl (ho a (nset C 0 (C 0 + 1))) H1 := hP1
      have hP : va_P D vwCl (ho a (nset C 0 (C 0 + 1)) ++ (bw a 1 k F E)) H1 := wJn (w1 := ho a (nset C 0 (C 0 + 1))) (wc := ho a C) hP hD [0] rfl rfl hP1 hfr
      generalize H1 = H at hP hS ⊢
      have hD : va_D (wA (ho a C ++ (bw a 1 k F E))) (ho a (nset C 0 (C 0 + 1)) ++ (bw a 1 k F E)) := hD.same rfl
      exact wr_iret hz hr hlk dX5_wind_26 hS (()) hP (rfl)

set_option maxHeartbeats 4000000 in
set_option maxRecDepth 100000 in
theorem c5_wind_ok (l_ : Launch) (D : va_G) (k : Nat → ClassId) (a : Nat → Nat) (tS : Nat) (sk sv : Nat → Nat) (C : Nat → Nat) (F : Nat → Nat) (E : Nat → Nat → Nat) (M : Nat → Nat) (mn w : Nat) (hR : Rb M F E) (hf : Wf M) (h1 : mn < 60) (h2 : w < M 0 - 1) (h3 : M 19 < 6) : Met l_ yX5_wind wsX5_wind ({ frames := 2, cells := 0, slots := 0, locals := 42 }) (va_Pc [.ref (a 0), .int (nI mn), .int (nI w)] (wH (Am tS sk sv) D k (ho a C ++ (bw a 1 k F E)))) (va_Qi (fun (r : Int32) (u : Unit) => r = nI (M 19)) (fun (u : Unit) (t_ : State) => va_P D vwCl ((fun (_ : Unit) => ho a C ++ (bw a 1 k (nset F 3 (F 3 + 1)) (gset (gset E 2 (nset (E 2) (F 3) mn)) 3 (nset (E 3) (F 3) w)))) u) t_.heap) (wA (ho a C ++ (bw a 1 k F E)))) 0 0 (wA (ho a C ++ (bw a 1 k F E))) := by
  refine my_entry (cc := cX5_wind) (maxL := 3) (ret := some .int) (by decide) rfl (Nat.le_of_ble_eq_true rfl) ?_
  intro p_ e_ s_ m_ bl_ me_ c_ hz hr hlk hB ls hl
  obtain ⟨hP, hK, hD0, hy⟩ := hB
  have hD := wA.self hD0
  have hS : va_S (wA (ho a C ++ (bw a 1 k F E))) s_.heap s_.heap [] := va_S.rf
  have hl : lv_has ls 3 [(0, .ref (a 0)), (1, .int (nI mn)), (2, .int (nI w))] := hl
  have f0 := hf.n2
  have f1 := hf.n9
  have f2 := hf.fr
  have f3 := hf.gd
  have f4 := hf.pc
  have f5 := hf.wc
  have e0 : F 0 = M 0 := hR.1.1
  have e1 : F 1 = M 1 := hR.1.2.1
  have e2 : F 2 = M 2 := hR.1.2.2.1
  have e3 : F 3 = M 19 := hR.1.2.2.2.1
  have e4 : F 4 = M 32 := hR.1.2.2.2.2
  refine lv_iload_n hz.1 hz.2.1 dX5_wind_0 rfl (lv_at hl 1 rfl) ?_
  refine lv_bipush (v := nI 60) hz.1 hz.2.1 dX5_wind_1 (by decide) ?_
  refine rdS (As := [.int (nI mn), .int (nI 60)]) (rest := []) hz (c5_inRow l_ (nI mn) 60 59 (by omega) (by omega)) rfl (va_cwS 2 hz.2.2.2.2 gX5_wind_X5_inRow rfl rfl rfl (by decide +kernel) ⟨Nat.le_of_ble_eq_true rfl, Nat.le_of_ble_eq_true rfl⟩) rfl hl.1 rfl (Nat.le_of_ble_eq_true rfl) dX5_wind_3 ⟨Nat.zero_le _, Nat.zero_le _⟩ ?_
  refine zeq (tgt := 20) hz dX5_wind_6 (by decide) (fun c_6 => ?_) (fun c_6 => ?_)
  · exact absurd ((wIn_ok (by omega) (by omega) (by omega)).symm.trans c_6) (by decide)
  · refine lv_aload_n hz.1 hz.2.1 dX5_wind_9 rfl (lv_at hl 0 rfl) ?_
    refine rg (T := TX5) (N := 11) hz hinX5_wind_X5 hK hP 0 rfl rfl 0 (by decide) (List.mem_of_getElem? (i := 1) rfl) rfl (v := .ref (a 1)) rfl dX5_wind_10 ?_
    refine lv_iload_n hz.1 hz.2.1 dX5_wind_13 rfl (lv_at hl 2 rfl) ?_
    refine rdV (A := wA (ho a C ++ (bw a 1 k F E))) (As := [.int (nI w)]) (rest := []) hz (okAm tS sk sv) (c0_isWire l_ D k a 1 tS sk sv F E M (nI w) hR hf) (cwV 1 hz.2.2.2.2 gX5_wind_X0_isWire rfl rfl rfl (by decide +kernel) ⟨Nat.le_of_ble_eq_true rfl, Nat.le_of_ble_eq_true rfl⟩) hK hy (hP.sub (ws' := bw a 1 k F E) [1, 2, 3, 4, 5, 6, 7, 8] rfl) (hD.sub (ws' := bw a 1 k F E) [1, 2, 3, 4, 5, 6, 7, 8] (by decide) rfl) hS 0 0 rfl rfl rfl rfl hl.1 rfl (Nat.le_of_ble_eq_true rfl) dX5_wind_14 ⟨Nat.zero_le _, Nat.zero_le _⟩ ?_
    refine zne (tgt := 27) hz dX5_wind_17 (by decide) (fun c_17 => ?_) (fun c_17 => ?_)
    · refine lv_aload_n hz.1 hz.2.1 dX5_wind_27 rfl (lv_at hl 0 rfl) ?_
      refine rg (T := TX5) (N := 11) hz hinX5_wind_X5 hK hP 0 rfl rfl 0 (by decide) (List.mem_of_getElem? (i := 1) rfl) rfl (v := .ref (a 1)) rfl dX5_wind_28 ?_
      refine rg (T := TX0) (N := 12) hz hinX5_wind_X0 hK hP 1 rfl rfl 3 (by decide) (List.mem_of_getElem? (i := 2) rfl) rfl (v := .int (nI (F 3))) rfl dX5_wind_31 ?_
      refine toe (z := nI (M 19)) (by rw [hR.1.2.2.2.1]) ?_
      refine lv_bipush (v := nI 6) hz.1 hz.2.1 dX5_wind_34 (by decide) ?_
      refine jlt (tgt := 44) hz dX5_wind_36 (by decide) (by omega) (by omega) (fun c_36 => ?_) (fun c_36 => ?_)
      · refine lv_aload_n hz.1 hz.2.1 dX5_wind_44 rfl (lv_at hl 0 rfl) ?_
        refine rg (T := TX5) (N := 11) hz hinX5_wind_X5 hK hP 0 rfl rfl 0 (by decide) (List.mem_of_getElem? (i := 1) rfl) rfl (v := .ref (a 1)) rfl dX5_wind_45 ?_
        refine lv_iload_n hz.1 hz.2.1 dX5_wind_48 rfl (lv_at hl 1 rfl) ?_
        refine lv_iload_n hz.1 hz.2.1 dX5_wind_49 rfl (lv_at hl 2 rfl) ?_
        refine wrVv (A := wA (ho a C ++ (bw a 1 k F E))) (As := [.int (nI mn), .int (nI w)]) (rest := []) hz (okAm tS sk sv) (c0_addWind l_ D k a 1 tS sk sv F E  mn w (by omega)) (cwV 2 hz.2.2.2.2 gX5_wind_X0_addWind rfl rfl rfl (by decide +kernel) ⟨Nat.le_of_ble_eq_true rfl, Nat.le_of_ble_eq_true rfl⟩) hK hy (hP.sub (ws' := bw a 1 k F E) [1, 2, 3, 4, 5, 6, 7, 8] rfl) (hD.sub (ws' := bw a 1 k F E) [1, 2, 3, 4, 5, 6, 7, 8] (by decide) rfl) hS 0 0 rfl rfl rfl rfl hl.1 rfl (Nat.le_of_ble_eq_true rfl) dX5_wind_50 ⟨Nat.zero_le _, Nat.zero_le _⟩ (fun u H1 locs hp hP1 hS hfr => ?_)
        have hP1 : va_P D vwCl (bw a 1 k (nset F 3 (F 3 + 1)) (gset (gset E 2 (nset (E 2) (F 3) mn)) 3 (nset (E 3) (F 3) w))) H1 := hP1
        have hP : va_P D vwCl (ho a C ++ (bw a 1 k (nset F 3 (F 3 + 1)) (gset (gset E 2 (nset (E 2) (F 3) mn)) 3 (nset (E 3) (F 3) w)))) H1 := wJn (w1 := bw a 1 k (nset F 3 (F 3 + 1)) (gset (gset E 2 (nset (E 2) (F 3) mn)) 3 (nset (E 3) (F 3) w))) (wc := bw a 1 k F E) hP hD [1, 2, 3, 4, 5, 6, 7, 8] rfl rfl hP1 hfr
        generalize H1 = H at hP hS ⊢
        have hD : va_D (wA (ho a C ++ (bw a 1 k F E))) (ho a C ++ (bw a 1 k (nset F 3 (F 3 + 1)) (gset (gset E 2 (nset (E 2) (F 3) mn)) 3 (nset (E 3) (F 3) w)))) := hD.same rfl
        refine lv_aload_n hz.1 hz.2.1 dX5_wind_53 rfl (lv_at hl 0 rfl) ?_
        refine rg (T := TX5) (N := 11) hz hinX5_wind_X5 hK hP 0 rfl rfl 0 (by decide) (List.mem_of_getElem? (i := 1) rfl) rfl (v := .ref (a 1)) rfl dX5_wind_54 ?_
        refine rg (T := TX0) (N := 12) hz hinX5_wind_X0 hK hP 1 rfl rfl 3 (by decide) (List.mem_of_getElem? (i := 2) rfl) rfl (v := .int (nI (F 3 + 1))) rfl dX5_wind_57 ?_
        refine lv_iconst (v := nI 1) hz.1 hz.2.1 dX5_wind_60 (by decide) ?_
        refine lv_isub hz.1 hz.2.1 dX5_wind_61 ?_
        refine toe (z := nI (M 19)) (by rw [e3]; exact pk_sub (a := M 19 + 1) (b := 1) (by omega)) ?_
        exact wr_iret hz hr hlk dX5_wind_62 hS (()) hP (rfl)
      · exact absurd c_36 (by omega)
    · exact absurd ((wIn_ok (by omega) (by omega) (by omega)).symm.trans c_17) (by decide)

set_option maxHeartbeats 4000000 in
set_option maxRecDepth 100000 in
theorem c5_wind_full (l_ : Launch) (D : va_G) (k : Nat → ClassId) (a : Nat → Nat) (tS : Nat) (sk sv : Nat → Nat) (C : Nat → Nat) (F : Nat → Nat) (E : Nat → Nat → Nat) (M : Nat → Nat) (mn w : Nat) (hR : Rb M F E) (hf : Wf M) (h1 : mn < 60) (h2 : w < M 0 - 1) (h3 : M 19 = 6) : Met l_ yX5_wind wsX5_wind ({ frames := 2, cells := 0, slots := 0, locals := 42 }) (va_Pc [.ref (a 0), .int (nI mn), .int (nI w)] (wH (Am tS sk sv) D k (ho a C ++ (bw a 1 k F E)))) (va_Qi (fun (r : Int32) (u : Unit) => r = -4) (fun (u : Unit) (t_ : State) => va_P D vwCl ((fun (_ : Unit) => ho a (nset C 2 (C 2 + 1)) ++ (bw a 1 k F E)) u) t_.heap) (wA (ho a C ++ (bw a 1 k F E)))) 0 0 (wA (ho a C ++ (bw a 1 k F E))) := by
  refine my_entry (cc := cX5_wind) (maxL := 3) (ret := some .int) (by decide) rfl (Nat.le_of_ble_eq_true rfl) ?_
  intro p_ e_ s_ m_ bl_ me_ c_ hz hr hlk hB ls hl
  obtain ⟨hP, hK, hD0, hy⟩ := hB
  have hD := wA.self hD0
  have hS : va_S (wA (ho a C ++ (bw a 1 k F E))) s_.heap s_.heap [] := va_S.rf
  have hl : lv_has ls 3 [(0, .ref (a 0)), (1, .int (nI mn)), (2, .int (nI w))] := hl
  have f0 := hf.n2
  have f1 := hf.n9
  have f2 := hf.fr
  have f3 := hf.gd
  have f4 := hf.pc
  have f5 := hf.wc
  have e0 : F 0 = M 0 := hR.1.1
  have e1 : F 1 = M 1 := hR.1.2.1
  have e2 : F 2 = M 2 := hR.1.2.2.1
  have e3 : F 3 = M 19 := hR.1.2.2.2.1
  have e4 : F 4 = M 32 := hR.1.2.2.2.2
  refine lv_iload_n hz.1 hz.2.1 dX5_wind_0 rfl (lv_at hl 1 rfl) ?_
  refine lv_bipush (v := nI 60) hz.1 hz.2.1 dX5_wind_1 (by decide) ?_
  refine rdS (As := [.int (nI mn), .int (nI 60)]) (rest := []) hz (c5_inRow l_ (nI mn) 60 59 (by omega) (by omega)) rfl (va_cwS 2 hz.2.2.2.2 gX5_wind_X5_inRow rfl rfl rfl (by decide +kernel) ⟨Nat.le_of_ble_eq_true rfl, Nat.le_of_ble_eq_true rfl⟩) rfl hl.1 rfl (Nat.le_of_ble_eq_true rfl) dX5_wind_3 ⟨Nat.zero_le _, Nat.zero_le _⟩ ?_
  refine zeq (tgt := 20) hz dX5_wind_6 (by decide) (fun c_6 => ?_) (fun c_6 => ?_)
  · exact absurd ((wIn_ok (by omega) (by omega) (by omega)).symm.trans c_6) (by decide)
  · refine lv_aload_n hz.1 hz.2.1 dX5_wind_9 rfl (lv_at hl 0 rfl) ?_
    refine rg (T := TX5) (N := 11) hz hinX5_wind_X5 hK hP 0 rfl rfl 0 (by decide) (List.mem_of_getElem? (i := 1) rfl) rfl (v := .ref (a 1)) rfl dX5_wind_10 ?_
    refine lv_iload_n hz.1 hz.2.1 dX5_wind_13 rfl (lv_at hl 2 rfl) ?_
    refine rdV (A := wA (ho a C ++ (bw a 1 k F E))) (As := [.int (nI w)]) (rest := []) hz (okAm tS sk sv) (c0_isWire l_ D k a 1 tS sk sv F E M (nI w) hR hf) (cwV 1 hz.2.2.2.2 gX5_wind_X0_isWire rfl rfl rfl (by decide +kernel) ⟨Nat.le_of_ble_eq_true rfl, Nat.le_of_ble_eq_true rfl⟩) hK hy (hP.sub (ws' := bw a 1 k F E) [1, 2, 3, 4, 5, 6, 7, 8] rfl) (hD.sub (ws' := bw a 1 k F E) [1, 2, 3, 4, 5, 6, 7, 8] (by decide) rfl) hS 0 0 rfl rfl rfl rfl hl.1 rfl (Nat.le_of_ble_eq_true rfl) dX5_wind_14 ⟨Nat.zero_le _, Nat.zero_le _⟩ ?_
    refine zne (tgt := 27) hz dX5_wind_17 (by decide) (fun c_17 => ?_) (fun c_17 => ?_)
    · refine lv_aload_n hz.1 hz.2.1 dX5_wind_27 rfl (lv_at hl 0 rfl) ?_
      refine rg (T := TX5) (N := 11) hz hinX5_wind_X5 hK hP 0 rfl rfl 0 (by decide) (List.mem_of_getElem? (i := 1) rfl) rfl (v := .ref (a 1)) rfl dX5_wind_28 ?_
      refine rg (T := TX0) (N := 12) hz hinX5_wind_X0 hK hP 1 rfl rfl 3 (by decide) (List.mem_of_getElem? (i := 2) rfl) rfl (v := .int (nI (F 3))) rfl dX5_wind_31 ?_
      refine toe (z := nI (M 19)) (by rw [hR.1.2.2.2.1]) ?_
      refine lv_bipush (v := nI 6) hz.1 hz.2.1 dX5_wind_34 (by decide) ?_
      refine jlt (tgt := 44) hz dX5_wind_36 (by decide) (by omega) (by omega) (fun c_36 => ?_) (fun c_36 => ?_)
      · exact absurd c_36 (by omega)
      · refine lv_aload_n hz.1 hz.2.1 dX5_wind_39 rfl (lv_at hl 0 rfl) ?_
        refine wrV (A := wA (ho a C ++ (bw a 1 k F E))) (As := []) (rest := []) hz (okAm tS sk sv) (c5_full l_ D k a tS sk sv C   ) (cwV 0 hz.2.2.2.2 gX5_wind_X5_full rfl rfl rfl (by decide +kernel) ⟨Nat.le_of_ble_eq_true rfl, Nat.le_of_ble_eq_true rfl⟩) hK hy (hP.sub (ws' := ho a C) [0] rfl) (hD.sub (ws' := ho a C) [0] (by decide) rfl) hS 0 5 rfl rfl rfl rfl hl.1 rfl (Nat.le_of_ble_eq_true rfl) dX5_wind_40 ⟨Nat.zero_le _, Nat.zero_le _⟩ (fun r u H1 locs hp hP1 hS hfr => ?_)
        obtain rfl : r = -4 := hp
        have hP1 : va_P D vwCl (ho a (nset C 2 (C 2 + 1))) H1 := hP1
        have hP : va_P D vwCl (ho a (nset C 2 (C 2 + 1)) ++ (bw a 1 k F E)) H1 := wJn (w1 := ho a (nset C 2 (C 2 + 1))) (wc := ho a C) hP hD [0] rfl rfl hP1 hfr
        generalize H1 = H at hP hS ⊢
        have hD : va_D (wA (ho a C ++ (bw a 1 k F E))) (ho a (nset C 2 (C 2 + 1)) ++ (bw a 1 k F E)) := hD.same rfl
        exact wr_iret hz hr hlk dX5_wind_43 hS (()) hP (rfl)
    · exact absurd ((wIn_ok (by omega) (by omega) (by omega)).symm.trans c_17) (by decide)

theorem hinX5_calm_X5 : ∀ w ∈ wsX50, w ∈ wsX5_calm := fun _ h => List.mem_cons_of_mem _ (List.mem_append_left _ (List.mem_append_right _ h))
theorem hinX5_calm_X0 : ∀ w ∈ wsX00, w ∈ wsX5_calm := fun _ h => List.mem_cons_of_mem _ (List.mem_append_right _ h)
set_option maxHeartbeats 4000000 in
set_option maxRecDepth 100000 in
theorem c5_calm (l_ : Launch) (D : va_G) (k : Nat → ClassId) (a : Nat → Nat) (tS : Nat) (sk sv : Nat → Nat) (C : Nat → Nat) (F : Nat → Nat) (E : Nat → Nat → Nat) (M : Nat → Nat)  (hR : Rb M F E) (hf : Wf M) : Met l_ yX5_calm wsX5_calm ({ frames := 0, cells := 0, slots := 0, locals := 0 }) (va_Pc [.ref (a 0)] (wH (Am tS sk sv) D k (ho a C ++ (bw a 1 k F E)))) (va_Qi (fun (r : Int32) (u : Unit) => r = nI (M 19)) (fun (u : Unit) (t_ : State) => va_P D vwCl ((fun (_ : Unit) => ho a C ++ (bw a 1 k (nset F 3 0) E)) u) t_.heap) (wA (ho a C ++ (bw a 1 k F E)))) 0 0 (wA (ho a C ++ (bw a 1 k F E))) := by
  refine my_entry (cc := cX5_calm) (maxL := 2) (ret := some .int) (by decide) rfl (Nat.le_of_ble_eq_true rfl) ?_
  intro p_ e_ s_ m_ bl_ me_ c_ hz hr hlk hB ls hl
  obtain ⟨hP, hK, hD0, hy⟩ := hB
  have hD := wA.self hD0
  have hS : va_S (wA (ho a C ++ (bw a 1 k F E))) s_.heap s_.heap [] := va_S.rf
  have hl : lv_has ls 2 [(0, .ref (a 0))] := hl
  have f0 := hf.n2
  have f1 := hf.n9
  have f2 := hf.fr
  have f3 := hf.gd
  have f4 := hf.pc
  have f5 := hf.wc
  have e0 : F 0 = M 0 := hR.1.1
  have e1 : F 1 = M 1 := hR.1.2.1
  have e2 : F 2 = M 2 := hR.1.2.2.1
  have e3 : F 3 = M 19 := hR.1.2.2.2.1
  have e4 : F 4 = M 32 := hR.1.2.2.2.2
  refine lv_aload_n hz.1 hz.2.1 dX5_calm_0 rfl (lv_at hl 0 rfl) ?_
  refine rg (T := TX5) (N := 11) hz hinX5_calm_X5 hK hP 0 rfl rfl 0 (by decide) (List.mem_of_getElem? (i := 1) rfl) rfl (v := .ref (a 1)) rfl dX5_calm_1 ?_
  refine rg (T := TX0) (N := 12) hz hinX5_calm_X0 hK hP 1 rfl rfl 3 (by decide) (List.mem_of_getElem? (i := 2) rfl) rfl (v := .int (nI (F 3))) rfl dX5_calm_4 ?_
  refine toe (z := nI (M 19)) (by rw [hR.1.2.2.2.1]) ?_
  refine lv_istore_n (lv' := [(1, .int (nI (M 19))), (0, .ref (a 0))]) hz.1 hz.2.1 dX5_calm_7 rfl hl (by decide) rfl (fun ls hl => ?_)
  refine lv_aload_n hz.1 hz.2.1 dX5_calm_8 rfl (lv_at hl 1 rfl) ?_
  refine rg (T := TX5) (N := 11) hz hinX5_calm_X5 hK hP 0 rfl rfl 0 (by decide) (List.mem_of_getElem? (i := 1) rfl) rfl (v := .ref (a 1)) rfl dX5_calm_9 ?_
  refine lv_iconst (v := nI 0) hz.1 hz.2.1 dX5_calm_12 (by decide) ?_
  refine rput (v := .int (nI 0)) (ty := .int) (T := TX0) (N := 12) hz hinX5_calm_X0 tyX0 tyX0_ok nmX0 hK hP hD hS 1 rfl rfl 3 (by decide) (List.mem_of_getElem? (i := 2) rfl) rfl rfl (by decide +kernel) rfl rfl (Nat.le_of_ble_eq_true rfl) dX5_calm_13 (fun H locs hP hS => ?_)
  have hP : va_P D vwCl (ho a C ++ (bw a 1 k (nset F 3 0) E)) H := hP
  have hD : va_D (wA (ho a C ++ (bw a 1 k F E))) (ho a C ++ (bw a 1 k (nset F 3 0) E)) := hD.same rfl
  refine lv_iload_n hz.1 hz.2.1 dX5_calm_16 rfl (lv_at hl 0 rfl) ?_
  exact wr_iret hz hr hlk dX5_calm_17 hS (()) hP (rfl)

theorem hinX5_pass_X5 : ∀ w ∈ wsX50, w ∈ wsX5_pass := fun _ h => List.mem_cons_of_mem _ (List.mem_append_left _ (List.mem_append_right _ h))
theorem hinX5_pass_X0 : ∀ w ∈ wsX00, w ∈ wsX5_pass := fun _ h => List.mem_cons_of_mem _ (List.mem_append_right _ h)
set_option maxHeartbeats 4000000 in
set_option maxRecDepth 100000 in
theorem c5_pass_bad (l_ : Launch) (D : va_G) (k : Nat → ClassId) (a : Nat → Nat) (tS : Nat) (sk sv : Nat → Nat) (C : Nat → Nat) (F : Nat → Nat) (E : Nat → Nat → Nat) (M : Nat → Nat) (x1 x2 x3 : Int32) (hR : Rb M F E) (hf : Wf M) (hb : (wIn x1 0 59 && wIn x2 0 (M 0 - 1 - 1) && wIn x3 0 3) = false) : Met l_ yX5_pass wsX5_pass ({ frames := 2, cells := 0, slots := 0, locals := 42 }) (va_Pc [.ref (a 0), .int x1, .int x2, .int x3] (wH (Am tS sk sv) D k (ho a C ++ (bw a 1 k F E)))) (va_Qi (fun (r : Int32) (u : Unit) => r = -2) (fun (u : Unit) (t_ : State) => va_P D vwCl ((fun (_ : Unit) => ho a (nset C 0 (C 0 + 1)) ++ (bw a 1 k F E)) u) t_.heap) (wA (ho a C ++ (bw a 1 k F E)))) 0 0 (wA (ho a C ++ (bw a 1 k F E))) := by
  refine my_entry (cc := cX5_pass) (maxL := 4) (ret := some .int) (by decide) rfl (Nat.le_of_ble_eq_true rfl) ?_
  intro p_ e_ s_ m_ bl_ me_ c_ hz hr hlk hB ls hl
  obtain ⟨hP, hK, hD0, hy⟩ := hB
  have hD := wA.self hD0
  have hS : va_S (wA (ho a C ++ (bw a 1 k F E))) s_.heap s_.heap [] := va_S.rf
  have hl : lv_has ls 4 [(0, .ref (a 0)), (1, .int x1), (2, .int x2), (3, .int x3)] := hl
  have f0 := hf.n2
  have f1 := hf.n9
  have f2 := hf.fr
  have f3 := hf.gd
  have f4 := hf.pc
  have f5 := hf.wc
  have e0 : F 0 = M 0 := hR.1.1
  have e1 : F 1 = M 1 := hR.1.2.1
  have e2 : F 2 = M 2 := hR.1.2.2.1
  have e3 : F 3 = M 19 := hR.1.2.2.2.1
  have e4 : F 4 = M 32 := hR.1.2.2.2.2
  refine lv_iload_n hz.1 hz.2.1 dX5_pass_0 rfl (lv_at hl 1 rfl) ?_
  refine lv_bipush (v := nI 60) hz.1 hz.2.1 dX5_pass_1 (by decide) ?_
  refine rdS (As := [.int x1, .int (nI 60)]) (rest := []) hz (c5_inRow l_ x1 60 59 (by omega) (by omega)) rfl (va_cwS 2 hz.2.2.2.2 gX5_pass_X5_inRow rfl rfl rfl (by decide +kernel) ⟨Nat.le_of_ble_eq_true rfl, Nat.le_of_ble_eq_true rfl⟩) rfl hl.1 rfl (Nat.le_of_ble_eq_true rfl) dX5_pass_3 ⟨Nat.zero_le _, Nat.zero_le _⟩ ?_
  refine zeq (tgt := 28) hz dX5_pass_6 (by decide) (fun c_6 => ?_) (fun c_6 => ?_)
  · refine lv_aload_n hz.1 hz.2.1 dX5_pass_28 rfl (lv_at hl 0 rfl) ?_
    refine lv_bipush (v := (-2)) hz.1 hz.2.1 dX5_pass_29 (by decide) ?_
    refine wrV (A := wA (ho a C ++ (bw a 1 k F E))) (As := [.int (-2)]) (rest := []) hz (okAm tS sk sv) (c5_bad l_ D k a tS sk sv C  (-2) ) (cwV 1 hz.2.2.2.2 gX5_pass_X5_bad rfl rfl rfl (by decide +kernel) ⟨Nat.le_of_ble_eq_true rfl, Nat.le_of_ble_eq_true rfl⟩) hK hy (hP.sub (ws' := ho a C) [0] rfl) (hD.sub (ws' := ho a C) [0] (by decide) rfl) hS 0 5 rfl rfl rfl rfl hl.1 rfl (Nat.le_of_ble_eq_true rfl) dX5_pass_31 ⟨Nat.zero_le _, Nat.zero_le _⟩ (fun r u H1 locs hp hP1 hS hfr => ?_)
    obtain rfl : r = -2 := hp
    have hP1 : va_P D vwCl (ho a (nset C 0 (C 0 + 1))) H1 := hP1
    have hP : va_P D vwCl (ho a (nset C 0 (C 0 + 1)) ++ (bw a 1 k F E)) H1 := wJn (w1 := ho a (nset C 0 (C 0 + 1))) (wc := ho a C) hP hD [0] rfl rfl hP1 hfr
    generalize H1 = H at hP hS ⊢
    have hD : va_D (wA (ho a C ++ (bw a 1 k F E))) (ho a (nset C 0 (C 0 + 1)) ++ (bw a 1 k F E)) := hD.same rfl
    exact wr_iret hz hr hlk dX5_pass_34 hS (()) hP (rfl)
  · refine lv_aload_n hz.1 hz.2.1 dX5_pass_9 rfl (lv_at hl 0 rfl) ?_
    refine rg (T := TX5) (N := 11) hz hinX5_pass_X5 hK hP 0 rfl rfl 0 (by decide) (List.mem_of_getElem? (i := 1) rfl) rfl (v := .ref (a 1)) rfl dX5_pass_10 ?_
    refine lv_iload_n hz.1 hz.2.1 dX5_pass_13 rfl (lv_at hl 2 rfl) ?_
    refine rdV (A := wA (ho a C ++ (bw a 1 k F E))) (As := [.int x2]) (rest := []) hz (okAm tS sk sv) (c0_isWire l_ D k a 1 tS sk sv F E M x2 hR hf) (cwV 1 hz.2.2.2.2 gX5_pass_X0_isWire rfl rfl rfl (by decide +kernel) ⟨Nat.le_of_ble_eq_true rfl, Nat.le_of_ble_eq_true rfl⟩) hK hy (hP.sub (ws' := bw a 1 k F E) [1, 2, 3, 4, 5, 6, 7, 8] rfl) (hD.sub (ws' := bw a 1 k F E) [1, 2, 3, 4, 5, 6, 7, 8] (by decide) rfl) hS 0 0 rfl rfl rfl rfl hl.1 rfl (Nat.le_of_ble_eq_true rfl) dX5_pass_14 ⟨Nat.zero_le _, Nat.zero_le _⟩ ?_
    refine zeq (tgt := 28) hz dX5_pass_17 (by decide) (fun c_17 => ?_) (fun c_17 => ?_)
    · refine lv_aload_n hz.1 hz.2.1 dX5_pass_28 rfl (lv_at hl 0 rfl) ?_
      refine lv_bipush (v := (-2)) hz.1 hz.2.1 dX5_pass_29 (by decide) ?_
      refine wrV (A := wA (ho a C ++ (bw a 1 k F E))) (As := [.int (-2)]) (rest := []) hz (okAm tS sk sv) (c5_bad l_ D k a tS sk sv C  (-2) ) (cwV 1 hz.2.2.2.2 gX5_pass_X5_bad rfl rfl rfl (by decide +kernel) ⟨Nat.le_of_ble_eq_true rfl, Nat.le_of_ble_eq_true rfl⟩) hK hy (hP.sub (ws' := ho a C) [0] rfl) (hD.sub (ws' := ho a C) [0] (by decide) rfl) hS 0 5 rfl rfl rfl rfl hl.1 rfl (Nat.le_of_ble_eq_true rfl) dX5_pass_31 ⟨Nat.zero_le _, Nat.zero_le _⟩ (fun r u H1 locs hp hP1 hS hfr => ?_)
      obtain rfl : r = -2 := hp
      have hP1 : va_P D vwCl (ho a (nset C 0 (C 0 + 1))) H1 := hP1
      have hP : va_P D vwCl (ho a (nset C 0 (C 0 + 1)) ++ (bw a 1 k F E)) H1 := wJn (w1 := ho a (nset C 0 (C 0 + 1))) (wc := ho a C) hP hD [0] rfl rfl hP1 hfr
      generalize H1 = H at hP hS ⊢
      have hD : va_D (wA (ho a C ++ (bw a 1 k F E))) (ho a (nset C 0 (C 0 + 1)) ++ (bw a 1 k F E)) := hD.same rfl
      exact wr_iret hz hr hlk dX5_pass_34 hS (()) hP (rfl)
    · refine lv_iload_n hz.1 hz.2.1 dX5_pass_20 rfl (lv_at hl 3 rfl) ?_
      refine lv_iconst (v := nI 4) hz.1 hz.2.1 dX5_pass_21 (by decide) ?_
      refine rdS (As := [.int x3, .int (nI 4)]) (rest := []) hz (c5_inRow l_ x3 4 3 (by omega) (by omega)) rfl (va_cwS 2 hz.2.2.2.2 gX5_pass_X5_inRow rfl rfl rfl (by decide +kernel) ⟨Nat.le_of_ble_eq_true rfl, Nat.le_of_ble_eq_true rfl⟩) rfl hl.1 rfl (Nat.le_of_ble_eq_true rfl) dX5_pass_22 ⟨Nat.zero_le _, Nat.zero_le _⟩ ?_
      refine zne (tgt := 35) hz dX5_pass_25 (by decide) (fun c_25 => ?_) (fun c_25 => ?_)
      · simp [c_6, c_17, c_25] at hb
      · refine lv_aload_n hz.1 hz.2.1 dX5_pass_28 rfl (lv_at hl 0 rfl) ?_
        refine lv_bipush (v := (-2)) hz.1 hz.2.1 dX5_pass_29 (by decide) ?_
        refine wrV (A := wA (ho a C ++ (bw a 1 k F E))) (As := [.int (-2)]) (rest := []) hz (okAm tS sk sv) (c5_bad l_ D k a tS sk sv C  (-2) ) (cwV 1 hz.2.2.2.2 gX5_pass_X5_bad rfl rfl rfl (by decide +kernel) ⟨Nat.le_of_ble_eq_true rfl, Nat.le_of_ble_eq_true rfl⟩) hK hy (hP.sub (ws' := ho a C) [0] rfl) (hD.sub (ws' := ho a C) [0] (by decide) rfl) hS 0 5 rfl rfl rfl rfl hl.1 rfl (Nat.le_of_ble_eq_true rfl) dX5_pass_31 ⟨Nat.zero_le _, Nat.zero_le _⟩ (fun r u H1 locs hp hP1 hS hfr => ?_)
        obtain rfl : r = -2 := hp
        have hP1 : va_P D vwCl (ho a (nset C 0 (C 0 + 1))) H1 := hP1
        have hP : va_P D vwCl (ho a (nset C 0 (C 0 + 1)) ++ (bw a 1 k F E)) H1 := wJn (w1 := ho a (nset C 0 (C 0 + 1))) (wc := ho a C) hP hD [0] rfl rfl hP1 hfr
        generalize H1 = H at hP hS ⊢
        have hD : va_D (wA (ho a C ++ (bw a 1 k F E))) (ho a (nset C 0 (C 0 + 1)) ++ (bw a 1 k F E)) := hD.same rfl
        exact wr_iret hz hr hlk dX5_pass_34 hS (()) hP (rfl)

set_option maxHeartbeats 4000000 in
set_option maxRecDepth 100000 in
theorem c5_pass_ok (l_ : Launch) (D : va_G) (k : Nat → ClassId) (a : Nat → Nat) (tS : Nat) (sk sv : Nat → Nat) (C : Nat → Nat) (F : Nat → Nat) (E : Nat → Nat → Nat) (M : Nat → Nat) (mn w sp : Nat) (hR : Rb M F E) (hf : Wf M) (h1 : mn < 60) (h2 : w < M 0 - 1) (h4 : sp ≤ 3) (h3 : M 32 < 8) : Met l_ yX5_pass wsX5_pass ({ frames := 2, cells := 0, slots := 0, locals := 42 }) (va_Pc [.ref (a 0), .int (nI mn), .int (nI w), .int (nI sp)] (wH (Am tS sk sv) D k (ho a C ++ (bw a 1 k F E)))) (va_Qi (fun (r : Int32) (u : Unit) => r = nI (M 32)) (fun (u : Unit) (t_ : State) => va_P D vwCl ((fun (_ : Unit) => ho a C ++ (bw a 1 k (nset F 4 (F 4 + 1)) (gset (gset (gset E 4 (nset (E 4) (F 4) mn)) 5 (nset (E 5) (F 4) w)) 6 (nset (E 6) (F 4) sp)))) u) t_.heap) (wA (ho a C ++ (bw a 1 k F E)))) 0 0 (wA (ho a C ++ (bw a 1 k F E))) := by
  refine my_entry (cc := cX5_pass) (maxL := 4) (ret := some .int) (by decide) rfl (Nat.le_of_ble_eq_true rfl) ?_
  intro p_ e_ s_ m_ bl_ me_ c_ hz hr hlk hB ls hl
  obtain ⟨hP, hK, hD0, hy⟩ := hB
  have hD := wA.self hD0
  have hS : va_S (wA (ho a C ++ (bw a 1 k F E))) s_.heap s_.heap [] := va_S.rf
  have hl : lv_has ls 4 [(0, .ref (a 0)), (1, .int (nI mn)), (2, .int (nI w)), (3, .int (nI sp))] := hl
  have f0 := hf.n2
  have f1 := hf.n9
  have f2 := hf.fr
  have f3 := hf.gd
  have f4 := hf.pc
  have f5 := hf.wc
  have e0 : F 0 = M 0 := hR.1.1
  have e1 : F 1 = M 1 := hR.1.2.1
  have e2 : F 2 = M 2 := hR.1.2.2.1
  have e3 : F 3 = M 19 := hR.1.2.2.2.1
  have e4 : F 4 = M 32 := hR.1.2.2.2.2
  refine lv_iload_n hz.1 hz.2.1 dX5_pass_0 rfl (lv_at hl 1 rfl) ?_
  refine lv_bipush (v := nI 60) hz.1 hz.2.1 dX5_pass_1 (by decide) ?_
  refine rdS (As := [.int (nI mn), .int (nI 60)]) (rest := []) hz (c5_inRow l_ (nI mn) 60 59 (by omega) (by omega)) rfl (va_cwS 2 hz.2.2.2.2 gX5_pass_X5_inRow rfl rfl rfl (by decide +kernel) ⟨Nat.le_of_ble_eq_true rfl, Nat.le_of_ble_eq_true rfl⟩) rfl hl.1 rfl (Nat.le_of_ble_eq_true rfl) dX5_pass_3 ⟨Nat.zero_le _, Nat.zero_le _⟩ ?_
  refine zeq (tgt := 28) hz dX5_pass_6 (by decide) (fun c_6 => ?_) (fun c_6 => ?_)
  · exact absurd ((wIn_ok (by omega) (by omega) (by omega)).symm.trans c_6) (by decide)
  · refine lv_aload_n hz.1 hz.2.1 dX5_pass_9 rfl (lv_at hl 0 rfl) ?_
    refine rg (T := TX5) (N := 11) hz hinX5_pass_X5 hK hP 0 rfl rfl 0 (by decide) (List.mem_of_getElem? (i := 1) rfl) rfl (v := .ref (a 1)) rfl dX5_pass_10 ?_
    refine lv_iload_n hz.1 hz.2.1 dX5_pass_13 rfl (lv_at hl 2 rfl) ?_
    refine rdV (A := wA (ho a C ++ (bw a 1 k F E))) (As := [.int (nI w)]) (rest := []) hz (okAm tS sk sv) (c0_isWire l_ D k a 1 tS sk sv F E M (nI w) hR hf) (cwV 1 hz.2.2.2.2 gX5_pass_X0_isWire rfl rfl rfl (by decide +kernel) ⟨Nat.le_of_ble_eq_true rfl, Nat.le_of_ble_eq_true rfl⟩) hK hy (hP.sub (ws' := bw a 1 k F E) [1, 2, 3, 4, 5, 6, 7, 8] rfl) (hD.sub (ws' := bw a 1 k F E) [1, 2, 3, 4, 5, 6, 7, 8] (by decide) rfl) hS 0 0 rfl rfl rfl rfl hl.1 rfl (Nat.le_of_ble_eq_true rfl) dX5_pass_14 ⟨Nat.zero_le _, Nat.zero_le _⟩ ?_
    refine zeq (tgt := 28) hz dX5_pass_17 (by decide) (fun c_17 => ?_) (fun c_17 => ?_)
    · exact absurd ((wIn_ok (by omega) (by omega) (by omega)).symm.trans c_17) (by decide)
    · refine lv_iload_n hz.1 hz.2.1 dX5_pass_20 rfl (lv_at hl 3 rfl) ?_
      refine lv_iconst (v := nI 4) hz.1 hz.2.1 dX5_pass_21 (by decide) ?_
      refine rdS (As := [.int (nI sp), .int (nI 4)]) (rest := []) hz (c5_inRow l_ (nI sp) 4 3 (by omega) (by omega)) rfl (va_cwS 2 hz.2.2.2.2 gX5_pass_X5_inRow rfl rfl rfl (by decide +kernel) ⟨Nat.le_of_ble_eq_true rfl, Nat.le_of_ble_eq_true rfl⟩) rfl hl.1 rfl (Nat.le_of_ble_eq_true rfl) dX5_pass_22 ⟨Nat.zero_le _, Nat.zero_le _⟩ ?_
      refine zne (tgt := 35) hz dX5_pass_25 (by decide) (fun c_25 => ?_) (fun c_25 => ?_)
      · refine lv_aload_n hz.1 hz.2.1 dX5_pass_35 rfl (lv_at hl 0 rfl) ?_
        refine rg (T := TX5) (N := 11) hz hinX5_pass_X5 hK hP 0 rfl rfl 0 (by decide) (List.mem_of_getElem? (i := 1) rfl) rfl (v := .ref (a 1)) rfl dX5_pass_36 ?_
        refine rg (T := TX0) (N := 12) hz hinX5_pass_X0 hK hP 1 rfl rfl 4 (by decide) (List.mem_of_getElem? (i := 2) rfl) rfl (v := .int (nI (F 4))) rfl dX5_pass_39 ?_
        refine toe (z := nI (M 32)) (by rw [hR.1.2.2.2.2]) ?_
        refine lv_bipush (v := nI 8) hz.1 hz.2.1 dX5_pass_42 (by decide) ?_
        refine jlt (tgt := 52) hz dX5_pass_44 (by decide) (by omega) (by omega) (fun c_44 => ?_) (fun c_44 => ?_)
        · refine lv_aload_n hz.1 hz.2.1 dX5_pass_52 rfl (lv_at hl 0 rfl) ?_
          refine rg (T := TX5) (N := 11) hz hinX5_pass_X5 hK hP 0 rfl rfl 0 (by decide) (List.mem_of_getElem? (i := 1) rfl) rfl (v := .ref (a 1)) rfl dX5_pass_53 ?_
          refine lv_iload_n hz.1 hz.2.1 dX5_pass_56 rfl (lv_at hl 1 rfl) ?_
          refine lv_iload_n hz.1 hz.2.1 dX5_pass_57 rfl (lv_at hl 2 rfl) ?_
          refine lv_iload_n hz.1 hz.2.1 dX5_pass_58 rfl (lv_at hl 3 rfl) ?_
          refine wrVv (A := wA (ho a C ++ (bw a 1 k F E))) (As := [.int (nI mn), .int (nI w), .int (nI sp)]) (rest := []) hz (okAm tS sk sv) (c0_addPass l_ D k a 1 tS sk sv F E  mn w sp (by omega)) (cwV 3 hz.2.2.2.2 gX5_pass_X0_addPass rfl rfl rfl (by decide +kernel) ⟨Nat.le_of_ble_eq_true rfl, Nat.le_of_ble_eq_true rfl⟩) hK hy (hP.sub (ws' := bw a 1 k F E) [1, 2, 3, 4, 5, 6, 7, 8] rfl) (hD.sub (ws' := bw a 1 k F E) [1, 2, 3, 4, 5, 6, 7, 8] (by decide) rfl) hS 0 0 rfl rfl rfl rfl hl.1 rfl (Nat.le_of_ble_eq_true rfl) dX5_pass_59 ⟨Nat.zero_le _, Nat.zero_le _⟩ (fun u H1 locs hp hP1 hS hfr => ?_)
          have hP1 : va_P D vwCl (bw a 1 k (nset F 4 (F 4 + 1)) (gset (gset (gset E 4 (nset (E 4) (F 4) mn)) 5 (nset (E 5) (F 4) w)) 6 (nset (E 6) (F 4) sp))) H1 := hP1
          have hP : va_P D vwCl (ho a C ++ (bw a 1 k (nset F 4 (F 4 + 1)) (gset (gset (gset E 4 (nset (E 4) (F 4) mn)) 5 (nset (E 5) (F 4) w)) 6 (nset (E 6) (F 4) sp)))) H1 := wJn (w1 := bw a 1 k (nset F 4 (F 4 + 1)) (gset (gset (gset E 4 (nset (E 4) (F 4) mn)) 5 (nset (E 5) (F 4) w)) 6 (nset (E 6) (F 4) sp))) (wc := bw a 1 k F E) hP hD [1, 2, 3, 4, 5, 6, 7, 8] rfl rfl hP1 hfr
          generalize H1 = H at hP hS ⊢
          have hD : va_D (wA (ho a C ++ (bw a 1 k F E))) (ho a C ++ (bw a 1 k (nset F 4 (F 4 + 1)) (gset (gset (gset E 4 (nset (E 4) (F 4) mn)) 5 (nset (E 5) (F 4) w)) 6 (nset (E 6) (F 4) sp)))) := hD.same rfl
          refine lv_aload_n hz.1 hz.2.1 dX5_pass_62 rfl (lv_at hl 0 rfl) ?_
          refine rg (T := TX5) (N := 11) hz hinX5_pass_X5 hK hP 0 rfl rfl 0 (by decide) (List.mem_of_getElem? (i := 1) rfl) rfl (v := .ref (a 1)) rfl dX5_pass_63 ?_
          refine rg (T := TX0) (N := 12) hz hinX5_pass_X0 hK hP 1 rfl rfl 4 (by decide) (List.mem_of_getElem? (i := 2) rfl) rfl (v := .int (nI (F 4 + 1))) rfl dX5_pass_66 ?_
          refine lv_iconst (v := nI 1) hz.1 hz.2.1 dX5_pass_69 (by decide) ?_
          refine lv_isub hz.1 hz.2.1 dX5_pass_70 ?_
          refine toe (z := nI (M 32)) (by rw [e4]; exact pk_sub (a := M 32 + 1) (b := 1) (by omega)) ?_
          exact wr_iret hz hr hlk dX5_pass_71 hS (()) hP (rfl)
        · exact absurd c_44 (by omega)
      · exact absurd ((wIn_ok (by omega) (by omega) (by omega)).symm.trans c_25) (by decide)

set_option maxHeartbeats 4000000 in
set_option maxRecDepth 100000 in
theorem c5_pass_full (l_ : Launch) (D : va_G) (k : Nat → ClassId) (a : Nat → Nat) (tS : Nat) (sk sv : Nat → Nat) (C : Nat → Nat) (F : Nat → Nat) (E : Nat → Nat → Nat) (M : Nat → Nat) (mn w sp : Nat) (hR : Rb M F E) (hf : Wf M) (h1 : mn < 60) (h2 : w < M 0 - 1) (h4 : sp ≤ 3) (h3 : M 32 = 8) : Met l_ yX5_pass wsX5_pass ({ frames := 2, cells := 0, slots := 0, locals := 42 }) (va_Pc [.ref (a 0), .int (nI mn), .int (nI w), .int (nI sp)] (wH (Am tS sk sv) D k (ho a C ++ (bw a 1 k F E)))) (va_Qi (fun (r : Int32) (u : Unit) => r = -4) (fun (u : Unit) (t_ : State) => va_P D vwCl ((fun (_ : Unit) => ho a (nset C 2 (C 2 + 1)) ++ (bw a 1 k F E)) u) t_.heap) (wA (ho a C ++ (bw a 1 k F E)))) 0 0 (wA (ho a C ++ (bw a 1 k F E))) := by
  refine my_entry (cc := cX5_pass) (maxL := 4) (ret := some .int) (by decide) rfl (Nat.le_of_ble_eq_true rfl) ?_
  intro p_ e_ s_ m_ bl_ me_ c_ hz hr hlk hB ls hl
  obtain ⟨hP, hK, hD0, hy⟩ := hB
  have hD := wA.self hD0
  have hS : va_S (wA (ho a C ++ (bw a 1 k F E))) s_.heap s_.heap [] := va_S.rf
  have hl : lv_has ls 4 [(0, .ref (a 0)), (1, .int (nI mn)), (2, .int (nI w)), (3, .int (nI sp))] := hl
  have f0 := hf.n2
  have f1 := hf.n9
  have f2 := hf.fr
  have f3 := hf.gd
  have f4 := hf.pc
  have f5 := hf.wc
  have e0 : F 0 = M 0 := hR.1.1
  have e1 : F 1 = M 1 := hR.1.2.1
  have e2 : F 2 = M 2 := hR.1.2.2.1
  have e3 : F 3 = M 19 := hR.1.2.2.2.1
  have e4 : F 4 = M 32 := hR.1.2.2.2.2
  refine lv_iload_n hz.1 hz.2.1 dX5_pass_0 rfl (lv_at hl 1 rfl) ?_
  refine lv_bipush (v := nI 60) hz.1 hz.2.1 dX5_pass_1 (by decide) ?_
  refine rdS (As := [.int (nI mn), .int (nI 60)]) (rest := []) hz (c5_inRow l_ (nI mn) 60 59 (by omega) (by omega)) rfl (va_cwS 2 hz.2.2.2.2 gX5_pass_X5_inRow rfl rfl rfl (by decide +kernel) ⟨Nat.le_of_ble_eq_true rfl, Nat.le_of_ble_eq_true rfl⟩) rfl hl.1 rfl (Nat.le_of_ble_eq_true rfl) dX5_pass_3 ⟨Nat.zero_le _, Nat.zero_le _⟩ ?_
  refine zeq (tgt := 28) hz dX5_pass_6 (by decide) (fun c_6 => ?_) (fun c_6 => ?_)
  · exact absurd ((wIn_ok (by omega) (by omega) (by omega)).symm.trans c_6) (by decide)
  · refine lv_aload_n hz.1 hz.2.1 dX5_pass_9 rfl (lv_at hl 0 rfl) ?_
    refine rg (T := TX5) (N := 11) hz hinX5_pass_X5 hK hP 0 rfl rfl 0 (by decide) (List.mem_of_getElem? (i := 1) rfl) rfl (v := .ref (a 1)) rfl dX5_pass_10 ?_
    refine lv_iload_n hz.1 hz.2.1 dX5_pass_13 rfl (lv_at hl 2 rfl) ?_
    refine rdV (A := wA (ho a C ++ (bw a 1 k F E))) (As := [.int (nI w)]) (rest := []) hz (okAm tS sk sv) (c0_isWire l_ D k a 1 tS sk sv F E M (nI w) hR hf) (cwV 1 hz.2.2.2.2 gX5_pass_X0_isWire rfl rfl rfl (by decide +kernel) ⟨Nat.le_of_ble_eq_true rfl, Nat.le_of_ble_eq_true rfl⟩) hK hy (hP.sub (ws' := bw a 1 k F E) [1, 2, 3, 4, 5, 6, 7, 8] rfl) (hD.sub (ws' := bw a 1 k F E) [1, 2, 3, 4, 5, 6, 7, 8] (by decide) rfl) hS 0 0 rfl rfl rfl rfl hl.1 rfl (Nat.le_of_ble_eq_true rfl) dX5_pass_14 ⟨Nat.zero_le _, Nat.zero_le _⟩ ?_
    refine zeq (tgt := 28) hz dX5_pass_17 (by decide) (fun c_17 => ?_) (fun c_17 => ?_)
    · exact absurd ((wIn_ok (by omega) (by omega) (by omega)).symm.trans c_17) (by decide)
    · refine lv_iload_n hz.1 hz.2.1 dX5_pass_20 rfl (lv_at hl 3 rfl) ?_
      refine lv_iconst (v := nI 4) hz.1 hz.2.1 dX5_pass_21 (by decide) ?_
      refine rdS (As := [.int (nI sp), .int (nI 4)]) (rest := []) hz (c5_inRow l_ (nI sp) 4 3 (by omega) (by omega)) rfl (va_cwS 2 hz.2.2.2.2 gX5_pass_X5_inRow rfl rfl rfl (by decide +kernel) ⟨Nat.le_of_ble_eq_true rfl, Nat.le_of_ble_eq_true rfl⟩) rfl hl.1 rfl (Nat.le_of_ble_eq_true rfl) dX5_pass_22 ⟨Nat.zero_le _, Nat.zero_le _⟩ ?_
      refine zne (tgt := 35) hz dX5_pass_25 (by decide) (fun c_25 => ?_) (fun c_25 => ?_)
      · refine lv_aload_n hz.1 hz.2.1 dX5_pass_35 rfl (lv_at hl 0 rfl) ?_
        refine rg (T := TX5) (N := 11) hz hinX5_pass_X5 hK hP 0 rfl rfl 0 (by decide) (List.mem_of_getElem? (i := 1) rfl) rfl (v := .ref (a 1)) rfl dX5_pass_36 ?_
        refine rg (T := TX0) (N := 12) hz hinX5_pass_X0 hK hP 1 rfl rfl 4 (by decide) (List.mem_of_getElem? (i := 2) rfl) rfl (v := .int (nI (F 4))) rfl dX5_pass_39 ?_
        refine toe (z := nI (M 32)) (by rw [hR.1.2.2.2.2]) ?_
        refine lv_bipush (v := nI 8) hz.1 hz.2.1 dX5_pass_42 (by decide) ?_
        refine jlt (tgt := 52) hz dX5_pass_44 (by decide) (by omega) (by omega) (fun c_44 => ?_) (fun c_44 => ?_)
        · exact absurd c_44 (by omega)
        · refine lv_aload_n hz.1 hz.2.1 dX5_pass_47 rfl (lv_at hl 0 rfl) ?_
          refine wrV (A := wA (ho a C ++ (bw a 1 k F E))) (As := []) (rest := []) hz (okAm tS sk sv) (c5_full l_ D k a tS sk sv C   ) (cwV 0 hz.2.2.2.2 gX5_pass_X5_full rfl rfl rfl (by decide +kernel) ⟨Nat.le_of_ble_eq_true rfl, Nat.le_of_ble_eq_true rfl⟩) hK hy (hP.sub (ws' := ho a C) [0] rfl) (hD.sub (ws' := ho a C) [0] (by decide) rfl) hS 0 5 rfl rfl rfl rfl hl.1 rfl (Nat.le_of_ble_eq_true rfl) dX5_pass_48 ⟨Nat.zero_le _, Nat.zero_le _⟩ (fun r u H1 locs hp hP1 hS hfr => ?_)
          obtain rfl : r = -4 := hp
          have hP1 : va_P D vwCl (ho a (nset C 2 (C 2 + 1))) H1 := hP1
          have hP : va_P D vwCl (ho a (nset C 2 (C 2 + 1)) ++ (bw a 1 k F E)) H1 := wJn (w1 := ho a (nset C 2 (C 2 + 1))) (wc := ho a C) hP hD [0] rfl rfl hP1 hfr
          generalize H1 = H at hP hS ⊢
          have hD : va_D (wA (ho a C ++ (bw a 1 k F E))) (ho a (nset C 2 (C 2 + 1)) ++ (bw a 1 k F E)) := hD.same rfl
          exact wr_iret hz hr hlk dX5_pass_51 hS (()) hP (rfl)
      · exact absurd ((wIn_ok (by omega) (by omega) (by omega)).symm.trans c_25) (by decide)

theorem hinX5_undo_X5 : ∀ w ∈ wsX50, w ∈ wsX5_undo := fun _ h => List.mem_cons_of_mem _ (List.mem_append_left _ (List.mem_append_right _ h))
theorem hinX5_undo_X0 : ∀ w ∈ wsX00, w ∈ wsX5_undo := fun _ h => List.mem_cons_of_mem _ (List.mem_append_right _ h)
set_option maxHeartbeats 4000000 in
set_option maxRecDepth 100000 in
theorem c5_undo_ok (l_ : Launch) (D : va_G) (k : Nat → ClassId) (a : Nat → Nat) (tS : Nat) (sk sv : Nat → Nat) (C : Nat → Nat) (F : Nat → Nat) (E : Nat → Nat → Nat) (M : Nat → Nat)  (hR : Rb M F E) (hf : Wf M) (h : 0 < M 32) : Met l_ yX5_undo wsX5_undo ({ frames := 0, cells := 0, slots := 0, locals := 0 }) (va_Pc [.ref (a 0)] (wH (Am tS sk sv) D k (ho a C ++ (bw a 1 k F E)))) (va_Qi (fun (r : Int32) (u : Unit) => r = nI (M 32 - 1)) (fun (u : Unit) (t_ : State) => va_P D vwCl ((fun (_ : Unit) => ho a C ++ (bw a 1 k (nset F 4 (M 32 - 1)) E)) u) t_.heap) (wA (ho a C ++ (bw a 1 k F E)))) 0 0 (wA (ho a C ++ (bw a 1 k F E))) := by
  refine my_entry (cc := cX5_undo) (maxL := 1) (ret := some .int) (by decide) rfl (Nat.le_of_ble_eq_true rfl) ?_
  intro p_ e_ s_ m_ bl_ me_ c_ hz hr hlk hB ls hl
  obtain ⟨hP, hK, hD0, hy⟩ := hB
  have hD := wA.self hD0
  have hS : va_S (wA (ho a C ++ (bw a 1 k F E))) s_.heap s_.heap [] := va_S.rf
  have hl : lv_has ls 1 [(0, .ref (a 0))] := hl
  have f0 := hf.n2
  have f1 := hf.n9
  have f2 := hf.fr
  have f3 := hf.gd
  have f4 := hf.pc
  have f5 := hf.wc
  have e0 : F 0 = M 0 := hR.1.1
  have e1 : F 1 = M 1 := hR.1.2.1
  have e2 : F 2 = M 2 := hR.1.2.2.1
  have e3 : F 3 = M 19 := hR.1.2.2.2.1
  have e4 : F 4 = M 32 := hR.1.2.2.2.2
  refine lv_aload_n hz.1 hz.2.1 dX5_undo_0 rfl (lv_at hl 0 rfl) ?_
  refine rg (T := TX5) (N := 11) hz hinX5_undo_X5 hK hP 0 rfl rfl 0 (by decide) (List.mem_of_getElem? (i := 1) rfl) rfl (v := .ref (a 1)) rfl dX5_undo_1 ?_
  refine rg (T := TX0) (N := 12) hz hinX5_undo_X0 hK hP 1 rfl rfl 4 (by decide) (List.mem_of_getElem? (i := 2) rfl) rfl (v := .int (nI (F 4))) rfl dX5_undo_4 ?_
  refine toe (z := nI (M 32)) (by rw [hR.1.2.2.2.2]) ?_
  refine lv_if_gt (tgt := 15) hz.1 hz.2.1 dX5_undo_7 (by decide) (fun c_7 => ?_) (fun c_7 => ?_)
  · refine lv_aload_n hz.1 hz.2.1 dX5_undo_15 rfl (lv_at hl 0 rfl) ?_
    refine rg (T := TX5) (N := 11) hz hinX5_undo_X5 hK hP 0 rfl rfl 0 (by decide) (List.mem_of_getElem? (i := 1) rfl) rfl (v := .ref (a 1)) rfl dX5_undo_16 ?_
    refine lv_dup hz.1 hz.2.1 dX5_undo_19 rfl ?_
    refine rg (T := TX0) (N := 12) hz hinX5_undo_X0 hK hP 1 rfl rfl 4 (by decide) (List.mem_of_getElem? (i := 2) rfl) rfl (v := .int (nI (F 4))) rfl dX5_undo_20 ?_
    refine toe (z := nI (M 32)) (by rw [hR.1.2.2.2.2]) ?_
    refine lv_iconst (v := nI 1) hz.1 hz.2.1 dX5_undo_23 (by decide) ?_
    refine lv_isub hz.1 hz.2.1 dX5_undo_24 ?_
    refine toe (z := nI ((M 32) - 1)) (pk_sub (by omega)) ?_
    refine rput (v := .int (nI ((M 32) - 1))) (ty := .int) (T := TX0) (N := 12) hz hinX5_undo_X0 tyX0 tyX0_ok nmX0 hK hP hD hS 1 rfl rfl 4 (by decide) (List.mem_of_getElem? (i := 2) rfl) rfl rfl (by decide +kernel) rfl rfl (Nat.le_of_ble_eq_true rfl) dX5_undo_25 (fun H locs hP hS => ?_)
    have hP : va_P D vwCl (ho a C ++ (bw a 1 k (nset F 4 ((M 32) - 1)) E)) H := hP
    have hD : va_D (wA (ho a C ++ (bw a 1 k F E))) (ho a C ++ (bw a 1 k (nset F 4 ((M 32) - 1)) E)) := hD.same rfl
    refine lv_aload_n hz.1 hz.2.1 dX5_undo_28 rfl (lv_at hl 0 rfl) ?_
    refine rg (T := TX5) (N := 11) hz hinX5_undo_X5 hK hP 0 rfl rfl 0 (by decide) (List.mem_of_getElem? (i := 1) rfl) rfl (v := .ref (a 1)) rfl dX5_undo_29 ?_
    refine rg (T := TX0) (N := 12) hz hinX5_undo_X0 hK hP 1 rfl rfl 4 (by decide) (List.mem_of_getElem? (i := 2) rfl) rfl (v := .int (nI ((M 32) - 1))) rfl dX5_undo_32 ?_
    exact wr_iret hz hr hlk dX5_undo_35 hS (()) hP (rfl)
  · exact absurd c_7 (by simp [fa_lt, nI_toInt (show M 32 < 2147483648 by omega)]; omega)

set_option maxHeartbeats 4000000 in
set_option maxRecDepth 100000 in
theorem c5_undo_no (l_ : Launch) (D : va_G) (k : Nat → ClassId) (a : Nat → Nat) (tS : Nat) (sk sv : Nat → Nat) (C : Nat → Nat) (F : Nat → Nat) (E : Nat → Nat → Nat) (M : Nat → Nat)  (hR : Rb M F E) (hf : Wf M) (h : M 32 = 0) : Met l_ yX5_undo wsX5_undo ({ frames := 1, cells := 0, slots := 0, locals := 20 }) (va_Pc [.ref (a 0)] (wH (Am tS sk sv) D k (ho a C ++ (bw a 1 k F E)))) (va_Qi (fun (r : Int32) (u : Unit) => r = -3) (fun (u : Unit) (t_ : State) => va_P D vwCl ((fun (_ : Unit) => ho a (nset C 1 (C 1 + 1)) ++ (bw a 1 k F E)) u) t_.heap) (wA (ho a C ++ (bw a 1 k F E)))) 0 0 (wA (ho a C ++ (bw a 1 k F E))) := by
  refine my_entry (cc := cX5_undo) (maxL := 1) (ret := some .int) (by decide) rfl (Nat.le_of_ble_eq_true rfl) ?_
  intro p_ e_ s_ m_ bl_ me_ c_ hz hr hlk hB ls hl
  obtain ⟨hP, hK, hD0, hy⟩ := hB
  have hD := wA.self hD0
  have hS : va_S (wA (ho a C ++ (bw a 1 k F E))) s_.heap s_.heap [] := va_S.rf
  have hl : lv_has ls 1 [(0, .ref (a 0))] := hl
  have f0 := hf.n2
  have f1 := hf.n9
  have f2 := hf.fr
  have f3 := hf.gd
  have f4 := hf.pc
  have f5 := hf.wc
  have e0 : F 0 = M 0 := hR.1.1
  have e1 : F 1 = M 1 := hR.1.2.1
  have e2 : F 2 = M 2 := hR.1.2.2.1
  have e3 : F 3 = M 19 := hR.1.2.2.2.1
  have e4 : F 4 = M 32 := hR.1.2.2.2.2
  refine lv_aload_n hz.1 hz.2.1 dX5_undo_0 rfl (lv_at hl 0 rfl) ?_
  refine rg (T := TX5) (N := 11) hz hinX5_undo_X5 hK hP 0 rfl rfl 0 (by decide) (List.mem_of_getElem? (i := 1) rfl) rfl (v := .ref (a 1)) rfl dX5_undo_1 ?_
  refine rg (T := TX0) (N := 12) hz hinX5_undo_X0 hK hP 1 rfl rfl 4 (by decide) (List.mem_of_getElem? (i := 2) rfl) rfl (v := .int (nI (F 4))) rfl dX5_undo_4 ?_
  refine toe (z := nI (M 32)) (by rw [hR.1.2.2.2.2]) ?_
  refine lv_if_gt (tgt := 15) hz.1 hz.2.1 dX5_undo_7 (by decide) (fun c_7 => ?_) (fun c_7 => ?_)
  · exact absurd c_7 (by rw [h]; decide)
  · refine lv_aload_n hz.1 hz.2.1 dX5_undo_10 rfl (lv_at hl 0 rfl) ?_
    refine wrV (A := wA (ho a C ++ (bw a 1 k F E))) (As := []) (rest := []) hz (okAm tS sk sv) (c5_no l_ D k a tS sk sv C   ) (cwV 0 hz.2.2.2.2 gX5_undo_X5_no rfl rfl rfl (by decide +kernel) ⟨Nat.le_of_ble_eq_true rfl, Nat.le_of_ble_eq_true rfl⟩) hK hy (hP.sub (ws' := ho a C) [0] rfl) (hD.sub (ws' := ho a C) [0] (by decide) rfl) hS 0 5 rfl rfl rfl rfl hl.1 rfl (Nat.le_of_ble_eq_true rfl) dX5_undo_11 ⟨Nat.zero_le _, Nat.zero_le _⟩ (fun r u H1 locs hp hP1 hS hfr => ?_)
    obtain rfl : r = -3 := hp
    have hP1 : va_P D vwCl (ho a (nset C 1 (C 1 + 1))) H1 := hP1
    have hP : va_P D vwCl (ho a (nset C 1 (C 1 + 1)) ++ (bw a 1 k F E)) H1 := wJn (w1 := ho a (nset C 1 (C 1 + 1))) (wc := ho a C) hP hD [0] rfl rfl hP1 hfr
    generalize H1 = H at hP hS ⊢
    have hD : va_D (wA (ho a C ++ (bw a 1 k F E))) (ho a (nset C 1 (C 1 + 1)) ++ (bw a 1 k F E)) := hD.same rfl
    exact wr_iret hz hr hlk dX5_undo_14 hS (()) hP (rfl)

theorem hinX5_clear_X5 : ∀ w ∈ wsX50, w ∈ wsX5_clear := fun _ h => List.mem_cons_of_mem _ (List.mem_append_left _ (List.mem_append_right _ h))
theorem hinX5_clear_X1 : ∀ w ∈ wsX10, w ∈ wsX5_clear := fun _ h => List.mem_cons_of_mem _ (List.mem_append_right _ h)
set_option maxHeartbeats 4000000 in
set_option maxRecDepth 100000 in
theorem c5_clear (l_ : Launch) (D : va_G) (k : Nat → ClassId) (a : Nat → Nat) (tS : Nat) (sk sv : Nat → Nat) (C : Nat → Nat) (F : Nat → Nat) (E : Nat → Nat → Nat) (X : Nat → Nat) (T : Nat → Nat) (M : Nat → Nat)  (hR : Rb M F E) (hf : Wf M) : Met l_ yX5_clear wsX5_clear ({ frames := 0, cells := 0, slots := 0, locals := 0 }) (va_Pc [.ref (a 0)] (wH (Am tS sk sv) D k (ho a C ++ (bw a 1 k F E ++ (tw a k X T))))) (va_Qi (fun (r : Int32) (u : Unit) => r = nI (X 0)) (fun (u : Unit) (t_ : State) => va_P D vwCl ((fun (_ : Unit) => ho a C ++ (bw a 1 k F E ++ (tw a k (nset X 0 0) T))) u) t_.heap) (wA (ho a C ++ (bw a 1 k F E ++ (tw a k X T))))) 0 0 (wA (ho a C ++ (bw a 1 k F E ++ (tw a k X T)))) := by
  refine my_entry (cc := cX5_clear) (maxL := 2) (ret := some .int) (by decide) rfl (Nat.le_of_ble_eq_true rfl) ?_
  intro p_ e_ s_ m_ bl_ me_ c_ hz hr hlk hB ls hl
  obtain ⟨hP, hK, hD0, hy⟩ := hB
  have hD := wA.self hD0
  have hS : va_S (wA (ho a C ++ (bw a 1 k F E ++ (tw a k X T)))) s_.heap s_.heap [] := va_S.rf
  have hl : lv_has ls 2 [(0, .ref (a 0))] := hl
  have f0 := hf.n2
  have f1 := hf.n9
  have f2 := hf.fr
  have f3 := hf.gd
  have f4 := hf.pc
  have f5 := hf.wc
  have e0 : F 0 = M 0 := hR.1.1
  have e1 : F 1 = M 1 := hR.1.2.1
  have e2 : F 2 = M 2 := hR.1.2.2.1
  have e3 : F 3 = M 19 := hR.1.2.2.2.1
  have e4 : F 4 = M 32 := hR.1.2.2.2.2
  refine lv_aload_n hz.1 hz.2.1 dX5_clear_0 rfl (lv_at hl 0 rfl) ?_
  refine rg (T := TX5) (N := 11) hz hinX5_clear_X5 hK hP 0 rfl rfl 4 (by decide) (List.mem_of_getElem? (i := 1) rfl) rfl (v := .ref (a 35)) rfl dX5_clear_1 ?_
  refine rg (T := TX1) (N := 5) hz hinX5_clear_X1 hK hP 9 rfl rfl 0 (by decide) (List.mem_of_getElem? (i := 2) rfl) rfl (v := .int (nI (X 0))) rfl dX5_clear_4 ?_
  refine lv_istore_n (lv' := [(1, .int (nI (X 0))), (0, .ref (a 0))]) hz.1 hz.2.1 dX5_clear_7 rfl hl (by decide) rfl (fun ls hl => ?_)
  refine lv_aload_n hz.1 hz.2.1 dX5_clear_8 rfl (lv_at hl 1 rfl) ?_
  refine rg (T := TX5) (N := 11) hz hinX5_clear_X5 hK hP 0 rfl rfl 4 (by decide) (List.mem_of_getElem? (i := 1) rfl) rfl (v := .ref (a 35)) rfl dX5_clear_9 ?_
  refine lv_iconst (v := nI 0) hz.1 hz.2.1 dX5_clear_12 (by decide) ?_
  refine rput (v := .int (nI 0)) (ty := .int) (T := TX1) (N := 5) hz hinX5_clear_X1 tyX1 tyX1_ok nmX1 hK hP hD hS 9 rfl rfl 0 (by decide) (List.mem_of_getElem? (i := 2) rfl) rfl rfl (by decide +kernel) rfl rfl (Nat.le_of_ble_eq_true rfl) dX5_clear_13 (fun H locs hP hS => ?_)
  have hP : va_P D vwCl (ho a C ++ (bw a 1 k F E ++ (tw a k (nset X 0 0) T))) H := hP
  have hD : va_D (wA (ho a C ++ (bw a 1 k F E ++ (tw a k X T)))) (ho a C ++ (bw a 1 k F E ++ (tw a k (nset X 0 0) T))) := hD.same rfl
  refine lv_iload_n hz.1 hz.2.1 dX5_clear_16 rfl (lv_at hl 0 rfl) ?_
  exact wr_iret hz hr hlk dX5_clear_17 hS (()) hP (rfl)

theorem hinX5_sounds_X5 : ∀ w ∈ wsX50, w ∈ wsX5_sounds := fun _ h => List.mem_cons_of_mem _ (List.mem_append_left _ (List.mem_append_right _ h))
theorem hinX5_sounds_X0 : ∀ w ∈ wsX00, w ∈ wsX5_sounds := fun _ h => List.mem_cons_of_mem _ (List.mem_append_right _ h)
set_option maxHeartbeats 4000000 in
set_option maxRecDepth 100000 in
theorem c5_sounds_bad (l_ : Launch) (D : va_G) (k : Nat → ClassId) (a : Nat → Nat) (tS : Nat) (sk sv : Nat → Nat) (C : Nat → Nat) (F : Nat → Nat) (E : Nat → Nat → Nat) (M : Nat → Nat) (x1 x2 x3 : Int32) (hR : Rb M F E) (hf : Wf M) (hb : (wIn x1 0 (M 0 - 1 - 1) && wIn x2 1 3 && wIn x3 0 1) = false) : Met l_ yX5_sounds wsX5_sounds ({ frames := 2, cells := 0, slots := 0, locals := 42 }) (va_Pc [.ref (a 0), .int x1, .int x2, .int x3] (wH (Am tS sk sv) D k (ho a C ++ (bw a 1 k F E)))) (va_Qi (fun (r : Int32) (u : Unit) => r = -2) (fun (u : Unit) (t_ : State) => va_P D vwCl ((fun (_ : Unit) => ho a (nset C 0 (C 0 + 1)) ++ (bw a 1 k F E)) u) t_.heap) (wA (ho a C ++ (bw a 1 k F E)))) 0 0 (wA (ho a C ++ (bw a 1 k F E))) := by
  refine my_entry (cc := cX5_sounds) (maxL := 4) (ret := some .int) (by decide) rfl (Nat.le_of_ble_eq_true rfl) ?_
  intro p_ e_ s_ m_ bl_ me_ c_ hz hr hlk hB ls hl
  obtain ⟨hP, hK, hD0, hy⟩ := hB
  have hD := wA.self hD0
  have hS : va_S (wA (ho a C ++ (bw a 1 k F E))) s_.heap s_.heap [] := va_S.rf
  have hl : lv_has ls 4 [(0, .ref (a 0)), (1, .int x1), (2, .int x2), (3, .int x3)] := hl
  have f0 := hf.n2
  have f1 := hf.n9
  have f2 := hf.fr
  have f3 := hf.gd
  have f4 := hf.pc
  have f5 := hf.wc
  have e0 : F 0 = M 0 := hR.1.1
  have e1 : F 1 = M 1 := hR.1.2.1
  have e2 : F 2 = M 2 := hR.1.2.2.1
  have e3 : F 3 = M 19 := hR.1.2.2.2.1
  have e4 : F 4 = M 32 := hR.1.2.2.2.2
  refine lv_aload_n hz.1 hz.2.1 dX5_sounds_0 rfl (lv_at hl 0 rfl) ?_
  refine rg (T := TX5) (N := 11) hz hinX5_sounds_X5 hK hP 0 rfl rfl 0 (by decide) (List.mem_of_getElem? (i := 1) rfl) rfl (v := .ref (a 1)) rfl dX5_sounds_1 ?_
  refine lv_iload_n hz.1 hz.2.1 dX5_sounds_4 rfl (lv_at hl 1 rfl) ?_
  refine rdV (A := wA (ho a C ++ (bw a 1 k F E))) (As := [.int x1]) (rest := []) hz (okAm tS sk sv) (c0_isWire l_ D k a 1 tS sk sv F E M x1 hR hf) (cwV 1 hz.2.2.2.2 gX5_sounds_X0_isWire rfl rfl rfl (by decide +kernel) ⟨Nat.le_of_ble_eq_true rfl, Nat.le_of_ble_eq_true rfl⟩) hK hy (hP.sub (ws' := bw a 1 k F E) [1, 2, 3, 4, 5, 6, 7, 8] rfl) (hD.sub (ws' := bw a 1 k F E) [1, 2, 3, 4, 5, 6, 7, 8] (by decide) rfl) hS 0 0 rfl rfl rfl rfl hl.1 rfl (Nat.le_of_ble_eq_true rfl) dX5_sounds_5 ⟨Nat.zero_le _, Nat.zero_le _⟩ ?_
  refine zeq (tgt := 28) hz dX5_sounds_8 (by decide) (fun c_8 => ?_) (fun c_8 => ?_)
  · refine lv_aload_n hz.1 hz.2.1 dX5_sounds_28 rfl (lv_at hl 0 rfl) ?_
    refine lv_bipush (v := (-2)) hz.1 hz.2.1 dX5_sounds_29 (by decide) ?_
    refine wrV (A := wA (ho a C ++ (bw a 1 k F E))) (As := [.int (-2)]) (rest := []) hz (okAm tS sk sv) (c5_bad l_ D k a tS sk sv C  (-2) ) (cwV 1 hz.2.2.2.2 gX5_sounds_X5_bad rfl rfl rfl (by decide +kernel) ⟨Nat.le_of_ble_eq_true rfl, Nat.le_of_ble_eq_true rfl⟩) hK hy (hP.sub (ws' := ho a C) [0] rfl) (hD.sub (ws' := ho a C) [0] (by decide) rfl) hS 0 5 rfl rfl rfl rfl hl.1 rfl (Nat.le_of_ble_eq_true rfl) dX5_sounds_31 ⟨Nat.zero_le _, Nat.zero_le _⟩ (fun r u H1 locs hp hP1 hS hfr => ?_)
    obtain rfl : r = -2 := hp
    have hP1 : va_P D vwCl (ho a (nset C 0 (C 0 + 1))) H1 := hP1
    have hP : va_P D vwCl (ho a (nset C 0 (C 0 + 1)) ++ (bw a 1 k F E)) H1 := wJn (w1 := ho a (nset C 0 (C 0 + 1))) (wc := ho a C) hP hD [0] rfl rfl hP1 hfr
    generalize H1 = H at hP hS ⊢
    have hD : va_D (wA (ho a C ++ (bw a 1 k F E))) (ho a (nset C 0 (C 0 + 1)) ++ (bw a 1 k F E)) := hD.same rfl
    exact wr_iret hz hr hlk dX5_sounds_34 hS (()) hP (rfl)
  · refine lv_iload_n hz.1 hz.2.1 dX5_sounds_11 rfl (lv_at hl 2 rfl) ?_
    refine lv_iconst (v := nI 1) hz.1 hz.2.1 dX5_sounds_12 (by decide) ?_
    refine lv_iconst (v := nI 3) hz.1 hz.2.1 dX5_sounds_13 (by decide) ?_
    refine rdS (As := [.int x2, .int (nI 1), .int (nI 3)]) (rest := []) hz (c5_within l_ x2 1 3 ) rfl (va_cwS 3 hz.2.2.2.2 gX5_sounds_X5_within rfl rfl rfl (by decide +kernel) ⟨Nat.le_of_ble_eq_true rfl, Nat.le_of_ble_eq_true rfl⟩) rfl hl.1 rfl (Nat.le_of_ble_eq_true rfl) dX5_sounds_14 ⟨Nat.zero_le _, Nat.zero_le _⟩ ?_
    refine zeq (tgt := 28) hz dX5_sounds_17 (by decide) (fun c_17 => ?_) (fun c_17 => ?_)
    · refine lv_aload_n hz.1 hz.2.1 dX5_sounds_28 rfl (lv_at hl 0 rfl) ?_
      refine lv_bipush (v := (-2)) hz.1 hz.2.1 dX5_sounds_29 (by decide) ?_
      refine wrV (A := wA (ho a C ++ (bw a 1 k F E))) (As := [.int (-2)]) (rest := []) hz (okAm tS sk sv) (c5_bad l_ D k a tS sk sv C  (-2) ) (cwV 1 hz.2.2.2.2 gX5_sounds_X5_bad rfl rfl rfl (by decide +kernel) ⟨Nat.le_of_ble_eq_true rfl, Nat.le_of_ble_eq_true rfl⟩) hK hy (hP.sub (ws' := ho a C) [0] rfl) (hD.sub (ws' := ho a C) [0] (by decide) rfl) hS 0 5 rfl rfl rfl rfl hl.1 rfl (Nat.le_of_ble_eq_true rfl) dX5_sounds_31 ⟨Nat.zero_le _, Nat.zero_le _⟩ (fun r u H1 locs hp hP1 hS hfr => ?_)
      obtain rfl : r = -2 := hp
      have hP1 : va_P D vwCl (ho a (nset C 0 (C 0 + 1))) H1 := hP1
      have hP : va_P D vwCl (ho a (nset C 0 (C 0 + 1)) ++ (bw a 1 k F E)) H1 := wJn (w1 := ho a (nset C 0 (C 0 + 1))) (wc := ho a C) hP hD [0] rfl rfl hP1 hfr
      generalize H1 = H at hP hS ⊢
      have hD : va_D (wA (ho a C ++ (bw a 1 k F E))) (ho a (nset C 0 (C 0 + 1)) ++ (bw a 1 k F E)) := hD.same rfl
      exact wr_iret hz hr hlk dX5_sounds_34 hS (()) hP (rfl)
    · refine lv_iload_n hz.1 hz.2.1 dX5_sounds_20 rfl (lv_at hl 3 rfl) ?_
      refine lv_iconst (v := nI 2) hz.1 hz.2.1 dX5_sounds_21 (by decide) ?_
      refine rdS (As := [.int x3, .int (nI 2)]) (rest := []) hz (c5_inRow l_ x3 2 1 (by omega) (by omega)) rfl (va_cwS 2 hz.2.2.2.2 gX5_sounds_X5_inRow rfl rfl rfl (by decide +kernel) ⟨Nat.le_of_ble_eq_true rfl, Nat.le_of_ble_eq_true rfl⟩) rfl hl.1 rfl (Nat.le_of_ble_eq_true rfl) dX5_sounds_22 ⟨Nat.zero_le _, Nat.zero_le _⟩ ?_
      refine zne (tgt := 35) hz dX5_sounds_25 (by decide) (fun c_25 => ?_) (fun c_25 => ?_)
      · simp [c_8, c_17, c_25] at hb
      · refine lv_aload_n hz.1 hz.2.1 dX5_sounds_28 rfl (lv_at hl 0 rfl) ?_
        refine lv_bipush (v := (-2)) hz.1 hz.2.1 dX5_sounds_29 (by decide) ?_
        refine wrV (A := wA (ho a C ++ (bw a 1 k F E))) (As := [.int (-2)]) (rest := []) hz (okAm tS sk sv) (c5_bad l_ D k a tS sk sv C  (-2) ) (cwV 1 hz.2.2.2.2 gX5_sounds_X5_bad rfl rfl rfl (by decide +kernel) ⟨Nat.le_of_ble_eq_true rfl, Nat.le_of_ble_eq_true rfl⟩) hK hy (hP.sub (ws' := ho a C) [0] rfl) (hD.sub (ws' := ho a C) [0] (by decide) rfl) hS 0 5 rfl rfl rfl rfl hl.1 rfl (Nat.le_of_ble_eq_true rfl) dX5_sounds_31 ⟨Nat.zero_le _, Nat.zero_le _⟩ (fun r u H1 locs hp hP1 hS hfr => ?_)
        obtain rfl : r = -2 := hp
        have hP1 : va_P D vwCl (ho a (nset C 0 (C 0 + 1))) H1 := hP1
        have hP : va_P D vwCl (ho a (nset C 0 (C 0 + 1)) ++ (bw a 1 k F E)) H1 := wJn (w1 := ho a (nset C 0 (C 0 + 1))) (wc := ho a C) hP hD [0] rfl rfl hP1 hfr
        generalize H1 = H at hP hS ⊢
        have hD : va_D (wA (ho a C ++ (bw a 1 k F E))) (ho a (nset C 0 (C 0 + 1)) ++ (bw a 1 k F E)) := hD.same rfl
        exact wr_iret hz hr hlk dX5_sounds_34 hS (()) hP (rfl)

set_option maxHeartbeats 4000000 in
set_option maxRecDepth 100000 in
theorem c5_sounds_ok (l_ : Launch) (D : va_G) (k : Nat → ClassId) (a : Nat → Nat) (tS : Nat) (sk sv : Nat → Nat) (C : Nat → Nat) (F : Nat → Nat) (E : Nat → Nat → Nat) (M : Nat → Nat) (w s wh : Nat) (hR : Rb M F E) (hf : Wf M) (h1 : w < M 0 - 1) (hs : 1 ≤ s) (hs2 : s ≤ 3) (h3 : wh ≤ 1) : Met l_ yX5_sounds wsX5_sounds ({ frames := 2, cells := 0, slots := 0, locals := 43 }) (va_Pc [.ref (a 0), .int (nI w), .int (nI s), .int (nI wh)] (wH (Am tS sk sv) D k (ho a C ++ (bw a 1 k F E)))) (QcRead (nI (if wh = 0 then sLoud (M (3 + w)) s else sNote M w))) 0 0 (fun _ => False) := by
  refine my_entry (cc := cX5_sounds) (maxL := 4) (ret := some .int) (by decide) rfl (Nat.le_of_ble_eq_true rfl) ?_
  intro p_ e_ s_ m_ bl_ me_ c_ hz hr hlk hB ls hl
  obtain ⟨hP, hK, hD0, hy⟩ := hB
  have hD := wA.self hD0
  have hS : va_S (wA (ho a C ++ (bw a 1 k F E))) s_.heap s_.heap [] := va_S.rf
  have hl : lv_has ls 4 [(0, .ref (a 0)), (1, .int (nI w)), (2, .int (nI s)), (3, .int (nI wh))] := hl
  have f0 := hf.n2
  have f1 := hf.n9
  have f2 := hf.fr
  have f3 := hf.gd
  have f4 := hf.pc
  have f5 := hf.wc
  have e0 : F 0 = M 0 := hR.1.1
  have e1 : F 1 = M 1 := hR.1.2.1
  have e2 : F 2 = M 2 := hR.1.2.2.1
  have e3 : F 3 = M 19 := hR.1.2.2.2.1
  have e4 : F 4 = M 32 := hR.1.2.2.2.2
  refine lv_aload_n hz.1 hz.2.1 dX5_sounds_0 rfl (lv_at hl 0 rfl) ?_
  refine rg (T := TX5) (N := 11) hz hinX5_sounds_X5 hK hP 0 rfl rfl 0 (by decide) (List.mem_of_getElem? (i := 1) rfl) rfl (v := .ref (a 1)) rfl dX5_sounds_1 ?_
  refine lv_iload_n hz.1 hz.2.1 dX5_sounds_4 rfl (lv_at hl 1 rfl) ?_
  refine rdV (A := wA (ho a C ++ (bw a 1 k F E))) (As := [.int (nI w)]) (rest := []) hz (okAm tS sk sv) (c0_isWire l_ D k a 1 tS sk sv F E M (nI w) hR hf) (cwV 1 hz.2.2.2.2 gX5_sounds_X0_isWire rfl rfl rfl (by decide +kernel) ⟨Nat.le_of_ble_eq_true rfl, Nat.le_of_ble_eq_true rfl⟩) hK hy (hP.sub (ws' := bw a 1 k F E) [1, 2, 3, 4, 5, 6, 7, 8] rfl) (hD.sub (ws' := bw a 1 k F E) [1, 2, 3, 4, 5, 6, 7, 8] (by decide) rfl) hS 0 0 rfl rfl rfl rfl hl.1 rfl (Nat.le_of_ble_eq_true rfl) dX5_sounds_5 ⟨Nat.zero_le _, Nat.zero_le _⟩ ?_
  refine zeq (tgt := 28) hz dX5_sounds_8 (by decide) (fun c_8 => ?_) (fun c_8 => ?_)
  · exact absurd ((wIn_ok (by omega) (by omega) (by omega)).symm.trans c_8) (by decide)
  · refine lv_iload_n hz.1 hz.2.1 dX5_sounds_11 rfl (lv_at hl 2 rfl) ?_
    refine lv_iconst (v := nI 1) hz.1 hz.2.1 dX5_sounds_12 (by decide) ?_
    refine lv_iconst (v := nI 3) hz.1 hz.2.1 dX5_sounds_13 (by decide) ?_
    refine rdS (As := [.int (nI s), .int (nI 1), .int (nI 3)]) (rest := []) hz (c5_within l_ (nI s) 1 3 ) rfl (va_cwS 3 hz.2.2.2.2 gX5_sounds_X5_within rfl rfl rfl (by decide +kernel) ⟨Nat.le_of_ble_eq_true rfl, Nat.le_of_ble_eq_true rfl⟩) rfl hl.1 rfl (Nat.le_of_ble_eq_true rfl) dX5_sounds_14 ⟨Nat.zero_le _, Nat.zero_le _⟩ ?_
    refine zeq (tgt := 28) hz dX5_sounds_17 (by decide) (fun c_17 => ?_) (fun c_17 => ?_)
    · exact absurd ((wIn_ok (by omega) (by omega) (by omega)).symm.trans c_17) (by decide)
    · refine lv_iload_n hz.1 hz.2.1 dX5_sounds_20 rfl (lv_at hl 3 rfl) ?_
      refine lv_iconst (v := nI 2) hz.1 hz.2.1 dX5_sounds_21 (by decide) ?_
      refine rdS (As := [.int (nI wh), .int (nI 2)]) (rest := []) hz (c5_inRow l_ (nI wh) 2 1 (by omega) (by omega)) rfl (va_cwS 2 hz.2.2.2.2 gX5_sounds_X5_inRow rfl rfl rfl (by decide +kernel) ⟨Nat.le_of_ble_eq_true rfl, Nat.le_of_ble_eq_true rfl⟩) rfl hl.1 rfl (Nat.le_of_ble_eq_true rfl) dX5_sounds_22 ⟨Nat.zero_le _, Nat.zero_le _⟩ ?_
      refine zne (tgt := 35) hz dX5_sounds_25 (by decide) (fun c_25 => ?_) (fun c_25 => ?_)
      · refine lv_iload_n hz.1 hz.2.1 dX5_sounds_35 rfl (lv_at hl 3 rfl) ?_
        refine jne0 (tgt := 51) hz dX5_sounds_36 (by decide) (by omega) (fun c_36 => ?_) (fun c_36 => ?_)
        · refine lv_aload_n hz.1 hz.2.1 dX5_sounds_51 rfl (lv_at hl 0 rfl) ?_
          refine rg (T := TX5) (N := 11) hz hinX5_sounds_X5 hK hP 0 rfl rfl 0 (by decide) (List.mem_of_getElem? (i := 1) rfl) rfl (v := .ref (a 1)) rfl dX5_sounds_52 ?_
          refine lv_iload_n hz.1 hz.2.1 dX5_sounds_55 rfl (lv_at hl 1 rfl) ?_
          refine rdV (A := wA (ho a C ++ (bw a 1 k F E))) (As := [.int (nI w)]) (rest := []) hz (okAm tS sk sv) (c0_noteOf l_ D k a 1 tS sk sv F E M w hR hf (by omega)) (cwV 1 hz.2.2.2.2 gX5_sounds_X0_noteOf rfl rfl rfl (by decide +kernel) ⟨Nat.le_of_ble_eq_true rfl, Nat.le_of_ble_eq_true rfl⟩) hK hy (hP.sub (ws' := bw a 1 k F E) [1, 2, 3, 4, 5, 6, 7, 8] rfl) (hD.sub (ws' := bw a 1 k F E) [1, 2, 3, 4, 5, 6, 7, 8] (by decide) rfl) hS 0 0 rfl rfl rfl rfl hl.1 rfl (Nat.le_of_ble_eq_true rfl) dX5_sounds_56 ⟨Nat.zero_le _, Nat.zero_le _⟩ ?_
          exact rd_iret hz hr hlk dX5_sounds_59 (by simp [c_36])
        · refine lv_aload_n hz.1 hz.2.1 dX5_sounds_39 rfl (lv_at hl 0 rfl) ?_
          refine rg (T := TX5) (N := 11) hz hinX5_sounds_X5 hK hP 0 rfl rfl 0 (by decide) (List.mem_of_getElem? (i := 1) rfl) rfl (v := .ref (a 1)) rfl dX5_sounds_40 ?_
          refine lv_iload_n hz.1 hz.2.1 dX5_sounds_43 rfl (lv_at hl 1 rfl) ?_
          refine lv_iload_n hz.1 hz.2.1 dX5_sounds_44 rfl (lv_at hl 2 rfl) ?_
          refine rdV (A := wA (ho a C ++ (bw a 1 k F E))) (As := [.int (nI w), .int (nI s)]) (rest := []) hz (okAm tS sk sv) (c0_loudnessOf l_ D k a 1 tS sk sv F E M w s hR hf (by omega) (by omega) (by omega)) (cwV 2 hz.2.2.2.2 gX5_sounds_X0_loudnessOf rfl rfl rfl (by decide +kernel) ⟨Nat.le_of_ble_eq_true rfl, Nat.le_of_ble_eq_true rfl⟩) hK hy (hP.sub (ws' := bw a 1 k F E) [1, 2, 3, 4, 5, 6, 7, 8] rfl) (hD.sub (ws' := bw a 1 k F E) [1, 2, 3, 4, 5, 6, 7, 8] (by decide) rfl) hS 0 0 rfl rfl rfl rfl hl.1 rfl (Nat.le_of_ble_eq_true rfl) dX5_sounds_45 ⟨Nat.zero_le _, Nat.zero_le _⟩ ?_
          refine lv_goto (tgt := 59) hz.1 hz.2.1 dX5_sounds_48 (by decide) ?_
          exact rd_iret hz hr hlk dX5_sounds_59 (by simp [c_36])
      · exact absurd ((wIn_ok (by omega) (by omega) (by omega)).symm.trans c_25) (by decide)

theorem hinX5_away_X5 : ∀ w ∈ wsX50, w ∈ wsX5_away := fun _ h => List.mem_cons_of_mem _ (List.mem_append_left _ (List.mem_append_right _ h))
theorem hinX5_away_X0 : ∀ w ∈ wsX00, w ∈ wsX5_away := fun _ h => List.mem_cons_of_mem _ (List.mem_append_right _ h)
set_option maxHeartbeats 4000000 in
set_option maxRecDepth 100000 in
theorem c5_away_bad (l_ : Launch) (D : va_G) (k : Nat → ClassId) (a : Nat → Nat) (tS : Nat) (sk sv : Nat → Nat) (C : Nat → Nat) (F : Nat → Nat) (E : Nat → Nat → Nat) (M : Nat → Nat) (x1 x2 : Int32) (hR : Rb M F E) (hf : Wf M) (hb : (wIn x1 0 (M 0 - 1) && wIn x2 0 (M 0 - 1 - 1)) = false) : Met l_ yX5_away wsX5_away ({ frames := 2, cells := 0, slots := 0, locals := 42 }) (va_Pc [.ref (a 0), .int x1, .int x2] (wH (Am tS sk sv) D k (ho a C ++ (bw a 1 k F E)))) (va_Qi (fun (r : Int32) (u : Unit) => r = -2) (fun (u : Unit) (t_ : State) => va_P D vwCl ((fun (_ : Unit) => ho a (nset C 0 (C 0 + 1)) ++ (bw a 1 k F E)) u) t_.heap) (wA (ho a C ++ (bw a 1 k F E)))) 0 0 (wA (ho a C ++ (bw a 1 k F E))) := by
  refine my_entry (cc := cX5_away) (maxL := 3) (ret := some .int) (by decide) rfl (Nat.le_of_ble_eq_true rfl) ?_
  intro p_ e_ s_ m_ bl_ me_ c_ hz hr hlk hB ls hl
  obtain ⟨hP, hK, hD0, hy⟩ := hB
  have hD := wA.self hD0
  have hS : va_S (wA (ho a C ++ (bw a 1 k F E))) s_.heap s_.heap [] := va_S.rf
  have hl : lv_has ls 3 [(0, .ref (a 0)), (1, .int x1), (2, .int x2)] := hl
  have f0 := hf.n2
  have f1 := hf.n9
  have f2 := hf.fr
  have f3 := hf.gd
  have f4 := hf.pc
  have f5 := hf.wc
  have e0 : F 0 = M 0 := hR.1.1
  have e1 : F 1 = M 1 := hR.1.2.1
  have e2 : F 2 = M 2 := hR.1.2.2.1
  have e3 : F 3 = M 19 := hR.1.2.2.2.1
  have e4 : F 4 = M 32 := hR.1.2.2.2.2
  refine lv_aload_n hz.1 hz.2.1 dX5_away_0 rfl (lv_at hl 0 rfl) ?_
  refine rg (T := TX5) (N := 11) hz hinX5_away_X5 hK hP 0 rfl rfl 0 (by decide) (List.mem_of_getElem? (i := 1) rfl) rfl (v := .ref (a 1)) rfl dX5_away_1 ?_
  refine lv_iload_n hz.1 hz.2.1 dX5_away_4 rfl (lv_at hl 1 rfl) ?_
  refine rdV (A := wA (ho a C ++ (bw a 1 k F E))) (As := [.int x1]) (rest := []) hz (okAm tS sk sv) (c0_isPost l_ D k a 1 tS sk sv F E M x1 hR hf) (cwV 1 hz.2.2.2.2 gX5_away_X0_isPost rfl rfl rfl (by decide +kernel) ⟨Nat.le_of_ble_eq_true rfl, Nat.le_of_ble_eq_true rfl⟩) hK hy (hP.sub (ws' := bw a 1 k F E) [1, 2, 3, 4, 5, 6, 7, 8] rfl) (hD.sub (ws' := bw a 1 k F E) [1, 2, 3, 4, 5, 6, 7, 8] (by decide) rfl) hS 0 0 rfl rfl rfl rfl hl.1 rfl (Nat.le_of_ble_eq_true rfl) dX5_away_5 ⟨Nat.zero_le _, Nat.zero_le _⟩ ?_
  refine zeq (tgt := 22) hz dX5_away_8 (by decide) (fun c_8 => ?_) (fun c_8 => ?_)
  · refine lv_aload_n hz.1 hz.2.1 dX5_away_22 rfl (lv_at hl 0 rfl) ?_
    refine lv_bipush (v := (-2)) hz.1 hz.2.1 dX5_away_23 (by decide) ?_
    refine wrV (A := wA (ho a C ++ (bw a 1 k F E))) (As := [.int (-2)]) (rest := []) hz (okAm tS sk sv) (c5_bad l_ D k a tS sk sv C  (-2) ) (cwV 1 hz.2.2.2.2 gX5_away_X5_bad rfl rfl rfl (by decide +kernel) ⟨Nat.le_of_ble_eq_true rfl, Nat.le_of_ble_eq_true rfl⟩) hK hy (hP.sub (ws' := ho a C) [0] rfl) (hD.sub (ws' := ho a C) [0] (by decide) rfl) hS 0 5 rfl rfl rfl rfl hl.1 rfl (Nat.le_of_ble_eq_true rfl) dX5_away_25 ⟨Nat.zero_le _, Nat.zero_le _⟩ (fun r u H1 locs hp hP1 hS hfr => ?_)
    obtain rfl : r = -2 := hp
    have hP1 : va_P D vwCl (ho a (nset C 0 (C 0 + 1))) H1 := hP1
    have hP : va_P D vwCl (ho a (nset C 0 (C 0 + 1)) ++ (bw a 1 k F E)) H1 := wJn (w1 := ho a (nset C 0 (C 0 + 1))) (wc := ho a C) hP hD [0] rfl rfl hP1 hfr
    generalize H1 = H at hP hS ⊢
    have hD : va_D (wA (ho a C ++ (bw a 1 k F E))) (ho a (nset C 0 (C 0 + 1)) ++ (bw a 1 k F E)) := hD.same rfl
    exact wr_iret hz hr hlk dX5_away_28 hS (()) hP (rfl)
  · refine lv_aload_n hz.1 hz.2.1 dX5_away_11 rfl (lv_at hl 0 rfl) ?_
    refine rg (T := TX5) (N := 11) hz hinX5_away_X5 hK hP 0 rfl rfl 0 (by decide) (List.mem_of_getElem? (i := 1) rfl) rfl (v := .ref (a 1)) rfl dX5_away_12 ?_
    refine lv_iload_n hz.1 hz.2.1 dX5_away_15 rfl (lv_at hl 2 rfl) ?_
    refine rdV (A := wA (ho a C ++ (bw a 1 k F E))) (As := [.int x2]) (rest := []) hz (okAm tS sk sv) (c0_isWire l_ D k a 1 tS sk sv F E M x2 hR hf) (cwV 1 hz.2.2.2.2 gX5_away_X0_isWire rfl rfl rfl (by decide +kernel) ⟨Nat.le_of_ble_eq_true rfl, Nat.le_of_ble_eq_true rfl⟩) hK hy (hP.sub (ws' := bw a 1 k F E) [1, 2, 3, 4, 5, 6, 7, 8] rfl) (hD.sub (ws' := bw a 1 k F E) [1, 2, 3, 4, 5, 6, 7, 8] (by decide) rfl) hS 0 0 rfl rfl rfl rfl hl.1 rfl (Nat.le_of_ble_eq_true rfl) dX5_away_16 ⟨Nat.zero_le _, Nat.zero_le _⟩ ?_
    refine zne (tgt := 29) hz dX5_away_19 (by decide) (fun c_19 => ?_) (fun c_19 => ?_)
    · simp [c_8, c_19] at hb
    · refine lv_aload_n hz.1 hz.2.1 dX5_away_22 rfl (lv_at hl 0 rfl) ?_
      refine lv_bipush (v := (-2)) hz.1 hz.2.1 dX5_away_23 (by decide) ?_
      refine wrV (A := wA (ho a C ++ (bw a 1 k F E))) (As := [.int (-2)]) (rest := []) hz (okAm tS sk sv) (c5_bad l_ D k a tS sk sv C  (-2) ) (cwV 1 hz.2.2.2.2 gX5_away_X5_bad rfl rfl rfl (by decide +kernel) ⟨Nat.le_of_ble_eq_true rfl, Nat.le_of_ble_eq_true rfl⟩) hK hy (hP.sub (ws' := ho a C) [0] rfl) (hD.sub (ws' := ho a C) [0] (by decide) rfl) hS 0 5 rfl rfl rfl rfl hl.1 rfl (Nat.le_of_ble_eq_true rfl) dX5_away_25 ⟨Nat.zero_le _, Nat.zero_le _⟩ (fun r u H1 locs hp hP1 hS hfr => ?_)
      obtain rfl : r = -2 := hp
      have hP1 : va_P D vwCl (ho a (nset C 0 (C 0 + 1))) H1 := hP1
      have hP : va_P D vwCl (ho a (nset C 0 (C 0 + 1)) ++ (bw a 1 k F E)) H1 := wJn (w1 := ho a (nset C 0 (C 0 + 1))) (wc := ho a C) hP hD [0] rfl rfl hP1 hfr
      generalize H1 = H at hP hS ⊢
      have hD : va_D (wA (ho a C ++ (bw a 1 k F E))) (ho a (nset C 0 (C 0 + 1)) ++ (bw a 1 k F E)) := hD.same rfl
      exact wr_iret hz hr hlk dX5_away_28 hS (()) hP (rfl)

set_option maxHeartbeats 4000000 in
set_option maxRecDepth 100000 in
theorem c5_away_ok (l_ : Launch) (D : va_G) (k : Nat → ClassId) (a : Nat → Nat) (tS : Nat) (sk sv : Nat → Nat) (C : Nat → Nat) (F : Nat → Nat) (E : Nat → Nat → Nat) (M : Nat → Nat) (p w : Nat) (hR : Rb M F E) (hf : Wf M) (h0 : p < M 0) (h1 : w < M 0 - 1) : Met l_ yX5_away wsX5_away ({ frames := 2, cells := 0, slots := 0, locals := 42 }) (va_Pc [.ref (a 0), .int (nI p), .int (nI w)] (wH (Am tS sk sv) D k (ho a C ++ (bw a 1 k F E)))) (QcRead (nI (sFar p w))) 0 0 (fun _ => False) := by
  refine my_entry (cc := cX5_away) (maxL := 3) (ret := some .int) (by decide) rfl (Nat.le_of_ble_eq_true rfl) ?_
  intro p_ e_ s_ m_ bl_ me_ c_ hz hr hlk hB ls hl
  obtain ⟨hP, hK, hD0, hy⟩ := hB
  have hD := wA.self hD0
  have hS : va_S (wA (ho a C ++ (bw a 1 k F E))) s_.heap s_.heap [] := va_S.rf
  have hl : lv_has ls 3 [(0, .ref (a 0)), (1, .int (nI p)), (2, .int (nI w))] := hl
  have f0 := hf.n2
  have f1 := hf.n9
  have f2 := hf.fr
  have f3 := hf.gd
  have f4 := hf.pc
  have f5 := hf.wc
  have e0 : F 0 = M 0 := hR.1.1
  have e1 : F 1 = M 1 := hR.1.2.1
  have e2 : F 2 = M 2 := hR.1.2.2.1
  have e3 : F 3 = M 19 := hR.1.2.2.2.1
  have e4 : F 4 = M 32 := hR.1.2.2.2.2
  refine lv_aload_n hz.1 hz.2.1 dX5_away_0 rfl (lv_at hl 0 rfl) ?_
  refine rg (T := TX5) (N := 11) hz hinX5_away_X5 hK hP 0 rfl rfl 0 (by decide) (List.mem_of_getElem? (i := 1) rfl) rfl (v := .ref (a 1)) rfl dX5_away_1 ?_
  refine lv_iload_n hz.1 hz.2.1 dX5_away_4 rfl (lv_at hl 1 rfl) ?_
  refine rdV (A := wA (ho a C ++ (bw a 1 k F E))) (As := [.int (nI p)]) (rest := []) hz (okAm tS sk sv) (c0_isPost l_ D k a 1 tS sk sv F E M (nI p) hR hf) (cwV 1 hz.2.2.2.2 gX5_away_X0_isPost rfl rfl rfl (by decide +kernel) ⟨Nat.le_of_ble_eq_true rfl, Nat.le_of_ble_eq_true rfl⟩) hK hy (hP.sub (ws' := bw a 1 k F E) [1, 2, 3, 4, 5, 6, 7, 8] rfl) (hD.sub (ws' := bw a 1 k F E) [1, 2, 3, 4, 5, 6, 7, 8] (by decide) rfl) hS 0 0 rfl rfl rfl rfl hl.1 rfl (Nat.le_of_ble_eq_true rfl) dX5_away_5 ⟨Nat.zero_le _, Nat.zero_le _⟩ ?_
  refine zeq (tgt := 22) hz dX5_away_8 (by decide) (fun c_8 => ?_) (fun c_8 => ?_)
  · exact absurd ((wIn_ok (by omega) (by omega) (by omega)).symm.trans c_8) (by decide)
  · refine lv_aload_n hz.1 hz.2.1 dX5_away_11 rfl (lv_at hl 0 rfl) ?_
    refine rg (T := TX5) (N := 11) hz hinX5_away_X5 hK hP 0 rfl rfl 0 (by decide) (List.mem_of_getElem? (i := 1) rfl) rfl (v := .ref (a 1)) rfl dX5_away_12 ?_
    refine lv_iload_n hz.1 hz.2.1 dX5_away_15 rfl (lv_at hl 2 rfl) ?_
    refine rdV (A := wA (ho a C ++ (bw a 1 k F E))) (As := [.int (nI w)]) (rest := []) hz (okAm tS sk sv) (c0_isWire l_ D k a 1 tS sk sv F E M (nI w) hR hf) (cwV 1 hz.2.2.2.2 gX5_away_X0_isWire rfl rfl rfl (by decide +kernel) ⟨Nat.le_of_ble_eq_true rfl, Nat.le_of_ble_eq_true rfl⟩) hK hy (hP.sub (ws' := bw a 1 k F E) [1, 2, 3, 4, 5, 6, 7, 8] rfl) (hD.sub (ws' := bw a 1 k F E) [1, 2, 3, 4, 5, 6, 7, 8] (by decide) rfl) hS 0 0 rfl rfl rfl rfl hl.1 rfl (Nat.le_of_ble_eq_true rfl) dX5_away_16 ⟨Nat.zero_le _, Nat.zero_le _⟩ ?_
    refine zne (tgt := 29) hz dX5_away_19 (by decide) (fun c_19 => ?_) (fun c_19 => ?_)
    · refine lv_iload_n hz.1 hz.2.1 dX5_away_29 rfl (lv_at hl 1 rfl) ?_
      refine lv_iload_n hz.1 hz.2.1 dX5_away_30 rfl (lv_at hl 2 rfl) ?_
      refine jgt (tgt := 40) hz dX5_away_31 (by decide) (by omega) (by omega) (fun c_31 => ?_) (fun c_31 => ?_)
      · refine lv_iload_n hz.1 hz.2.1 dX5_away_40 rfl (lv_at hl 1 rfl) ?_
        refine lv_iload_n hz.1 hz.2.1 dX5_away_41 rfl (lv_at hl 2 rfl) ?_
        refine lv_isub hz.1 hz.2.1 dX5_away_42 ?_
        refine toe (z := nI (p - w)) (pk_sub (by omega)) ?_
        refine lv_iconst (v := nI 1) hz.1 hz.2.1 dX5_away_43 (by decide) ?_
        refine lv_isub hz.1 hz.2.1 dX5_away_44 ?_
        refine toe (z := nI ((p - w) - 1)) (pk_sub (by omega)) ?_
        exact rd_iret hz hr hlk dX5_away_45 (by simp [sFar, c_31])
      · refine lv_iload_n hz.1 hz.2.1 dX5_away_34 rfl (lv_at hl 2 rfl) ?_
        refine lv_iload_n hz.1 hz.2.1 dX5_away_35 rfl (lv_at hl 1 rfl) ?_
        refine lv_isub hz.1 hz.2.1 dX5_away_36 ?_
        refine toe (z := nI (w - p)) (pk_sub (by omega)) ?_
        refine lv_goto (tgt := 45) hz.1 hz.2.1 dX5_away_37 (by decide) ?_
        exact rd_iret hz hr hlk dX5_away_45 (by rw [sFar, if_neg (by omega)])
    · exact absurd ((wIn_ok (by omega) (by omega) (by omega)).symm.trans c_19) (by decide)

theorem hinX5_heard_X5 : ∀ w ∈ wsX50, w ∈ wsX5_heard := fun _ h => List.mem_cons_of_mem _ (List.mem_append_left _ (List.mem_append_right _ h))
theorem hinX5_heard_X0 : ∀ w ∈ wsX00, w ∈ wsX5_heard := fun _ h => List.mem_cons_of_mem _ (List.mem_append_right _ h)
set_option maxHeartbeats 4000000 in
set_option maxRecDepth 100000 in
theorem c5_heard_bad (l_ : Launch) (D : va_G) (k : Nat → ClassId) (a : Nat → Nat) (tS : Nat) (sk sv : Nat → Nat) (C : Nat → Nat) (F : Nat → Nat) (E : Nat → Nat → Nat) (M : Nat → Nat) (x1 x2 : Int32) (hR : Rb M F E) (hf : Wf M) (hb : (wIn x1 0 (M 0 - 1) && wIn x2 0 59) = false) : Met l_ yX5_heard wsX5_heard ({ frames := 2, cells := 0, slots := 0, locals := 42 }) (va_Pc [.ref (a 0), .int x1, .int x2] (wH (Am tS sk sv) D k (ho a C ++ (bw a 1 k F E)))) (va_Qi (fun (r : Int32) (u : Unit) => r = -2) (fun (u : Unit) (t_ : State) => va_P D vwCl ((fun (_ : Unit) => ho a (nset C 0 (C 0 + 1)) ++ (bw a 1 k F E)) u) t_.heap) (wA (ho a C ++ (bw a 1 k F E)))) 0 0 (wA (ho a C ++ (bw a 1 k F E))) := by
  refine my_entry (cc := cX5_heard) (maxL := 3) (ret := some .int) (by decide) rfl (Nat.le_of_ble_eq_true rfl) ?_
  intro p_ e_ s_ m_ bl_ me_ c_ hz hr hlk hB ls hl
  obtain ⟨hP, hK, hD0, hy⟩ := hB
  have hD := wA.self hD0
  have hS : va_S (wA (ho a C ++ (bw a 1 k F E))) s_.heap s_.heap [] := va_S.rf
  have hl : lv_has ls 3 [(0, .ref (a 0)), (1, .int x1), (2, .int x2)] := hl
  have f0 := hf.n2
  have f1 := hf.n9
  have f2 := hf.fr
  have f3 := hf.gd
  have f4 := hf.pc
  have f5 := hf.wc
  have e0 : F 0 = M 0 := hR.1.1
  have e1 : F 1 = M 1 := hR.1.2.1
  have e2 : F 2 = M 2 := hR.1.2.2.1
  have e3 : F 3 = M 19 := hR.1.2.2.2.1
  have e4 : F 4 = M 32 := hR.1.2.2.2.2
  refine lv_aload_n hz.1 hz.2.1 dX5_heard_0 rfl (lv_at hl 0 rfl) ?_
  refine rg (T := TX5) (N := 11) hz hinX5_heard_X5 hK hP 0 rfl rfl 0 (by decide) (List.mem_of_getElem? (i := 1) rfl) rfl (v := .ref (a 1)) rfl dX5_heard_1 ?_
  refine lv_iload_n hz.1 hz.2.1 dX5_heard_4 rfl (lv_at hl 1 rfl) ?_
  refine rdV (A := wA (ho a C ++ (bw a 1 k F E))) (As := [.int x1]) (rest := []) hz (okAm tS sk sv) (c0_isPost l_ D k a 1 tS sk sv F E M x1 hR hf) (cwV 1 hz.2.2.2.2 gX5_heard_X0_isPost rfl rfl rfl (by decide +kernel) ⟨Nat.le_of_ble_eq_true rfl, Nat.le_of_ble_eq_true rfl⟩) hK hy (hP.sub (ws' := bw a 1 k F E) [1, 2, 3, 4, 5, 6, 7, 8] rfl) (hD.sub (ws' := bw a 1 k F E) [1, 2, 3, 4, 5, 6, 7, 8] (by decide) rfl) hS 0 0 rfl rfl rfl rfl hl.1 rfl (Nat.le_of_ble_eq_true rfl) dX5_heard_5 ⟨Nat.zero_le _, Nat.zero_le _⟩ ?_
  refine zeq (tgt := 20) hz dX5_heard_8 (by decide) (fun c_8 => ?_) (fun c_8 => ?_)
  · refine lv_aload_n hz.1 hz.2.1 dX5_heard_20 rfl (lv_at hl 0 rfl) ?_
    refine lv_bipush (v := (-2)) hz.1 hz.2.1 dX5_heard_21 (by decide) ?_
    refine wrV (A := wA (ho a C ++ (bw a 1 k F E))) (As := [.int (-2)]) (rest := []) hz (okAm tS sk sv) (c5_bad l_ D k a tS sk sv C  (-2) ) (cwV 1 hz.2.2.2.2 gX5_heard_X5_bad rfl rfl rfl (by decide +kernel) ⟨Nat.le_of_ble_eq_true rfl, Nat.le_of_ble_eq_true rfl⟩) hK hy (hP.sub (ws' := ho a C) [0] rfl) (hD.sub (ws' := ho a C) [0] (by decide) rfl) hS 0 5 rfl rfl rfl rfl hl.1 rfl (Nat.le_of_ble_eq_true rfl) dX5_heard_23 ⟨Nat.zero_le _, Nat.zero_le _⟩ (fun r u H1 locs hp hP1 hS hfr => ?_)
    obtain rfl : r = -2 := hp
    have hP1 : va_P D vwCl (ho a (nset C 0 (C 0 + 1))) H1 := hP1
    have hP : va_P D vwCl (ho a (nset C 0 (C 0 + 1)) ++ (bw a 1 k F E)) H1 := wJn (w1 := ho a (nset C 0 (C 0 + 1))) (wc := ho a C) hP hD [0] rfl rfl hP1 hfr
    generalize H1 = H at hP hS ⊢
    have hD : va_D (wA (ho a C ++ (bw a 1 k F E))) (ho a (nset C 0 (C 0 + 1)) ++ (bw a 1 k F E)) := hD.same rfl
    exact wr_iret hz hr hlk dX5_heard_26 hS (()) hP (rfl)
  · refine lv_iload_n hz.1 hz.2.1 dX5_heard_11 rfl (lv_at hl 2 rfl) ?_
    refine lv_bipush (v := nI 60) hz.1 hz.2.1 dX5_heard_12 (by decide) ?_
    refine rdS (As := [.int x2, .int (nI 60)]) (rest := []) hz (c5_inRow l_ x2 60 59 (by omega) (by omega)) rfl (va_cwS 2 hz.2.2.2.2 gX5_heard_X5_inRow rfl rfl rfl (by decide +kernel) ⟨Nat.le_of_ble_eq_true rfl, Nat.le_of_ble_eq_true rfl⟩) rfl hl.1 rfl (Nat.le_of_ble_eq_true rfl) dX5_heard_14 ⟨Nat.zero_le _, Nat.zero_le _⟩ ?_
    refine zne (tgt := 27) hz dX5_heard_17 (by decide) (fun c_17 => ?_) (fun c_17 => ?_)
    · simp [c_8, c_17] at hb
    · refine lv_aload_n hz.1 hz.2.1 dX5_heard_20 rfl (lv_at hl 0 rfl) ?_
      refine lv_bipush (v := (-2)) hz.1 hz.2.1 dX5_heard_21 (by decide) ?_
      refine wrV (A := wA (ho a C ++ (bw a 1 k F E))) (As := [.int (-2)]) (rest := []) hz (okAm tS sk sv) (c5_bad l_ D k a tS sk sv C  (-2) ) (cwV 1 hz.2.2.2.2 gX5_heard_X5_bad rfl rfl rfl (by decide +kernel) ⟨Nat.le_of_ble_eq_true rfl, Nat.le_of_ble_eq_true rfl⟩) hK hy (hP.sub (ws' := ho a C) [0] rfl) (hD.sub (ws' := ho a C) [0] (by decide) rfl) hS 0 5 rfl rfl rfl rfl hl.1 rfl (Nat.le_of_ble_eq_true rfl) dX5_heard_23 ⟨Nat.zero_le _, Nat.zero_le _⟩ (fun r u H1 locs hp hP1 hS hfr => ?_)
      obtain rfl : r = -2 := hp
      have hP1 : va_P D vwCl (ho a (nset C 0 (C 0 + 1))) H1 := hP1
      have hP : va_P D vwCl (ho a (nset C 0 (C 0 + 1)) ++ (bw a 1 k F E)) H1 := wJn (w1 := ho a (nset C 0 (C 0 + 1))) (wc := ho a C) hP hD [0] rfl rfl hP1 hfr
      generalize H1 = H at hP hS ⊢
      have hD : va_D (wA (ho a C ++ (bw a 1 k F E))) (ho a (nset C 0 (C 0 + 1)) ++ (bw a 1 k F E)) := hD.same rfl
      exact wr_iret hz hr hlk dX5_heard_26 hS (()) hP (rfl)

set_option maxHeartbeats 4000000 in
set_option maxRecDepth 100000 in
theorem c5_heard_ok (l_ : Launch) (D : va_G) (k : Nat → ClassId) (a : Nat → Nat) (tS : Nat) (sk sv : Nat → Nat) (C : Nat → Nat) (F : Nat → Nat) (E : Nat → Nat → Nat) (M : Nat → Nat) (p mn : Nat) (hR : Rb M F E) (hf : Wf M) (h0 : p < M 0) (h1 : mn < 60) : Met l_ yX5_heard wsX5_heard ({ frames := 6, cells := 0, slots := 0, locals := 138 }) (va_Pc [.ref (a 0), .int (nI p), .int (nI mn)] (wH (Am tS sk sv) D k (ho a C ++ (bw a 1 k F E)))) (QcRead (nI (sHeard M p mn))) 0 0 (fun _ => False) := by
  refine my_entry (cc := cX5_heard) (maxL := 3) (ret := some .int) (by decide) rfl (Nat.le_of_ble_eq_true rfl) ?_
  intro p_ e_ s_ m_ bl_ me_ c_ hz hr hlk hB ls hl
  obtain ⟨hP, hK, hD0, hy⟩ := hB
  have hD := wA.self hD0
  have hS : va_S (wA (ho a C ++ (bw a 1 k F E))) s_.heap s_.heap [] := va_S.rf
  have hl : lv_has ls 3 [(0, .ref (a 0)), (1, .int (nI p)), (2, .int (nI mn))] := hl
  have f0 := hf.n2
  have f1 := hf.n9
  have f2 := hf.fr
  have f3 := hf.gd
  have f4 := hf.pc
  have f5 := hf.wc
  have e0 : F 0 = M 0 := hR.1.1
  have e1 : F 1 = M 1 := hR.1.2.1
  have e2 : F 2 = M 2 := hR.1.2.2.1
  have e3 : F 3 = M 19 := hR.1.2.2.2.1
  have e4 : F 4 = M 32 := hR.1.2.2.2.2
  refine lv_aload_n hz.1 hz.2.1 dX5_heard_0 rfl (lv_at hl 0 rfl) ?_
  refine rg (T := TX5) (N := 11) hz hinX5_heard_X5 hK hP 0 rfl rfl 0 (by decide) (List.mem_of_getElem? (i := 1) rfl) rfl (v := .ref (a 1)) rfl dX5_heard_1 ?_
  refine lv_iload_n hz.1 hz.2.1 dX5_heard_4 rfl (lv_at hl 1 rfl) ?_
  refine rdV (A := wA (ho a C ++ (bw a 1 k F E))) (As := [.int (nI p)]) (rest := []) hz (okAm tS sk sv) (c0_isPost l_ D k a 1 tS sk sv F E M (nI p) hR hf) (cwV 1 hz.2.2.2.2 gX5_heard_X0_isPost rfl rfl rfl (by decide +kernel) ⟨Nat.le_of_ble_eq_true rfl, Nat.le_of_ble_eq_true rfl⟩) hK hy (hP.sub (ws' := bw a 1 k F E) [1, 2, 3, 4, 5, 6, 7, 8] rfl) (hD.sub (ws' := bw a 1 k F E) [1, 2, 3, 4, 5, 6, 7, 8] (by decide) rfl) hS 0 0 rfl rfl rfl rfl hl.1 rfl (Nat.le_of_ble_eq_true rfl) dX5_heard_5 ⟨Nat.zero_le _, Nat.zero_le _⟩ ?_
  refine zeq (tgt := 20) hz dX5_heard_8 (by decide) (fun c_8 => ?_) (fun c_8 => ?_)
  · exact absurd ((wIn_ok (by omega) (by omega) (by omega)).symm.trans c_8) (by decide)
  · refine lv_iload_n hz.1 hz.2.1 dX5_heard_11 rfl (lv_at hl 2 rfl) ?_
    refine lv_bipush (v := nI 60) hz.1 hz.2.1 dX5_heard_12 (by decide) ?_
    refine rdS (As := [.int (nI mn), .int (nI 60)]) (rest := []) hz (c5_inRow l_ (nI mn) 60 59 (by omega) (by omega)) rfl (va_cwS 2 hz.2.2.2.2 gX5_heard_X5_inRow rfl rfl rfl (by decide +kernel) ⟨Nat.le_of_ble_eq_true rfl, Nat.le_of_ble_eq_true rfl⟩) rfl hl.1 rfl (Nat.le_of_ble_eq_true rfl) dX5_heard_14 ⟨Nat.zero_le _, Nat.zero_le _⟩ ?_
    refine zne (tgt := 27) hz dX5_heard_17 (by decide) (fun c_17 => ?_) (fun c_17 => ?_)
    · refine lv_aload_n hz.1 hz.2.1 dX5_heard_27 rfl (lv_at hl 0 rfl) ?_
      refine rg (T := TX5) (N := 11) hz hinX5_heard_X5 hK hP 0 rfl rfl 0 (by decide) (List.mem_of_getElem? (i := 1) rfl) rfl (v := .ref (a 1)) rfl dX5_heard_28 ?_
      refine lv_iload_n hz.1 hz.2.1 dX5_heard_31 rfl (lv_at hl 1 rfl) ?_
      refine lv_iload_n hz.1 hz.2.1 dX5_heard_32 rfl (lv_at hl 2 rfl) ?_
      refine rdV (A := wA (ho a C ++ (bw a 1 k F E))) (As := [.int (nI p), .int (nI mn)]) (rest := []) hz (okAm tS sk sv) (c0_notesAt l_ D k a 1 tS sk sv F E M p mn hR hf (by omega) (by omega)) (cwV 2 hz.2.2.2.2 gX5_heard_X0_notesAt rfl rfl rfl (by decide +kernel) ⟨Nat.le_of_ble_eq_true rfl, Nat.le_of_ble_eq_true rfl⟩) hK hy (hP.sub (ws' := bw a 1 k F E) [1, 2, 3, 4, 5, 6, 7, 8] rfl) (hD.sub (ws' := bw a 1 k F E) [1, 2, 3, 4, 5, 6, 7, 8] (by decide) rfl) hS 0 0 rfl rfl rfl rfl hl.1 rfl (Nat.le_of_ble_eq_true rfl) dX5_heard_33 ⟨Nat.zero_le _, Nat.zero_le _⟩ ?_
      exact rd_iret hz hr hlk dX5_heard_36 (rfl)
    · exact absurd ((wIn_ok (by omega) (by omega) (by omega)).symm.trans c_17) (by decide)

theorem hinX5_alarm_X5 : ∀ w ∈ wsX50, w ∈ wsX5_alarm := fun _ h => List.mem_cons_of_mem _ (List.mem_append_left _ (List.mem_append_right _ h))
theorem hinX5_alarm_X0 : ∀ w ∈ wsX00, w ∈ wsX5_alarm := fun _ h => List.mem_cons_of_mem _ (List.mem_append_right _ h)
set_option maxHeartbeats 4000000 in
set_option maxRecDepth 100000 in
theorem c5_alarm_bad (l_ : Launch) (D : va_G) (k : Nat → ClassId) (a : Nat → Nat) (tS : Nat) (sk sv : Nat → Nat) (C : Nat → Nat) (F : Nat → Nat) (E : Nat → Nat → Nat) (M : Nat → Nat) (x : Int32) (hR : Rb M F E) (hf : Wf M) (hb : wIn x 0 59 = false) : Met l_ yX5_alarm wsX5_alarm ({ frames := 1, cells := 0, slots := 0, locals := 21 }) (va_Pc [.ref (a 0), .int x] (wH (Am tS sk sv) D k (ho a C ++ (bw a 1 k F E)))) (va_Qi (fun (r : Int32) (u : Unit) => r = -2) (fun (u : Unit) (t_ : State) => va_P D vwCl ((fun (_ : Unit) => ho a (nset C 0 (C 0 + 1)) ++ (bw a 1 k F E)) u) t_.heap) (wA (ho a C ++ (bw a 1 k F E)))) 0 0 (wA (ho a C ++ (bw a 1 k F E))) := by
  refine my_entry (cc := cX5_alarm) (maxL := 4) (ret := some .int) (by decide) rfl (Nat.le_of_ble_eq_true rfl) ?_
  intro p_ e_ s_ m_ bl_ me_ c_ hz hr hlk hB ls hl
  obtain ⟨hP, hK, hD0, hy⟩ := hB
  have hD := wA.self hD0
  have hS : va_S (wA (ho a C ++ (bw a 1 k F E))) s_.heap s_.heap [] := va_S.rf
  have hl : lv_has ls 4 [(0, .ref (a 0)), (1, .int x)] := hl
  have f0 := hf.n2
  have f1 := hf.n9
  have f2 := hf.fr
  have f3 := hf.gd
  have f4 := hf.pc
  have f5 := hf.wc
  have e0 : F 0 = M 0 := hR.1.1
  have e1 : F 1 = M 1 := hR.1.2.1
  have e2 : F 2 = M 2 := hR.1.2.2.1
  have e3 : F 3 = M 19 := hR.1.2.2.2.1
  have e4 : F 4 = M 32 := hR.1.2.2.2.2
  refine lv_iload_n hz.1 hz.2.1 dX5_alarm_0 rfl (lv_at hl 1 rfl) ?_
  refine lv_bipush (v := nI 60) hz.1 hz.2.1 dX5_alarm_1 (by decide) ?_
  refine rdS (As := [.int x, .int (nI 60)]) (rest := []) hz (c5_inRow l_ x 60 59 (by omega) (by omega)) rfl (va_cwS 2 hz.2.2.2.2 gX5_alarm_X5_inRow rfl rfl rfl (by decide +kernel) ⟨Nat.le_of_ble_eq_true rfl, Nat.le_of_ble_eq_true rfl⟩) rfl hl.1 rfl (Nat.le_of_ble_eq_true rfl) dX5_alarm_3 ⟨Nat.zero_le _, Nat.zero_le _⟩ ?_
  refine zne (tgt := 16) hz dX5_alarm_6 (by decide) (fun c_6 => ?_) (fun c_6 => ?_)
  · simp [c_6] at hb
  · refine lv_aload_n hz.1 hz.2.1 dX5_alarm_9 rfl (lv_at hl 0 rfl) ?_
    refine lv_bipush (v := (-2)) hz.1 hz.2.1 dX5_alarm_10 (by decide) ?_
    refine wrV (A := wA (ho a C ++ (bw a 1 k F E))) (As := [.int (-2)]) (rest := []) hz (okAm tS sk sv) (c5_bad l_ D k a tS sk sv C  (-2) ) (cwV 1 hz.2.2.2.2 gX5_alarm_X5_bad rfl rfl rfl (by decide +kernel) ⟨Nat.le_of_ble_eq_true rfl, Nat.le_of_ble_eq_true rfl⟩) hK hy (hP.sub (ws' := ho a C) [0] rfl) (hD.sub (ws' := ho a C) [0] (by decide) rfl) hS 0 5 rfl rfl rfl rfl hl.1 rfl (Nat.le_of_ble_eq_true rfl) dX5_alarm_12 ⟨Nat.zero_le _, Nat.zero_le _⟩ (fun r u H1 locs hp hP1 hS hfr => ?_)
    obtain rfl : r = -2 := hp
    have hP1 : va_P D vwCl (ho a (nset C 0 (C 0 + 1))) H1 := hP1
    have hP : va_P D vwCl (ho a (nset C 0 (C 0 + 1)) ++ (bw a 1 k F E)) H1 := wJn (w1 := ho a (nset C 0 (C 0 + 1))) (wc := ho a C) hP hD [0] rfl rfl hP1 hfr
    generalize H1 = H at hP hS ⊢
    have hD : va_D (wA (ho a C ++ (bw a 1 k F E))) (ho a (nset C 0 (C 0 + 1)) ++ (bw a 1 k F E)) := hD.same rfl
    exact wr_iret hz hr hlk dX5_alarm_15 hS (()) hP (rfl)

set_option maxHeartbeats 4000000 in
set_option maxRecDepth 100000 in
theorem c5_alarm_ok (l_ : Launch) (D : va_G) (k : Nat → ClassId) (a : Nat → Nat) (tS : Nat) (sk sv : Nat → Nat) (C : Nat → Nat) (F : Nat → Nat) (E : Nat → Nat → Nat) (M : Nat → Nat) (mn : Nat) (hR : Rb M F E) (hf : Wf M) (h1 : mn < 60) : Met l_ yX5_alarm wsX5_alarm ({ frames := 6, cells := 0, slots := 0, locals := 138 }) (va_Pc [.ref (a 0), .int (nI mn)] (wH (Am tS sk sv) D k (ho a C ++ (bw a 1 k F E)))) (QcRead (nI (sAlarm M mn))) 0 0 (fun _ => False) := by
  refine my_entry (cc := cX5_alarm) (maxL := 4) (ret := some .int) (by decide) rfl (Nat.le_of_ble_eq_true rfl) ?_
  intro p_ e_ s_ m_ bl_ me_ c_ hz hr hlk hB ls hl
  obtain ⟨hP, hK, hD0, hy⟩ := hB
  have hD := wA.self hD0
  have hS : va_S (wA (ho a C ++ (bw a 1 k F E))) s_.heap s_.heap [] := va_S.rf
  have hl : lv_has ls 4 [(0, .ref (a 0)), (1, .int (nI mn))] := hl
  have f0 := hf.n2
  have f1 := hf.n9
  have f2 := hf.fr
  have f3 := hf.gd
  have f4 := hf.pc
  have f5 := hf.wc
  have e0 : F 0 = M 0 := hR.1.1
  have e1 : F 1 = M 1 := hR.1.2.1
  have e2 : F 2 = M 2 := hR.1.2.2.1
  have e3 : F 3 = M 19 := hR.1.2.2.2.1
  have e4 : F 4 = M 32 := hR.1.2.2.2.2
  refine lv_iload_n hz.1 hz.2.1 dX5_alarm_0 rfl (lv_at hl 1 rfl) ?_
  refine lv_bipush (v := nI 60) hz.1 hz.2.1 dX5_alarm_1 (by decide) ?_
  refine rdS (As := [.int (nI mn), .int (nI 60)]) (rest := []) hz (c5_inRow l_ (nI mn) 60 59 (by omega) (by omega)) rfl (va_cwS 2 hz.2.2.2.2 gX5_alarm_X5_inRow rfl rfl rfl (by decide +kernel) ⟨Nat.le_of_ble_eq_true rfl, Nat.le_of_ble_eq_true rfl⟩) rfl hl.1 rfl (Nat.le_of_ble_eq_true rfl) dX5_alarm_3 ⟨Nat.zero_le _, Nat.zero_le _⟩ ?_
  refine zne (tgt := 16) hz dX5_alarm_6 (by decide) (fun c_6 => ?_) (fun c_6 => ?_)
  · refine lv_iconst (v := nI 0) hz.1 hz.2.1 dX5_alarm_16 (by decide) ?_
    refine lv_istore_n (lv' := [(2, .int (nI 0)), (0, .ref (a 0)), (1, .int (nI mn))]) hz.1 hz.2.1 dX5_alarm_17 rfl hl (by decide) rfl (fun ls hl => ?_)
    refine lv_iconst (v := nI 0) hz.1 hz.2.1 dX5_alarm_18 (by decide) ?_
    refine lv_istore_n (lv' := [(3, .int (nI 0)), (2, .int (nI 0)), (0, .ref (a 0)), (1, .int (nI mn))]) hz.1 hz.2.1 dX5_alarm_19 rfl hl (by decide) rfl (fun ls hl => ?_)
    have lp_20 : ∀ (fu : Nat) (i : Nat), (i ≤ M 0) → M 0 - i < fu → ∀ ls : Array Slot, lv_has ls 4 [(0, .ref (a 0)), (1, .int (nI mn)), (2, .int (nI (fb_ct (sAlF M mn) i))), (3, .int (nI i))] → W p_ l_ e_ ({ frames := 6, cells := 0, slots := 0, locals := 138 }) s_ m_ [.ref (a 0), .int (nI mn)].toArray bl_ me_ c_ s_.heap [] 0 0 (MQ bl_ (QcRead (nI (sAlarm M mn))) [.ref (a 0), .int (nI mn)].toArray s_ 0 0 (fun _ => False)) (F0 m_ 20 ls []) := by
      intro fu
      induction fu with
      | zero => intro i hi hm; exact absurd hm (Nat.not_lt_zero _)
      | succ fu ih20 =>
        intro i hi hm ls hl
        refine lv_iload_n hz.1 hz.2.1 dX5_alarm_20 rfl (lv_at hl 3 rfl) ?_
        refine lv_aload_n hz.1 hz.2.1 dX5_alarm_21 rfl (lv_at hl 0 rfl) ?_
        refine rg (T := TX5) (N := 11) hz hinX5_alarm_X5 hK hP 0 rfl rfl 0 (by decide) (List.mem_of_getElem? (i := 1) rfl) rfl (v := .ref (a 1)) rfl dX5_alarm_22 ?_
        refine rg (T := TX0) (N := 12) hz hinX5_alarm_X0 hK hP 1 rfl rfl 0 (by decide) (List.mem_of_getElem? (i := 2) rfl) rfl (v := .int (nI (F 0))) rfl dX5_alarm_25 ?_
        refine toe (z := nI (M 0)) (by rw [hR.1.1]) ?_
        refine jge (tgt := 63) hz dX5_alarm_28 (by decide) (by omega) (by omega) (fun c_28 => ?_) (fun c_28 => ?_)
        · obtain rfl : i = M 0 := by omega
          refine lv_iload_n hz.1 hz.2.1 dX5_alarm_63 rfl (lv_at hl 2 rfl) ?_
          exact rd_iret hz hr hlk dX5_alarm_64 (rfl)
        · have hh := sHeard_lt M i mn
          refine lv_aload_n hz.1 hz.2.1 dX5_alarm_31 rfl (lv_at hl 0 rfl) ?_
          refine rg (T := TX5) (N := 11) hz hinX5_alarm_X5 hK hP 0 rfl rfl 0 (by decide) (List.mem_of_getElem? (i := 1) rfl) rfl (v := .ref (a 1)) rfl dX5_alarm_32 ?_
          refine lv_iload_n hz.1 hz.2.1 dX5_alarm_35 rfl (lv_at hl 3 rfl) ?_
          refine rdV (A := wA (ho a C ++ (bw a 1 k F E))) (As := [.int (nI i)]) (rest := []) hz (okAm tS sk sv) (c0_hasGuard l_ D k a 1 tS sk sv F E M i hR hf (by omega)) (cwV 1 hz.2.2.2.2 gX5_alarm_X0_hasGuard rfl rfl rfl (by decide +kernel) ⟨Nat.le_of_ble_eq_true rfl, Nat.le_of_ble_eq_true rfl⟩) hK hy (hP.sub (ws' := bw a 1 k F E) [1, 2, 3, 4, 5, 6, 7, 8] rfl) (hD.sub (ws' := bw a 1 k F E) [1, 2, 3, 4, 5, 6, 7, 8] (by decide) rfl) hS 0 0 rfl rfl rfl rfl hl.1 rfl (Nat.le_of_ble_eq_true rfl) dX5_alarm_36 ⟨Nat.zero_le _, Nat.zero_le _⟩ ?_
          refine zeq (tgt := 57) hz dX5_alarm_39 (by decide) (fun c_39 => ?_) (fun c_39 => ?_)
          · rw [← fb_ct0 (p := sAlF M mn) (n := i) (by simp [sAlF, c_39])] at hl
            refine lv_iinc (v := nI (i + 1)) (lv' := [(3, .int (nI (i + 1))), (0, .ref (a 0)), (1, .int (nI mn)), (2, .int (nI (fb_ct (sAlF M mn) (i + 1))))]) hz.1 hz.2.1 dX5_alarm_57 hl (k := 3) rfl (nI_add _ 1) (by decide) rfl (fun ls hl => ?_)
            refine lv_goto (tgt := 20) hz.1 hz.2.1 dX5_alarm_60 (by decide) ?_
            exact ih20 (i + 1) (by omega) (by omega) ls (lv_sub hl [1, 2, 3, 0] rfl)
          · refine lv_aload_n hz.1 hz.2.1 dX5_alarm_42 rfl (lv_at hl 0 rfl) ?_
            refine rg (T := TX5) (N := 11) hz hinX5_alarm_X5 hK hP 0 rfl rfl 0 (by decide) (List.mem_of_getElem? (i := 1) rfl) rfl (v := .ref (a 1)) rfl dX5_alarm_43 ?_
            refine lv_iload_n hz.1 hz.2.1 dX5_alarm_46 rfl (lv_at hl 3 rfl) ?_
            refine lv_iload_n hz.1 hz.2.1 dX5_alarm_47 rfl (lv_at hl 1 rfl) ?_
            refine rdV (A := wA (ho a C ++ (bw a 1 k F E))) (As := [.int (nI i), .int (nI mn)]) (rest := []) hz (okAm tS sk sv) (c0_notesAt l_ D k a 1 tS sk sv F E M i mn hR hf (by omega) (by omega)) (cwV 2 hz.2.2.2.2 gX5_alarm_X0_notesAt rfl rfl rfl (by decide +kernel) ⟨Nat.le_of_ble_eq_true rfl, Nat.le_of_ble_eq_true rfl⟩) hK hy (hP.sub (ws' := bw a 1 k F E) [1, 2, 3, 4, 5, 6, 7, 8] rfl) (hD.sub (ws' := bw a 1 k F E) [1, 2, 3, 4, 5, 6, 7, 8] (by decide) rfl) hS 0 0 rfl rfl rfl rfl hl.1 rfl (Nat.le_of_ble_eq_true rfl) dX5_alarm_48 ⟨Nat.zero_le _, Nat.zero_le _⟩ ?_
            refine jeq0 (tgt := 57) hz dX5_alarm_51 (by decide) (by omega) (fun c_51 => ?_) (fun c_51 => ?_)
            · rw [← fb_ct0 (p := sAlF M mn) (n := i) (by simp [sAlF, c_51])] at hl
              refine lv_iinc (v := nI (i + 1)) (lv' := [(3, .int (nI (i + 1))), (0, .ref (a 0)), (1, .int (nI mn)), (2, .int (nI (fb_ct (sAlF M mn) (i + 1))))]) hz.1 hz.2.1 dX5_alarm_57 hl (k := 3) rfl (nI_add _ 1) (by decide) rfl (fun ls hl => ?_)
              refine lv_goto (tgt := 20) hz.1 hz.2.1 dX5_alarm_60 (by decide) ?_
              exact ih20 (i + 1) (by omega) (by omega) ls (lv_sub hl [1, 2, 3, 0] rfl)
            · refine lv_iinc (v := nI (fb_ct (sAlF M mn) (i + 1))) (lv' := [(2, .int (nI (fb_ct (sAlF M mn) (i + 1)))), (0, .ref (a 0)), (1, .int (nI mn)), (3, .int (nI i))]) hz.1 hz.2.1 dX5_alarm_54 hl (k := 2) rfl (by rw [fb_ct1 (p := sAlF M mn) (n := i) (by simp [sAlF, c_39, c_51])]; exact nI_add _ 1) (by decide) rfl (fun ls hl => ?_)
              refine lv_iinc (v := nI (i + 1)) (lv' := [(3, .int (nI (i + 1))), (2, .int (nI (fb_ct (sAlF M mn) (i + 1)))), (0, .ref (a 0)), (1, .int (nI mn))]) hz.1 hz.2.1 dX5_alarm_57 hl (k := 3) rfl (nI_add _ 1) (by decide) rfl (fun ls hl => ?_)
              refine lv_goto (tgt := 20) hz.1 hz.2.1 dX5_alarm_60 (by decide) ?_
              exact ih20 (i + 1) (by omega) (by omega) ls (lv_sub hl [2, 3, 1, 0] rfl)
    exact lp_20 _ 0 (by omega) (Nat.lt_succ_self _) ls (lv_sub hl [2, 3, 1, 0] rfl)
  · exact absurd ((wIn_ok (by omega) (by omega) (by omega)).symm.trans c_6) (by decide)

theorem hinX5_which_X5 : ∀ w ∈ wsX50, w ∈ wsX5_which := fun _ h => List.mem_cons_of_mem _ (List.mem_append_left _ (List.mem_append_right _ h))
theorem hinX5_which_X0 : ∀ w ∈ wsX00, w ∈ wsX5_which := fun _ h => List.mem_cons_of_mem _ (List.mem_append_right _ h)
set_option maxHeartbeats 4000000 in
set_option maxRecDepth 100000 in
theorem c5_which_ok (l_ : Launch) (D : va_G) (k : Nat → ClassId) (a : Nat → Nat) (tS : Nat) (sk sv : Nat → Nat) (C : Nat → Nat) (F : Nat → Nat) (E : Nat → Nat → Nat) (M : Nat → Nat) (pa na pb nb : Nat) (x : Int32) (hR : Rb M F E) (hf : Wf M) (h0 : pa < M 0) (h1 : pb < M 0) (h2 : pa ≠ pb) (h3 : na < 4096) (h4 : nb < 4096) (hx : -1 ≤ x) : Met l_ yX5_which wsX5_which ({ frames := 5, cells := 0, slots := 0, locals := 114 }) (va_Pc [.ref (a 0), .int (nI pa), .int (nI na), .int (nI pb), .int (nI nb), .int x] (wH (Am tS sk sv) D k (ho a C ++ (bw a 1 k F E)))) (QcRead (sWhich M pa na pb nb x)) 0 0 (fun _ => False) := by
  refine my_entry (cc := cX5_which) (maxL := 9) (ret := some .int) (by decide) rfl (Nat.le_of_ble_eq_true rfl) ?_
  intro p_ e_ s_ m_ bl_ me_ c_ hz hr hlk hB ls hl
  obtain ⟨hP, hK, hD0, hy⟩ := hB
  have hD := wA.self hD0
  have hS : va_S (wA (ho a C ++ (bw a 1 k F E))) s_.heap s_.heap [] := va_S.rf
  have hl : lv_has ls 9 [(0, .ref (a 0)), (1, .int (nI pa)), (2, .int (nI na)), (3, .int (nI pb)), (4, .int (nI nb)), (5, .int x)] := hl
  have f0 := hf.n2
  have f1 := hf.n9
  have f2 := hf.fr
  have f3 := hf.gd
  have f4 := hf.pc
  have f5 := hf.wc
  have e0 : F 0 = M 0 := hR.1.1
  have e1 : F 1 = M 1 := hR.1.2.1
  have e2 : F 2 = M 2 := hR.1.2.2.1
  have e3 : F 3 = M 19 := hR.1.2.2.2.1
  have e4 : F 4 = M 32 := hR.1.2.2.2.2
  refine lv_aload_n hz.1 hz.2.1 dX5_which_0 rfl (lv_at hl 0 rfl) ?_
  refine rg (T := TX5) (N := 11) hz hinX5_which_X5 hK hP 0 rfl rfl 0 (by decide) (List.mem_of_getElem? (i := 1) rfl) rfl (v := .ref (a 1)) rfl dX5_which_1 ?_
  refine lv_iload_n hz.1 hz.2.1 dX5_which_4 rfl (lv_at hl 1 rfl) ?_
  refine rdV (A := wA (ho a C ++ (bw a 1 k F E))) (As := [.int (nI pa)]) (rest := []) hz (okAm tS sk sv) (c0_isPost l_ D k a 1 tS sk sv F E M (nI pa) hR hf) (cwV 1 hz.2.2.2.2 gX5_which_X0_isPost rfl rfl rfl (by decide +kernel) ⟨Nat.le_of_ble_eq_true rfl, Nat.le_of_ble_eq_true rfl⟩) hK hy (hP.sub (ws' := bw a 1 k F E) [1, 2, 3, 4, 5, 6, 7, 8] rfl) (hD.sub (ws' := bw a 1 k F E) [1, 2, 3, 4, 5, 6, 7, 8] (by decide) rfl) hS 0 0 rfl rfl rfl rfl hl.1 rfl (Nat.le_of_ble_eq_true rfl) dX5_which_5 ⟨Nat.zero_le _, Nat.zero_le _⟩ ?_
  refine zeq (tgt := 56) hz dX5_which_8 (by decide) (fun c_8 => ?_) (fun c_8 => ?_)
  · exact absurd ((wIn_ok (by omega) (by omega) (by omega)).symm.trans c_8) (by decide)
  · refine lv_aload_n hz.1 hz.2.1 dX5_which_11 rfl (lv_at hl 0 rfl) ?_
    refine rg (T := TX5) (N := 11) hz hinX5_which_X5 hK hP 0 rfl rfl 0 (by decide) (List.mem_of_getElem? (i := 1) rfl) rfl (v := .ref (a 1)) rfl dX5_which_12 ?_
    refine lv_iload_n hz.1 hz.2.1 dX5_which_15 rfl (lv_at hl 3 rfl) ?_
    refine rdV (A := wA (ho a C ++ (bw a 1 k F E))) (As := [.int (nI pb)]) (rest := []) hz (okAm tS sk sv) (c0_isPost l_ D k a 1 tS sk sv F E M (nI pb) hR hf) (cwV 1 hz.2.2.2.2 gX5_which_X0_isPost rfl rfl rfl (by decide +kernel) ⟨Nat.le_of_ble_eq_true rfl, Nat.le_of_ble_eq_true rfl⟩) hK hy (hP.sub (ws' := bw a 1 k F E) [1, 2, 3, 4, 5, 6, 7, 8] rfl) (hD.sub (ws' := bw a 1 k F E) [1, 2, 3, 4, 5, 6, 7, 8] (by decide) rfl) hS 0 0 rfl rfl rfl rfl hl.1 rfl (Nat.le_of_ble_eq_true rfl) dX5_which_16 ⟨Nat.zero_le _, Nat.zero_le _⟩ ?_
    refine zeq (tgt := 56) hz dX5_which_19 (by decide) (fun c_19 => ?_) (fun c_19 => ?_)
    · exact absurd ((wIn_ok (by omega) (by omega) (by omega)).symm.trans c_19) (by decide)
    · refine lv_iload_n hz.1 hz.2.1 dX5_which_22 rfl (lv_at hl 1 rfl) ?_
      refine lv_iload_n hz.1 hz.2.1 dX5_which_23 rfl (lv_at hl 3 rfl) ?_
      refine jeq (tgt := 56) hz dX5_which_24 (by decide) (by omega) (by omega) (fun c_24 => ?_) (fun c_24 => ?_)
      · exact absurd c_24 h2
      · refine lv_iload hz.1 hz.2.1 dX5_which_27 (lv_at hl 5 rfl) ?_
        refine lv_iconst (v := (-1)) hz.1 hz.2.1 dX5_which_29 (by decide) ?_
        refine lv_icmp_lt (tgt := 56) hz.1 hz.2.1 dX5_which_30 (by decide) (fun c_30 => ?_) (fun c_30 => ?_)
        · rw [fa_le] at hx; rw [fa_lt] at c_30; omega
        · refine lv_iload_n hz.1 hz.2.1 dX5_which_33 rfl (lv_at hl 2 rfl) ?_
          refine lv_iconst (v := nI 0) hz.1 hz.2.1 dX5_which_34 (by decide) ?_
          refine lv_sipush (v := nI 4095) hz.1 hz.2.1 dX5_which_35 (by decide) ?_
          refine rdS (As := [.int (nI na), .int (nI 0), .int (nI 4095)]) (rest := []) hz (c5_within l_ (nI na) 0 4095 ) rfl (va_cwS 3 hz.2.2.2.2 gX5_which_X5_within rfl rfl rfl (by decide +kernel) ⟨Nat.le_of_ble_eq_true rfl, Nat.le_of_ble_eq_true rfl⟩) rfl hl.1 rfl (Nat.le_of_ble_eq_true rfl) dX5_which_38 ⟨Nat.zero_le _, Nat.zero_le _⟩ ?_
          refine zeq (tgt := 56) hz dX5_which_41 (by decide) (fun c_41 => ?_) (fun c_41 => ?_)
          · exact absurd ((wIn_ok (by omega) (by omega) (by omega)).symm.trans c_41) (by decide)
          · refine lv_iload hz.1 hz.2.1 dX5_which_44 (lv_at hl 4 rfl) ?_
            refine lv_iconst (v := nI 0) hz.1 hz.2.1 dX5_which_46 (by decide) ?_
            refine lv_sipush (v := nI 4095) hz.1 hz.2.1 dX5_which_47 (by decide) ?_
            refine rdS (As := [.int (nI nb), .int (nI 0), .int (nI 4095)]) (rest := []) hz (c5_within l_ (nI nb) 0 4095 ) rfl (va_cwS 3 hz.2.2.2.2 gX5_which_X5_within rfl rfl rfl (by decide +kernel) ⟨Nat.le_of_ble_eq_true rfl, Nat.le_of_ble_eq_true rfl⟩) rfl hl.1 rfl (Nat.le_of_ble_eq_true rfl) dX5_which_50 ⟨Nat.zero_le _, Nat.zero_le _⟩ ?_
            refine zne (tgt := 63) hz dX5_which_53 (by decide) (fun c_53 => ?_) (fun c_53 => ?_)
            · refine lv_iconst (v := nI 0) hz.1 hz.2.1 dX5_which_63 (by decide) ?_
              refine lv_istore (lv' := [(6, .int (nI 0)), (0, .ref (a 0)), (1, .int (nI pa)), (2, .int (nI na)), (3, .int (nI pb)), (4, .int (nI nb)), (5, .int x)]) hz.1 hz.2.1 dX5_which_64 hl (by decide) rfl (fun ls hl => ?_)
              refine lv_iconst (v := nI 0) hz.1 hz.2.1 dX5_which_66 (by decide) ?_
              refine lv_istore (lv' := [(7, .int (nI 0)), (6, .int (nI 0)), (0, .ref (a 0)), (1, .int (nI pa)), (2, .int (nI na)), (3, .int (nI pb)), (4, .int (nI nb)), (5, .int x)]) hz.1 hz.2.1 dX5_which_67 hl (by decide) rfl (fun ls hl => ?_)
              have lp_69 : ∀ (fu : Nat) (w : Nat), (w ≤ M 0 - 1) → (∀ j, j < 4 * w → (sWhP M pa na pb nb) j = true → ¬ nI (fb_ct (sWhP M pa na pb nb) j) = x) → M 0 - 1 - w < fu → ∀ ls : Array Slot, lv_has ls 9 [(0, .ref (a 0)), (1, .int (nI pa)), (2, .int (nI na)), (3, .int (nI pb)), (4, .int (nI nb)), (5, .int x), (6, .int (nI (fb_ct (sWhP M pa na pb nb) (4 * w)))), (7, .int (nI w))] → W p_ l_ e_ ({ frames := 5, cells := 0, slots := 0, locals := 114 }) s_ m_ [.ref (a 0), .int (nI pa), .int (nI na), .int (nI pb), .int (nI nb), .int x].toArray bl_ me_ c_ s_.heap [] 0 0 (MQ bl_ (QcRead (sWhich M pa na pb nb x)) [.ref (a 0), .int (nI pa), .int (nI na), .int (nI pb), .int (nI nb), .int x].toArray s_ 0 0 (fun _ => False)) (F0 m_ 69 ls []) := by
                intro fu
                induction fu with
                | zero => intro w hw hno hm; exact absurd hm (Nat.not_lt_zero _)
                | succ fu ih69 =>
                  intro w hw hno hm ls hl
                  refine lv_iload hz.1 hz.2.1 dX5_which_69 (lv_at hl 7 rfl) ?_
                  refine lv_aload_n hz.1 hz.2.1 dX5_which_71 rfl (lv_at hl 0 rfl) ?_
                  refine rg (T := TX5) (N := 11) hz hinX5_which_X5 hK hP 0 rfl rfl 0 (by decide) (List.mem_of_getElem? (i := 1) rfl) rfl (v := .ref (a 1)) rfl dX5_which_72 ?_
                  refine rdV (A := wA (ho a C ++ (bw a 1 k F E))) (As := []) (rest := [.int (nI w)]) hz (okAm tS sk sv) (c0_wireCount l_ D k a 1 tS sk sv F E M  hR hf) (cwV 0 hz.2.2.2.2 gX5_which_X0_wireCount rfl rfl rfl (by decide +kernel) ⟨Nat.le_of_ble_eq_true rfl, Nat.le_of_ble_eq_true rfl⟩) hK hy (hP.sub (ws' := bw a 1 k F E) [1, 2, 3, 4, 5, 6, 7, 8] rfl) (hD.sub (ws' := bw a 1 k F E) [1, 2, 3, 4, 5, 6, 7, 8] (by decide) rfl) hS 0 0 rfl rfl rfl rfl hl.1 rfl (Nat.le_of_ble_eq_true rfl) dX5_which_75 ⟨Nat.zero_le _, Nat.zero_le _⟩ ?_
                  refine jge (tgt := 154) hz dX5_which_78 (by decide) (by omega) (by omega) (fun c_78 => ?_) (fun c_78 => ?_)
                  · obtain rfl : w = M 0 - 1 := by omega
                    refine lv_iload hz.1 hz.2.1 dX5_which_154 (lv_at hl 5 rfl) ?_
                    refine lv_iconst (v := (-1)) hz.1 hz.2.1 dX5_which_156 (by decide) ?_
                    refine lv_icmp_ne (tgt := 165) hz.1 hz.2.1 dX5_which_157 (by decide) (fun c_157 => ?_) (fun c_157 => ?_)
                    · refine lv_bipush (v := (-5)) hz.1 hz.2.1 dX5_which_165 (by decide) ?_
                      exact rd_iret hz hr hlk dX5_which_167 (by rw [sWhich, if_neg c_157, sWh_no _ hno])
                    · refine lv_iload hz.1 hz.2.1 dX5_which_160 (lv_at hl 6 rfl) ?_
                      refine lv_goto (tgt := 167) hz.1 hz.2.1 dX5_which_162 (by decide) ?_
                      exact rd_iret hz hr hlk dX5_which_167 (by rw [sWhich, if_pos c_157])
                  · refine lv_iconst (v := nI 0) hz.1 hz.2.1 dX5_which_81 (by decide) ?_
                    refine lv_istore (lv' := [(8, .int (nI 0)), (0, .ref (a 0)), (1, .int (nI pa)), (2, .int (nI na)), (3, .int (nI pb)), (4, .int (nI nb)), (5, .int x), (6, .int (nI (fb_ct (sWhP M pa na pb nb) (4 * w)))), (7, .int (nI w))]) hz.1 hz.2.1 dX5_which_82 hl (by decide) rfl (fun ls hl => ?_)
                    have lp_84 : ∀ (fu : Nat) (st : Nat), (st ≤ 4) → (∀ j, j < 4 * w + st → (sWhP M pa na pb nb) j = true → ¬ nI (fb_ct (sWhP M pa na pb nb) j) = x) → 4 - st < fu → ∀ ls : Array Slot, lv_has ls 9 [(0, .ref (a 0)), (1, .int (nI pa)), (2, .int (nI na)), (3, .int (nI pb)), (4, .int (nI nb)), (5, .int x), (6, .int (nI (fb_ct (sWhP M pa na pb nb) (4 * w + st)))), (7, .int (nI w)), (8, .int (nI st))] → W p_ l_ e_ ({ frames := 5, cells := 0, slots := 0, locals := 114 }) s_ m_ [.ref (a 0), .int (nI pa), .int (nI na), .int (nI pb), .int (nI nb), .int x].toArray bl_ me_ c_ s_.heap [] 0 0 (MQ bl_ (QcRead (sWhich M pa na pb nb x)) [.ref (a 0), .int (nI pa), .int (nI na), .int (nI pb), .int (nI nb), .int x].toArray s_ 0 0 (fun _ => False)) (F0 m_ 84 ls []) := by
                      intro fu
                      induction fu with
                      | zero => intro st hst hno hm; exact absurd hm (Nat.not_lt_zero _)
                      | succ fu ih84 =>
                        intro st hst hno hm ls hl
                        refine lv_iload hz.1 hz.2.1 dX5_which_84 (lv_at hl 8 rfl) ?_
                        refine lv_iconst (v := nI 4) hz.1 hz.2.1 dX5_which_86 (by decide) ?_
                        refine jge (tgt := 148) hz dX5_which_87 (by decide) (by omega) (by omega) (fun c_87 => ?_) (fun c_87 => ?_)
                        · obtain rfl : st = 4 := by omega
                          rw [show 4 * w + 4 = 4 * (w + 1) by omega] at hl hno
                          refine lv_iinc (v := nI (w + 1)) (lv' := [(7, .int (nI (w + 1))), (0, .ref (a 0)), (1, .int (nI pa)), (2, .int (nI na)), (3, .int (nI pb)), (4, .int (nI nb)), (5, .int x), (6, .int (nI (fb_ct (sWhP M pa na pb nb) (4 * (w + 1))))), (8, .int (nI 4))]) hz.1 hz.2.1 dX5_which_148 hl (k := 7) rfl (nI_add _ 1) (by decide) rfl (fun ls hl => ?_)
                          refine lv_goto (tgt := 69) hz.1 hz.2.1 dX5_which_151 (by decide) ?_
                          exact ih69 (w + 1) (by omega) (hno) (by omega) ls (lv_sub hl [1, 2, 3, 4, 5, 6, 7, 0] rfl)
                        · have n1 := sNotesBy_lt M pa w st
                          have n2 := sNotesBy_lt M pb w st
                          refine lv_aload_n hz.1 hz.2.1 dX5_which_90 rfl (lv_at hl 0 rfl) ?_
                          refine rg (T := TX5) (N := 11) hz hinX5_which_X5 hK hP 0 rfl rfl 0 (by decide) (List.mem_of_getElem? (i := 1) rfl) rfl (v := .ref (a 1)) rfl dX5_which_91 ?_
                          refine lv_iload_n hz.1 hz.2.1 dX5_which_94 rfl (lv_at hl 1 rfl) ?_
                          refine lv_iload hz.1 hz.2.1 dX5_which_95 (lv_at hl 7 rfl) ?_
                          refine lv_iload hz.1 hz.2.1 dX5_which_97 (lv_at hl 8 rfl) ?_
                          refine rdV (A := wA (ho a C ++ (bw a 1 k F E))) (As := [.int (nI pa), .int (nI w), .int (nI st)]) (rest := []) hz (okAm tS sk sv) (c0_stepNotes l_ D k a 1 tS sk sv F E M pa w st hR hf (by omega) (by omega) (by omega)) (cwV 3 hz.2.2.2.2 gX5_which_X0_stepNotes rfl rfl rfl (by decide +kernel) ⟨Nat.le_of_ble_eq_true rfl, Nat.le_of_ble_eq_true rfl⟩) hK hy (hP.sub (ws' := bw a 1 k F E) [1, 2, 3, 4, 5, 6, 7, 8] rfl) (hD.sub (ws' := bw a 1 k F E) [1, 2, 3, 4, 5, 6, 7, 8] (by decide) rfl) hS 0 0 rfl rfl rfl rfl hl.1 rfl (Nat.le_of_ble_eq_true rfl) dX5_which_99 ⟨Nat.zero_le _, Nat.zero_le _⟩ ?_
                          refine lv_iload_n hz.1 hz.2.1 dX5_which_102 rfl (lv_at hl 2 rfl) ?_
                          refine jne (tgt := 142) hz dX5_which_103 (by decide) (by omega) (by omega) (fun c_103 => ?_) (fun c_103 => ?_)
                          · have hPf : (sWhP M pa na pb nb) (4 * w + st) = false := by rw [sWhP_at (by omega)]; simp [c_103]
                            rw [← fb_ct0 hPf] at hl
                            refine lv_iinc (v := nI (st + 1)) (lv' := [(8, .int (nI (st + 1))), (0, .ref (a 0)), (1, .int (nI pa)), (2, .int (nI na)), (3, .int (nI pb)), (4, .int (nI nb)), (5, .int x), (6, .int (nI (fb_ct (sWhP M pa na pb nb) (4 * w + st + 1)))), (7, .int (nI w))]) hz.1 hz.2.1 dX5_which_142 hl (k := 8) rfl (nI_add _ 1) (by decide) rfl (fun ls hl => ?_)
                            refine lv_goto (tgt := 84) hz.1 hz.2.1 dX5_which_145 (by decide) ?_
                            exact ih84 (st + 1) (by omega) (fun j h1 h2 => by
                                                            by_cases q : j = 4 * w + st
                                                            · subst q; rw [hPf] at h2; cases h2
                                                            · exact hno j (by omega) h2) (by omega) ls (lv_sub hl [1, 2, 3, 4, 5, 6, 7, 8, 0] rfl)
                          · refine lv_aload_n hz.1 hz.2.1 dX5_which_106 rfl (lv_at hl 0 rfl) ?_
                            refine rg (T := TX5) (N := 11) hz hinX5_which_X5 hK hP 0 rfl rfl 0 (by decide) (List.mem_of_getElem? (i := 1) rfl) rfl (v := .ref (a 1)) rfl dX5_which_107 ?_
                            refine lv_iload_n hz.1 hz.2.1 dX5_which_110 rfl (lv_at hl 3 rfl) ?_
                            refine lv_iload hz.1 hz.2.1 dX5_which_111 (lv_at hl 7 rfl) ?_
                            refine lv_iload hz.1 hz.2.1 dX5_which_113 (lv_at hl 8 rfl) ?_
                            refine rdV (A := wA (ho a C ++ (bw a 1 k F E))) (As := [.int (nI pb), .int (nI w), .int (nI st)]) (rest := []) hz (okAm tS sk sv) (c0_stepNotes l_ D k a 1 tS sk sv F E M pb w st hR hf (by omega) (by omega) (by omega)) (cwV 3 hz.2.2.2.2 gX5_which_X0_stepNotes rfl rfl rfl (by decide +kernel) ⟨Nat.le_of_ble_eq_true rfl, Nat.le_of_ble_eq_true rfl⟩) hK hy (hP.sub (ws' := bw a 1 k F E) [1, 2, 3, 4, 5, 6, 7, 8] rfl) (hD.sub (ws' := bw a 1 k F E) [1, 2, 3, 4, 5, 6, 7, 8] (by decide) rfl) hS 0 0 rfl rfl rfl rfl hl.1 rfl (Nat.le_of_ble_eq_true rfl) dX5_which_115 ⟨Nat.zero_le _, Nat.zero_le _⟩ ?_
                            refine lv_iload hz.1 hz.2.1 dX5_which_118 (lv_at hl 4 rfl) ?_
                            refine jne (tgt := 142) hz dX5_which_120 (by decide) (by omega) (by omega) (fun c_120 => ?_) (fun c_120 => ?_)
                            · have hPf : (sWhP M pa na pb nb) (4 * w + st) = false := by rw [sWhP_at (by omega)]; simp [c_120]
                              rw [← fb_ct0 hPf] at hl
                              refine lv_iinc (v := nI (st + 1)) (lv' := [(8, .int (nI (st + 1))), (0, .ref (a 0)), (1, .int (nI pa)), (2, .int (nI na)), (3, .int (nI pb)), (4, .int (nI nb)), (5, .int x), (6, .int (nI (fb_ct (sWhP M pa na pb nb) (4 * w + st + 1)))), (7, .int (nI w))]) hz.1 hz.2.1 dX5_which_142 hl (k := 8) rfl (nI_add _ 1) (by decide) rfl (fun ls hl => ?_)
                              refine lv_goto (tgt := 84) hz.1 hz.2.1 dX5_which_145 (by decide) ?_
                              exact ih84 (st + 1) (by omega) (fun j h1 h2 => by
                                                            by_cases q : j = 4 * w + st
                                                            · subst q; rw [hPf] at h2; cases h2
                                                            · exact hno j (by omega) h2) (by omega) ls (lv_sub hl [1, 2, 3, 4, 5, 6, 7, 8, 0] rfl)
                            · have hPt : (sWhP M pa na pb nb) (4 * w + st) = true := by rw [sWhP_at (by omega)]; simp [c_103, c_120]
                              refine lv_iload hz.1 hz.2.1 dX5_which_123 (lv_at hl 6 rfl) ?_
                              refine lv_iload hz.1 hz.2.1 dX5_which_125 (lv_at hl 5 rfl) ?_
                              refine lv_icmp_ne (tgt := 139) hz.1 hz.2.1 dX5_which_127 (by decide) (fun c_127 => ?_) (fun c_127 => ?_)
                              · refine lv_iinc (v := nI (fb_ct (sWhP M pa na pb nb) (4 * w + st + 1))) (lv' := [(6, .int (nI (fb_ct (sWhP M pa na pb nb) (4 * w + st + 1)))), (0, .ref (a 0)), (1, .int (nI pa)), (2, .int (nI na)), (3, .int (nI pb)), (4, .int (nI nb)), (5, .int x), (7, .int (nI w)), (8, .int (nI st))]) hz.1 hz.2.1 dX5_which_139 hl (k := 6) rfl (by rw [fb_ct1 hPt]; exact nI_add _ 1) (by decide) rfl (fun ls hl => ?_)
                                refine lv_iinc (v := nI (st + 1)) (lv' := [(8, .int (nI (st + 1))), (6, .int (nI (fb_ct (sWhP M pa na pb nb) (4 * w + st + 1)))), (0, .ref (a 0)), (1, .int (nI pa)), (2, .int (nI na)), (3, .int (nI pb)), (4, .int (nI nb)), (5, .int x), (7, .int (nI w))]) hz.1 hz.2.1 dX5_which_142 hl (k := 8) rfl (nI_add _ 1) (by decide) rfl (fun ls hl => ?_)
                                refine lv_goto (tgt := 84) hz.1 hz.2.1 dX5_which_145 (by decide) ?_
                                exact ih84 (st + 1) (by omega) (fun j h1 h2 => by
                                                            by_cases q : j = 4 * w + st
                                                            · subst q; exact fun q => c_127 q
                                                            · exact hno j (by omega) h2) (by omega) ls (lv_sub hl [2, 3, 4, 5, 6, 7, 1, 8, 0] rfl)
                              · refine lv_bipush (v := nI 10) hz.1 hz.2.1 dX5_which_130 (by decide) ?_
                                refine lv_iload hz.1 hz.2.1 dX5_which_132 (lv_at hl 7 rfl) ?_
                                refine lv_imul hz.1 hz.2.1 dX5_which_134 ?_
                                refine toe (z := nI (10 * w)) (pk_mul _ _) ?_
                                refine lv_iload hz.1 hz.2.1 dX5_which_135 (lv_at hl 8 rfl) ?_
                                refine lv_iadd hz.1 hz.2.1 dX5_which_137 ?_
                                refine toe (z := nI ((10 * w) + st)) (nI_add _ _) ?_
                                exact rd_iret hz hr hlk dX5_which_138 (by have hne : ¬ x = -1 := fun q => nI_neg1 (by have := fb_ct_le (sWhP M pa na pb nb) (4 * w + st); omega) (c_127.trans q); rw [sWhich, if_neg hne, show 4 * (M 0 - 1) = 4 * w + st + 1 + (4 * (M 0 - 1) - (4 * w + st + 1)) by omega, sWh_hit hPt c_127 _ (by omega), show (4 * w + st) / 4 = w by omega, show (4 * w + st) % 4 = st by omega])
                    exact lp_84 _ 0 (by omega) (hno) (Nat.lt_succ_self _) ls (lv_sub hl [1, 2, 3, 4, 5, 6, 7, 8, 0] rfl)
              exact lp_69 _ 0 (by omega) (fun j hj => absurd hj (by omega)) (Nat.lt_succ_self _) ls (lv_sub hl [2, 3, 4, 5, 6, 7, 1, 0] rfl)
            · exact absurd ((wIn_ok (by omega) (by omega) (by omega)).symm.trans c_53) (by decide)

set_option maxHeartbeats 4000000 in
set_option maxRecDepth 100000 in
theorem c5_which_bad (l_ : Launch) (D : va_G) (k : Nat → ClassId) (a : Nat → Nat) (tS : Nat) (sk sv : Nat → Nat) (C : Nat → Nat) (F : Nat → Nat) (E : Nat → Nat → Nat) (M : Nat → Nat) (xa xh xb xk xi : Int32) (hR : Rb M F E) (hf : Wf M) (hb : (wIn xa 0 (M 0 - 1) && wIn xb 0 (M 0 - 1) && !decide (xa = xb) && wIn xh 0 4095 && wIn xk 0 4095 && decide (-1 ≤ xi)) = false) : Met l_ yX5_which wsX5_which ({ frames := 2, cells := 0, slots := 0, locals := 42 }) (va_Pc [.ref (a 0), .int xa, .int xh, .int xb, .int xk, .int xi] (wH (Am tS sk sv) D k (ho a C ++ (bw a 1 k F E)))) (va_Qi (fun (r : Int32) (u : Unit) => r = -10) (fun (u : Unit) (t_ : State) => va_P D vwCl ((fun (_ : Unit) => ho a (nset C 0 (C 0 + 1)) ++ (bw a 1 k F E)) u) t_.heap) (wA (ho a C ++ (bw a 1 k F E)))) 0 0 (wA (ho a C ++ (bw a 1 k F E))) := by
  refine my_entry (cc := cX5_which) (maxL := 9) (ret := some .int) (by decide) rfl (Nat.le_of_ble_eq_true rfl) ?_
  intro p_ e_ s_ m_ bl_ me_ c_ hz hr hlk hB ls hl
  obtain ⟨hP, hK, hD0, hy⟩ := hB
  have hD := wA.self hD0
  have hS : va_S (wA (ho a C ++ (bw a 1 k F E))) s_.heap s_.heap [] := va_S.rf
  have hl : lv_has ls 9 [(0, .ref (a 0)), (1, .int xa), (2, .int xh), (3, .int xb), (4, .int xk), (5, .int xi)] := hl
  have f0 := hf.n2
  have f1 := hf.n9
  have f2 := hf.fr
  have f3 := hf.gd
  have f4 := hf.pc
  have f5 := hf.wc
  have e0 : F 0 = M 0 := hR.1.1
  have e1 : F 1 = M 1 := hR.1.2.1
  have e2 : F 2 = M 2 := hR.1.2.2.1
  have e3 : F 3 = M 19 := hR.1.2.2.2.1
  have e4 : F 4 = M 32 := hR.1.2.2.2.2
  refine lv_aload_n hz.1 hz.2.1 dX5_which_0 rfl (lv_at hl 0 rfl) ?_
  refine rg (T := TX5) (N := 11) hz hinX5_which_X5 hK hP 0 rfl rfl 0 (by decide) (List.mem_of_getElem? (i := 1) rfl) rfl (v := .ref (a 1)) rfl dX5_which_1 ?_
  refine lv_iload_n hz.1 hz.2.1 dX5_which_4 rfl (lv_at hl 1 rfl) ?_
  refine rdV (A := wA (ho a C ++ (bw a 1 k F E))) (As := [.int xa]) (rest := []) hz (okAm tS sk sv) (c0_isPost l_ D k a 1 tS sk sv F E M xa hR hf) (cwV 1 hz.2.2.2.2 gX5_which_X0_isPost rfl rfl rfl (by decide +kernel) ⟨Nat.le_of_ble_eq_true rfl, Nat.le_of_ble_eq_true rfl⟩) hK hy (hP.sub (ws' := bw a 1 k F E) [1, 2, 3, 4, 5, 6, 7, 8] rfl) (hD.sub (ws' := bw a 1 k F E) [1, 2, 3, 4, 5, 6, 7, 8] (by decide) rfl) hS 0 0 rfl rfl rfl rfl hl.1 rfl (Nat.le_of_ble_eq_true rfl) dX5_which_5 ⟨Nat.zero_le _, Nat.zero_le _⟩ ?_
  refine zeq (tgt := 56) hz dX5_which_8 (by decide) (fun c_8 => ?_) (fun c_8 => ?_)
  · refine lv_aload_n hz.1 hz.2.1 dX5_which_56 rfl (lv_at hl 0 rfl) ?_
    refine lv_bipush (v := (-10)) hz.1 hz.2.1 dX5_which_57 (by decide) ?_
    refine wrV (A := wA (ho a C ++ (bw a 1 k F E))) (As := [.int (-10)]) (rest := []) hz (okAm tS sk sv) (c5_bad l_ D k a tS sk sv C  (-10) ) (cwV 1 hz.2.2.2.2 gX5_which_X5_bad rfl rfl rfl (by decide +kernel) ⟨Nat.le_of_ble_eq_true rfl, Nat.le_of_ble_eq_true rfl⟩) hK hy (hP.sub (ws' := ho a C) [0] rfl) (hD.sub (ws' := ho a C) [0] (by decide) rfl) hS 0 5 rfl rfl rfl rfl hl.1 rfl (Nat.le_of_ble_eq_true rfl) dX5_which_59 ⟨Nat.zero_le _, Nat.zero_le _⟩ (fun r u H1 locs hp hP1 hS hfr => ?_)
    obtain rfl : r = -10 := hp
    have hP1 : va_P D vwCl (ho a (nset C 0 (C 0 + 1))) H1 := hP1
    have hP : va_P D vwCl (ho a (nset C 0 (C 0 + 1)) ++ (bw a 1 k F E)) H1 := wJn (w1 := ho a (nset C 0 (C 0 + 1))) (wc := ho a C) hP hD [0] rfl rfl hP1 hfr
    generalize H1 = H at hP hS ⊢
    have hD : va_D (wA (ho a C ++ (bw a 1 k F E))) (ho a (nset C 0 (C 0 + 1)) ++ (bw a 1 k F E)) := hD.same rfl
    exact wr_iret hz hr hlk dX5_which_62 hS (()) hP (rfl)
  · refine lv_aload_n hz.1 hz.2.1 dX5_which_11 rfl (lv_at hl 0 rfl) ?_
    refine rg (T := TX5) (N := 11) hz hinX5_which_X5 hK hP 0 rfl rfl 0 (by decide) (List.mem_of_getElem? (i := 1) rfl) rfl (v := .ref (a 1)) rfl dX5_which_12 ?_
    refine lv_iload_n hz.1 hz.2.1 dX5_which_15 rfl (lv_at hl 3 rfl) ?_
    refine rdV (A := wA (ho a C ++ (bw a 1 k F E))) (As := [.int xb]) (rest := []) hz (okAm tS sk sv) (c0_isPost l_ D k a 1 tS sk sv F E M xb hR hf) (cwV 1 hz.2.2.2.2 gX5_which_X0_isPost rfl rfl rfl (by decide +kernel) ⟨Nat.le_of_ble_eq_true rfl, Nat.le_of_ble_eq_true rfl⟩) hK hy (hP.sub (ws' := bw a 1 k F E) [1, 2, 3, 4, 5, 6, 7, 8] rfl) (hD.sub (ws' := bw a 1 k F E) [1, 2, 3, 4, 5, 6, 7, 8] (by decide) rfl) hS 0 0 rfl rfl rfl rfl hl.1 rfl (Nat.le_of_ble_eq_true rfl) dX5_which_16 ⟨Nat.zero_le _, Nat.zero_le _⟩ ?_
    refine zeq (tgt := 56) hz dX5_which_19 (by decide) (fun c_19 => ?_) (fun c_19 => ?_)
    · refine lv_aload_n hz.1 hz.2.1 dX5_which_56 rfl (lv_at hl 0 rfl) ?_
      refine lv_bipush (v := (-10)) hz.1 hz.2.1 dX5_which_57 (by decide) ?_
      refine wrV (A := wA (ho a C ++ (bw a 1 k F E))) (As := [.int (-10)]) (rest := []) hz (okAm tS sk sv) (c5_bad l_ D k a tS sk sv C  (-10) ) (cwV 1 hz.2.2.2.2 gX5_which_X5_bad rfl rfl rfl (by decide +kernel) ⟨Nat.le_of_ble_eq_true rfl, Nat.le_of_ble_eq_true rfl⟩) hK hy (hP.sub (ws' := ho a C) [0] rfl) (hD.sub (ws' := ho a C) [0] (by decide) rfl) hS 0 5 rfl rfl rfl rfl hl.1 rfl (Nat.le_of_ble_eq_true rfl) dX5_which_59 ⟨Nat.zero_le _, Nat.zero_le _⟩ (fun r u H1 locs hp hP1 hS hfr => ?_)
      obtain rfl : r = -10 := hp
      have hP1 : va_P D vwCl (ho a (nset C 0 (C 0 + 1))) H1 := hP1
      have hP : va_P D vwCl (ho a (nset C 0 (C 0 + 1)) ++ (bw a 1 k F E)) H1 := wJn (w1 := ho a (nset C 0 (C 0 + 1))) (wc := ho a C) hP hD [0] rfl rfl hP1 hfr
      generalize H1 = H at hP hS ⊢
      have hD : va_D (wA (ho a C ++ (bw a 1 k F E))) (ho a (nset C 0 (C 0 + 1)) ++ (bw a 1 k F E)) := hD.same rfl
      exact wr_iret hz hr hlk dX5_which_62 hS (()) hP (rfl)
    · refine lv_iload_n hz.1 hz.2.1 dX5_which_22 rfl (lv_at hl 1 rfl) ?_
      refine lv_iload_n hz.1 hz.2.1 dX5_which_23 rfl (lv_at hl 3 rfl) ?_
      refine lv_icmp_eq (tgt := 56) hz.1 hz.2.1 dX5_which_24 (by decide) (fun c_24 => ?_) (fun c_24 => ?_)
      · refine lv_aload_n hz.1 hz.2.1 dX5_which_56 rfl (lv_at hl 0 rfl) ?_
        refine lv_bipush (v := (-10)) hz.1 hz.2.1 dX5_which_57 (by decide) ?_
        refine wrV (A := wA (ho a C ++ (bw a 1 k F E))) (As := [.int (-10)]) (rest := []) hz (okAm tS sk sv) (c5_bad l_ D k a tS sk sv C  (-10) ) (cwV 1 hz.2.2.2.2 gX5_which_X5_bad rfl rfl rfl (by decide +kernel) ⟨Nat.le_of_ble_eq_true rfl, Nat.le_of_ble_eq_true rfl⟩) hK hy (hP.sub (ws' := ho a C) [0] rfl) (hD.sub (ws' := ho a C) [0] (by decide) rfl) hS 0 5 rfl rfl rfl rfl hl.1 rfl (Nat.le_of_ble_eq_true rfl) dX5_which_59 ⟨Nat.zero_le _, Nat.zero_le _⟩ (fun r u H1 locs hp hP1 hS hfr => ?_)
        obtain rfl : r = -10 := hp
        have hP1 : va_P D vwCl (ho a (nset C 0 (C 0 + 1))) H1 := hP1
        have hP : va_P D vwCl (ho a (nset C 0 (C 0 + 1)) ++ (bw a 1 k F E)) H1 := wJn (w1 := ho a (nset C 0 (C 0 + 1))) (wc := ho a C) hP hD [0] rfl rfl hP1 hfr
        generalize H1 = H at hP hS ⊢
        have hD : va_D (wA (ho a C ++ (bw a 1 k F E))) (ho a (nset C 0 (C 0 + 1)) ++ (bw a 1 k F E)) := hD.same rfl
        exact wr_iret hz hr hlk dX5_which_62 hS (()) hP (rfl)
      · refine lv_iload hz.1 hz.2.1 dX5_which_27 (lv_at hl 5 rfl) ?_
        refine lv_iconst (v := (-1)) hz.1 hz.2.1 dX5_which_29 (by decide) ?_
        refine lv_icmp_lt (tgt := 56) hz.1 hz.2.1 dX5_which_30 (by decide) (fun c_30 => ?_) (fun c_30 => ?_)
        · refine lv_aload_n hz.1 hz.2.1 dX5_which_56 rfl (lv_at hl 0 rfl) ?_
          refine lv_bipush (v := (-10)) hz.1 hz.2.1 dX5_which_57 (by decide) ?_
          refine wrV (A := wA (ho a C ++ (bw a 1 k F E))) (As := [.int (-10)]) (rest := []) hz (okAm tS sk sv) (c5_bad l_ D k a tS sk sv C  (-10) ) (cwV 1 hz.2.2.2.2 gX5_which_X5_bad rfl rfl rfl (by decide +kernel) ⟨Nat.le_of_ble_eq_true rfl, Nat.le_of_ble_eq_true rfl⟩) hK hy (hP.sub (ws' := ho a C) [0] rfl) (hD.sub (ws' := ho a C) [0] (by decide) rfl) hS 0 5 rfl rfl rfl rfl hl.1 rfl (Nat.le_of_ble_eq_true rfl) dX5_which_59 ⟨Nat.zero_le _, Nat.zero_le _⟩ (fun r u H1 locs hp hP1 hS hfr => ?_)
          obtain rfl : r = -10 := hp
          have hP1 : va_P D vwCl (ho a (nset C 0 (C 0 + 1))) H1 := hP1
          have hP : va_P D vwCl (ho a (nset C 0 (C 0 + 1)) ++ (bw a 1 k F E)) H1 := wJn (w1 := ho a (nset C 0 (C 0 + 1))) (wc := ho a C) hP hD [0] rfl rfl hP1 hfr
          generalize H1 = H at hP hS ⊢
          have hD : va_D (wA (ho a C ++ (bw a 1 k F E))) (ho a (nset C 0 (C 0 + 1)) ++ (bw a 1 k F E)) := hD.same rfl
          exact wr_iret hz hr hlk dX5_which_62 hS (()) hP (rfl)
        · refine lv_iload_n hz.1 hz.2.1 dX5_which_33 rfl (lv_at hl 2 rfl) ?_
          refine lv_iconst (v := nI 0) hz.1 hz.2.1 dX5_which_34 (by decide) ?_
          refine lv_sipush (v := nI 4095) hz.1 hz.2.1 dX5_which_35 (by decide) ?_
          refine rdS (As := [.int xh, .int (nI 0), .int (nI 4095)]) (rest := []) hz (c5_within l_ xh 0 4095 ) rfl (va_cwS 3 hz.2.2.2.2 gX5_which_X5_within rfl rfl rfl (by decide +kernel) ⟨Nat.le_of_ble_eq_true rfl, Nat.le_of_ble_eq_true rfl⟩) rfl hl.1 rfl (Nat.le_of_ble_eq_true rfl) dX5_which_38 ⟨Nat.zero_le _, Nat.zero_le _⟩ ?_
          refine zeq (tgt := 56) hz dX5_which_41 (by decide) (fun c_41 => ?_) (fun c_41 => ?_)
          · refine lv_aload_n hz.1 hz.2.1 dX5_which_56 rfl (lv_at hl 0 rfl) ?_
            refine lv_bipush (v := (-10)) hz.1 hz.2.1 dX5_which_57 (by decide) ?_
            refine wrV (A := wA (ho a C ++ (bw a 1 k F E))) (As := [.int (-10)]) (rest := []) hz (okAm tS sk sv) (c5_bad l_ D k a tS sk sv C  (-10) ) (cwV 1 hz.2.2.2.2 gX5_which_X5_bad rfl rfl rfl (by decide +kernel) ⟨Nat.le_of_ble_eq_true rfl, Nat.le_of_ble_eq_true rfl⟩) hK hy (hP.sub (ws' := ho a C) [0] rfl) (hD.sub (ws' := ho a C) [0] (by decide) rfl) hS 0 5 rfl rfl rfl rfl hl.1 rfl (Nat.le_of_ble_eq_true rfl) dX5_which_59 ⟨Nat.zero_le _, Nat.zero_le _⟩ (fun r u H1 locs hp hP1 hS hfr => ?_)
            obtain rfl : r = -10 := hp
            have hP1 : va_P D vwCl (ho a (nset C 0 (C 0 + 1))) H1 := hP1
            have hP : va_P D vwCl (ho a (nset C 0 (C 0 + 1)) ++ (bw a 1 k F E)) H1 := wJn (w1 := ho a (nset C 0 (C 0 + 1))) (wc := ho a C) hP hD [0] rfl rfl hP1 hfr
            generalize H1 = H at hP hS ⊢
            have hD : va_D (wA (ho a C ++ (bw a 1 k F E))) (ho a (nset C 0 (C 0 + 1)) ++ (bw a 1 k F E)) := hD.same rfl
            exact wr_iret hz hr hlk dX5_which_62 hS (()) hP (rfl)
          · refine lv_iload hz.1 hz.2.1 dX5_which_44 (lv_at hl 4 rfl) ?_
            refine lv_iconst (v := nI 0) hz.1 hz.2.1 dX5_which_46 (by decide) ?_
            refine lv_sipush (v := nI 4095) hz.1 hz.2.1 dX5_which_47 (by decide) ?_
            refine rdS (As := [.int xk, .int (nI 0), .int (nI 4095)]) (rest := []) hz (c5_within l_ xk 0 4095 ) rfl (va_cwS 3 hz.2.2.2.2 gX5_which_X5_within rfl rfl rfl (by decide +kernel) ⟨Nat.le_of_ble_eq_true rfl, Nat.le_of_ble_eq_true rfl⟩) rfl hl.1 rfl (Nat.le_of_ble_eq_true rfl) dX5_which_50 ⟨Nat.zero_le _, Nat.zero_le _⟩ ?_
            refine zne (tgt := 63) hz dX5_which_53 (by decide) (fun c_53 => ?_) (fun c_53 => ?_)
            · have c30 : -1 ≤ xi := by rw [fa_le]; rw [fa_lt] at c_30; omega
              simp [c_8, c_19, c_24, c_41, c_53, c30] at hb
            · refine lv_aload_n hz.1 hz.2.1 dX5_which_56 rfl (lv_at hl 0 rfl) ?_
              refine lv_bipush (v := (-10)) hz.1 hz.2.1 dX5_which_57 (by decide) ?_
              refine wrV (A := wA (ho a C ++ (bw a 1 k F E))) (As := [.int (-10)]) (rest := []) hz (okAm tS sk sv) (c5_bad l_ D k a tS sk sv C  (-10) ) (cwV 1 hz.2.2.2.2 gX5_which_X5_bad rfl rfl rfl (by decide +kernel) ⟨Nat.le_of_ble_eq_true rfl, Nat.le_of_ble_eq_true rfl⟩) hK hy (hP.sub (ws' := ho a C) [0] rfl) (hD.sub (ws' := ho a C) [0] (by decide) rfl) hS 0 5 rfl rfl rfl rfl hl.1 rfl (Nat.le_of_ble_eq_true rfl) dX5_which_59 ⟨Nat.zero_le _, Nat.zero_le _⟩ (fun r u H1 locs hp hP1 hS hfr => ?_)
              obtain rfl : r = -10 := hp
              have hP1 : va_P D vwCl (ho a (nset C 0 (C 0 + 1))) H1 := hP1
              have hP : va_P D vwCl (ho a (nset C 0 (C 0 + 1)) ++ (bw a 1 k F E)) H1 := wJn (w1 := ho a (nset C 0 (C 0 + 1))) (wc := ho a C) hP hD [0] rfl rfl hP1 hfr
              generalize H1 = H at hP hS ⊢
              have hD : va_D (wA (ho a C ++ (bw a 1 k F E))) (ho a (nset C 0 (C 0 + 1)) ++ (bw a 1 k F E)) := hD.same rfl
              exact wr_iret hz hr hlk dX5_which_62 hS (()) hP (rfl)

theorem hinX5_clashes_X5 : ∀ w ∈ wsX50, w ∈ wsX5_clashes := fun _ h => List.mem_cons_of_mem _ (List.mem_append_left _ (List.mem_append_right _ h))
theorem hinX5_clashes_X0 : ∀ w ∈ wsX00, w ∈ wsX5_clashes := fun _ h => List.mem_cons_of_mem _ (List.mem_append_right _ h)
set_option maxHeartbeats 4000000 in
set_option maxRecDepth 100000 in
theorem c5_clashes (l_ : Launch) (D : va_G) (k : Nat → ClassId) (a : Nat → Nat) (tS : Nat) (sk sv : Nat → Nat) (C : Nat → Nat) (F : Nat → Nat) (E : Nat → Nat → Nat) (M : Nat → Nat)  (hR : Rb M F E) (hf : Wf M) : Met l_ yX5_clashes wsX5_clashes ({ frames := 4, cells := 0, slots := 0, locals := 89 }) (va_Pc [.ref (a 0)] (wH (Am tS sk sv) D k (ho a C ++ (bw a 1 k F E)))) (QcRead (nI (sClash M))) 0 0 (fun _ => False) := by
  refine my_entry (cc := cX5_clashes) (maxL := 4) (ret := some .int) (by decide) rfl (Nat.le_of_ble_eq_true rfl) ?_
  intro p_ e_ s_ m_ bl_ me_ c_ hz hr hlk hB ls hl
  obtain ⟨hP, hK, hD0, hy⟩ := hB
  have hD := wA.self hD0
  have hS : va_S (wA (ho a C ++ (bw a 1 k F E))) s_.heap s_.heap [] := va_S.rf
  have hl : lv_has ls 4 [(0, .ref (a 0))] := hl
  have f0 := hf.n2
  have f1 := hf.n9
  have f2 := hf.fr
  have f3 := hf.gd
  have f4 := hf.pc
  have f5 := hf.wc
  have e0 : F 0 = M 0 := hR.1.1
  have e1 : F 1 = M 1 := hR.1.2.1
  have e2 : F 2 = M 2 := hR.1.2.2.1
  have e3 : F 3 = M 19 := hR.1.2.2.2.1
  have e4 : F 4 = M 32 := hR.1.2.2.2.2
  refine lv_iconst (v := nI 0) hz.1 hz.2.1 dX5_clashes_0 (by decide) ?_
  refine lv_istore_n (lv' := [(1, .int (nI 0)), (0, .ref (a 0))]) hz.1 hz.2.1 dX5_clashes_1 rfl hl (by decide) rfl (fun ls hl => ?_)
  refine lv_iconst (v := nI 0) hz.1 hz.2.1 dX5_clashes_2 (by decide) ?_
  refine lv_istore_n (lv' := [(2, .int (nI 0)), (1, .int (nI 0)), (0, .ref (a 0))]) hz.1 hz.2.1 dX5_clashes_3 rfl hl (by decide) rfl (fun ls hl => ?_)
  have lp_4 : ∀ (fu : Nat) (w : Nat), (w ≤ M 0 - 1) → M 0 - 1 - w < fu → ∀ ls : Array Slot, lv_has ls 4 [(0, .ref (a 0)), (1, .int (nI (fb_sm (fun w => fb_ct (kClF M w) w) w))), (2, .int (nI w))] → W p_ l_ e_ ({ frames := 4, cells := 0, slots := 0, locals := 89 }) s_ m_ [.ref (a 0)].toArray bl_ me_ c_ s_.heap [] 0 0 (MQ bl_ (QcRead (nI (sClash M))) [.ref (a 0)].toArray s_ 0 0 (fun _ => False)) (F0 m_ 4 ls []) := by
    intro fu
    induction fu with
    | zero => intro w hw hm; exact absurd hm (Nat.not_lt_zero _)
    | succ fu ih4 =>
      intro w hw hm ls hl
      refine lv_iload_n hz.1 hz.2.1 dX5_clashes_4 rfl (lv_at hl 2 rfl) ?_
      refine lv_aload_n hz.1 hz.2.1 dX5_clashes_5 rfl (lv_at hl 0 rfl) ?_
      refine rg (T := TX5) (N := 11) hz hinX5_clashes_X5 hK hP 0 rfl rfl 0 (by decide) (List.mem_of_getElem? (i := 1) rfl) rfl (v := .ref (a 1)) rfl dX5_clashes_6 ?_
      refine rdV (A := wA (ho a C ++ (bw a 1 k F E))) (As := []) (rest := [.int (nI w)]) hz (okAm tS sk sv) (c0_wireCount l_ D k a 1 tS sk sv F E M  hR hf) (cwV 0 hz.2.2.2.2 gX5_clashes_X0_wireCount rfl rfl rfl (by decide +kernel) ⟨Nat.le_of_ble_eq_true rfl, Nat.le_of_ble_eq_true rfl⟩) hK hy (hP.sub (ws' := bw a 1 k F E) [1, 2, 3, 4, 5, 6, 7, 8] rfl) (hD.sub (ws' := bw a 1 k F E) [1, 2, 3, 4, 5, 6, 7, 8] (by decide) rfl) hS 0 0 rfl rfl rfl rfl hl.1 rfl (Nat.le_of_ble_eq_true rfl) dX5_clashes_9 ⟨Nat.zero_le _, Nat.zero_le _⟩ ?_
      refine jge (tgt := 68) hz dX5_clashes_12 (by decide) (by omega) (by omega) (fun c_12 => ?_) (fun c_12 => ?_)
      · obtain rfl : w = M 0 - 1 := by omega
        refine lv_iload_n hz.1 hz.2.1 dX5_clashes_68 rfl (lv_at hl 1 rfl) ?_
        exact rd_iret hz hr hlk dX5_clashes_69 (by rw [sClash_is hf])
      · refine lv_iconst (v := nI 0) hz.1 hz.2.1 dX5_clashes_15 (by decide) ?_
        refine lv_istore_n (lv' := [(3, .int (nI 0)), (0, .ref (a 0)), (1, .int (nI (fb_sm (fun w => fb_ct (kClF M w) w) w))), (2, .int (nI w))]) hz.1 hz.2.1 dX5_clashes_16 rfl hl (by decide) rfl (fun ls hl => ?_)
        have lp_17 : ∀ (fu : Nat) (v : Nat), (v ≤ w) → w - v < fu → ∀ ls : Array Slot, lv_has ls 4 [(0, .ref (a 0)), (1, .int (nI (fb_sm (fun w => fb_ct (kClF M w) w) w + fb_ct (kClF M w) v))), (2, .int (nI w)), (3, .int (nI v))] → W p_ l_ e_ ({ frames := 4, cells := 0, slots := 0, locals := 89 }) s_ m_ [.ref (a 0)].toArray bl_ me_ c_ s_.heap [] 0 0 (MQ bl_ (QcRead (nI (sClash M))) [.ref (a 0)].toArray s_ 0 0 (fun _ => False)) (F0 m_ 17 ls []) := by
          intro fu
          induction fu with
          | zero => intro v hv hm; exact absurd hm (Nat.not_lt_zero _)
          | succ fu ih17 =>
            intro v hv hm ls hl
            refine lv_iload_n hz.1 hz.2.1 dX5_clashes_17 rfl (lv_at hl 3 rfl) ?_
            refine lv_iload_n hz.1 hz.2.1 dX5_clashes_18 rfl (lv_at hl 2 rfl) ?_
            refine jge (tgt := 62) hz dX5_clashes_19 (by decide) (by omega) (by omega) (fun c_19 => ?_) (fun c_19 => ?_)
            · obtain rfl : w = v := by omega
              refine lv_iinc (v := nI (w + 1)) (lv' := [(2, .int (nI (w + 1))), (0, .ref (a 0)), (1, .int (nI (fb_sm (fun w => fb_ct (kClF M w) w) w + fb_ct (kClF M w) w))), (3, .int (nI w))]) hz.1 hz.2.1 dX5_clashes_62 hl (k := 2) rfl (nI_add _ 1) (by decide) rfl (fun ls hl => ?_)
              refine lv_goto (tgt := 4) hz.1 hz.2.1 dX5_clashes_65 (by decide) ?_
              exact ih4 (w + 1) (by omega) (by omega) ls (lv_sub hl [1, 2, 0] rfl)
            · have n1 := sNote_lt M v
              have n2 := sNote_lt M w
              refine lv_aload_n hz.1 hz.2.1 dX5_clashes_22 rfl (lv_at hl 0 rfl) ?_
              refine rg (T := TX5) (N := 11) hz hinX5_clashes_X5 hK hP 0 rfl rfl 0 (by decide) (List.mem_of_getElem? (i := 1) rfl) rfl (v := .ref (a 1)) rfl dX5_clashes_23 ?_
              refine lv_iload_n hz.1 hz.2.1 dX5_clashes_26 rfl (lv_at hl 3 rfl) ?_
              refine lv_iload_n hz.1 hz.2.1 dX5_clashes_27 rfl (lv_at hl 2 rfl) ?_
              refine rdV (A := wA (ho a C ++ (bw a 1 k F E))) (As := [.int (nI v), .int (nI w)]) (rest := []) hz (okAm tS sk sv) (c0_meet l_ D k a 1 tS sk sv F E M v w hR hf (by omega) (by omega)) (cwV 2 hz.2.2.2.2 gX5_clashes_X0_meet rfl rfl rfl (by decide +kernel) ⟨Nat.le_of_ble_eq_true rfl, Nat.le_of_ble_eq_true rfl⟩) hK hy (hP.sub (ws' := bw a 1 k F E) [1, 2, 3, 4, 5, 6, 7, 8] rfl) (hD.sub (ws' := bw a 1 k F E) [1, 2, 3, 4, 5, 6, 7, 8] (by decide) rfl) hS 0 0 rfl rfl rfl rfl hl.1 rfl (Nat.le_of_ble_eq_true rfl) dX5_clashes_28 ⟨Nat.zero_le _, Nat.zero_le _⟩ ?_
              refine zeq (tgt := 56) hz dX5_clashes_31 (by decide) (fun c_31 => ?_) (fun c_31 => ?_)
              · rw [← fb_ct0 (p := kClF M w) (n := v) (by simp [kClF, c_31])] at hl
                refine lv_iinc (v := nI (v + 1)) (lv' := [(3, .int (nI (v + 1))), (0, .ref (a 0)), (1, .int (nI (fb_sm (fun w => fb_ct (kClF M w) w) w + fb_ct (kClF M w) (v + 1)))), (2, .int (nI w))]) hz.1 hz.2.1 dX5_clashes_56 hl (k := 3) rfl (nI_add _ 1) (by decide) rfl (fun ls hl => ?_)
                refine lv_goto (tgt := 17) hz.1 hz.2.1 dX5_clashes_59 (by decide) ?_
                exact ih17 (v + 1) (by omega) (by omega) ls (lv_sub hl [1, 2, 3, 0] rfl)
              · refine lv_aload_n hz.1 hz.2.1 dX5_clashes_34 rfl (lv_at hl 0 rfl) ?_
                refine rg (T := TX5) (N := 11) hz hinX5_clashes_X5 hK hP 0 rfl rfl 0 (by decide) (List.mem_of_getElem? (i := 1) rfl) rfl (v := .ref (a 1)) rfl dX5_clashes_35 ?_
                refine lv_iload_n hz.1 hz.2.1 dX5_clashes_38 rfl (lv_at hl 3 rfl) ?_
                refine rdV (A := wA (ho a C ++ (bw a 1 k F E))) (As := [.int (nI v)]) (rest := []) hz (okAm tS sk sv) (c0_noteOf l_ D k a 1 tS sk sv F E M v hR hf (by omega)) (cwV 1 hz.2.2.2.2 gX5_clashes_X0_noteOf rfl rfl rfl (by decide +kernel) ⟨Nat.le_of_ble_eq_true rfl, Nat.le_of_ble_eq_true rfl⟩) hK hy (hP.sub (ws' := bw a 1 k F E) [1, 2, 3, 4, 5, 6, 7, 8] rfl) (hD.sub (ws' := bw a 1 k F E) [1, 2, 3, 4, 5, 6, 7, 8] (by decide) rfl) hS 0 0 rfl rfl rfl rfl hl.1 rfl (Nat.le_of_ble_eq_true rfl) dX5_clashes_39 ⟨Nat.zero_le _, Nat.zero_le _⟩ ?_
                refine lv_aload_n hz.1 hz.2.1 dX5_clashes_42 rfl (lv_at hl 0 rfl) ?_
                refine rg (T := TX5) (N := 11) hz hinX5_clashes_X5 hK hP 0 rfl rfl 0 (by decide) (List.mem_of_getElem? (i := 1) rfl) rfl (v := .ref (a 1)) rfl dX5_clashes_43 ?_
                refine lv_iload_n hz.1 hz.2.1 dX5_clashes_46 rfl (lv_at hl 2 rfl) ?_
                refine rdV (A := wA (ho a C ++ (bw a 1 k F E))) (As := [.int (nI w)]) (rest := [.int (nI (sNote M v))]) hz (okAm tS sk sv) (c0_noteOf l_ D k a 1 tS sk sv F E M w hR hf (by omega)) (cwV 1 hz.2.2.2.2 gX5_clashes_X0_noteOf rfl rfl rfl (by decide +kernel) ⟨Nat.le_of_ble_eq_true rfl, Nat.le_of_ble_eq_true rfl⟩) hK hy (hP.sub (ws' := bw a 1 k F E) [1, 2, 3, 4, 5, 6, 7, 8] rfl) (hD.sub (ws' := bw a 1 k F E) [1, 2, 3, 4, 5, 6, 7, 8] (by decide) rfl) hS 0 0 rfl rfl rfl rfl hl.1 rfl (Nat.le_of_ble_eq_true rfl) dX5_clashes_47 ⟨Nat.zero_le _, Nat.zero_le _⟩ ?_
                refine jne (tgt := 56) hz dX5_clashes_50 (by decide) (by omega) (by omega) (fun c_50 => ?_) (fun c_50 => ?_)
                · rw [← fb_ct0 (p := kClF M w) (n := v) (by simp [kClF, c_50])] at hl
                  refine lv_iinc (v := nI (v + 1)) (lv' := [(3, .int (nI (v + 1))), (0, .ref (a 0)), (1, .int (nI (fb_sm (fun w => fb_ct (kClF M w) w) w + fb_ct (kClF M w) (v + 1)))), (2, .int (nI w))]) hz.1 hz.2.1 dX5_clashes_56 hl (k := 3) rfl (nI_add _ 1) (by decide) rfl (fun ls hl => ?_)
                  refine lv_goto (tgt := 17) hz.1 hz.2.1 dX5_clashes_59 (by decide) ?_
                  exact ih17 (v + 1) (by omega) (by omega) ls (lv_sub hl [1, 2, 3, 0] rfl)
                · refine lv_iinc (v := nI (fb_sm (fun w => fb_ct (kClF M w) w) w + fb_ct (kClF M w) (v + 1))) (lv' := [(1, .int (nI (fb_sm (fun w => fb_ct (kClF M w) w) w + fb_ct (kClF M w) (v + 1)))), (0, .ref (a 0)), (2, .int (nI w)), (3, .int (nI v))]) hz.1 hz.2.1 dX5_clashes_53 hl (k := 1) rfl (by rw [fb_ct1 (p := kClF M w) (n := v) (by simp [kClF, c_31, c_50]), ← Nat.add_assoc]; exact nI_add _ 1) (by decide) rfl (fun ls hl => ?_)
                  refine lv_iinc (v := nI (v + 1)) (lv' := [(3, .int (nI (v + 1))), (1, .int (nI (fb_sm (fun w => fb_ct (kClF M w) w) w + fb_ct (kClF M w) (v + 1)))), (0, .ref (a 0)), (2, .int (nI w))]) hz.1 hz.2.1 dX5_clashes_56 hl (k := 3) rfl (nI_add _ 1) (by decide) rfl (fun ls hl => ?_)
                  refine lv_goto (tgt := 17) hz.1 hz.2.1 dX5_clashes_59 (by decide) ?_
                  exact ih17 (v + 1) (by omega) (by omega) ls (lv_sub hl [2, 1, 3, 0] rfl)
        exact lp_17 _ 0 (by omega) (Nat.lt_succ_self _) ls (lv_sub hl [1, 2, 3, 0] rfl)
  exact lp_4 _ 0 (by omega) (Nat.lt_succ_self _) ls (lv_sub hl [2, 1, 0] rfl)

theorem hinX5_deafLots_X5 : ∀ w ∈ wsX50, w ∈ wsX5_deafLots := fun _ h => List.mem_cons_of_mem _ (List.mem_append_left _ (List.mem_append_right _ h))
theorem hinX5_deafLots_X0 : ∀ w ∈ wsX00, w ∈ wsX5_deafLots := fun _ h => List.mem_cons_of_mem _ (List.mem_append_right _ h)
set_option maxHeartbeats 4000000 in
set_option maxRecDepth 100000 in
theorem c5_deafLots (l_ : Launch) (D : va_G) (k : Nat → ClassId) (a : Nat → Nat) (tS : Nat) (sk sv : Nat → Nat) (C : Nat → Nat) (F : Nat → Nat) (E : Nat → Nat → Nat) (M : Nat → Nat) (kk w st : Nat) (hR : Rb M F E) (hf : Wf M) (hk : kk < 10) (hw : w < M 0 - 1) (hs : st ≤ 3) : Met l_ yX5_deafLots wsX5_deafLots ({ frames := 3, cells := 0, slots := 0, locals := 67 }) (va_Pc [.ref (a 0), .int (nI kk), .int (nI w), .int (nI st)] (wH (Am tS sk sv) D k (ho a C ++ (bw a 1 k F E)))) (QcRead (nI (sCh (sDfN M w st) kk))) 0 0 (fun _ => False) := by
  refine my_entry (cc := cX5_deafLots) (maxL := 5) (ret := some .int) (by decide) rfl (Nat.le_of_ble_eq_true rfl) ?_
  intro p_ e_ s_ m_ bl_ me_ c_ hz hr hlk hB ls hl
  obtain ⟨hP, hK, hD0, hy⟩ := hB
  have hD := wA.self hD0
  have hS : va_S (wA (ho a C ++ (bw a 1 k F E))) s_.heap s_.heap [] := va_S.rf
  have hl : lv_has ls 5 [(0, .ref (a 0)), (1, .int (nI kk)), (2, .int (nI w)), (3, .int (nI st))] := hl
  have f0 := hf.n2
  have f1 := hf.n9
  have f2 := hf.fr
  have f3 := hf.gd
  have f4 := hf.pc
  have f5 := hf.wc
  have e0 : F 0 = M 0 := hR.1.1
  have e1 : F 1 = M 1 := hR.1.2.1
  have e2 : F 2 = M 2 := hR.1.2.2.1
  have e3 : F 3 = M 19 := hR.1.2.2.2.1
  have e4 : F 4 = M 32 := hR.1.2.2.2.2
  have h7 := sStr_in hs
  have h8 := sReach_lt hf w (sStr st)
  have h9 := sDf_is hf hw hs
  refine lv_aload_n hz.1 hz.2.1 dX5_deafLots_0 rfl (lv_at hl 0 rfl) ?_
  refine rg (T := TX5) (N := 11) hz hinX5_deafLots_X5 hK hP 0 rfl rfl 0 (by decide) (List.mem_of_getElem? (i := 1) rfl) rfl (v := .ref (a 1)) rfl dX5_deafLots_1 ?_
  refine lv_iload_n hz.1 hz.2.1 dX5_deafLots_4 rfl (lv_at hl 2 rfl) ?_
  refine rgsO hz hy hS (List.mem_of_getElem? (i := 2) rfl) dX5_deafLots_5 ?_
  refine lv_iload_n hz.1 hz.2.1 dX5_deafLots_8 rfl (lv_at hl 3 rfl) ?_
  refine rti hz hy hS (by omega) dX5_deafLots_9 ?_
  refine rdV (A := wA (ho a C ++ (bw a 1 k F E))) (As := [.int (nI w), .int (nI (sStr st))]) (rest := []) hz (okAm tS sk sv) (c0_reach l_ D k a 1 tS sk sv F E M w (sStr st) hR hf (by omega) (by omega) (by omega)) (cwV 2 hz.2.2.2.2 gX5_deafLots_X0_reach rfl rfl rfl (by decide +kernel) ⟨Nat.le_of_ble_eq_true rfl, Nat.le_of_ble_eq_true rfl⟩) hK hy (hP.sub (ws' := bw a 1 k F E) [1, 2, 3, 4, 5, 6, 7, 8] rfl) (hD.sub (ws' := bw a 1 k F E) [1, 2, 3, 4, 5, 6, 7, 8] (by decide) rfl) hS 0 0 rfl rfl rfl rfl hl.1 rfl (Nat.le_of_ble_eq_true rfl) dX5_deafLots_10 ⟨Nat.zero_le _, Nat.zero_le _⟩ ?_
  refine rdS (As := [.int (nI (sReach M w (sStr st)))]) (rest := []) hz (cJ_bit l_ (sReach M w (sStr st)) (by omega)) rfl (va_cwS 1 hz.2.2.2.2 gX5_deafLots_J6_bitCount_0f7a4 rfl rfl rfl (by decide +kernel) ⟨Nat.le_of_ble_eq_true rfl, Nat.le_of_ble_eq_true rfl⟩) rfl hl.1 rfl (Nat.le_of_ble_eq_true rfl) dX5_deafLots_13 ⟨Nat.zero_le _, Nat.zero_le _⟩ ?_
  refine lv_istore (lv' := [(4, .int (nI (sPop (sReach M w (sStr st))))), (0, .ref (a 0)), (1, .int (nI kk)), (2, .int (nI w)), (3, .int (nI st))]) hz.1 hz.2.1 dX5_deafLots_16 hl (by decide) rfl (fun ls hl => ?_)
  refine lv_aload_n hz.1 hz.2.1 dX5_deafLots_18 rfl (lv_at hl 1 rfl) ?_
  refine rg (T := TX5) (N := 11) hz hinX5_deafLots_X5 hK hP 0 rfl rfl 0 (by decide) (List.mem_of_getElem? (i := 1) rfl) rfl (v := .ref (a 1)) rfl dX5_deafLots_19 ?_
  refine rg (T := TX0) (N := 12) hz hinX5_deafLots_X0 hK hP 1 rfl rfl 0 (by decide) (List.mem_of_getElem? (i := 3) rfl) rfl (v := .int (nI (F 0))) rfl dX5_deafLots_22 ?_
  refine toe (z := nI (M 0)) (by rw [hR.1.1]) ?_
  refine lv_iload hz.1 hz.2.1 dX5_deafLots_25 (lv_at hl 0 rfl) ?_
  refine lv_isub hz.1 hz.2.1 dX5_deafLots_27 ?_
  refine toe (z := nI (sDfN M w st)) (by rw [pk_sub h9.2, h9.1]) ?_
  have h6 : sDfN M w st < 10 := by have := h9.1; omega
  refine lv_iload_n hz.1 hz.2.1 dX5_deafLots_28 rfl (lv_at hl 2 rfl) ?_
  refine rdS (As := [.int (nI (sDfN M w st)), .int (nI kk)]) (rest := []) hz (c5_choose l_ (sDfN M w st) kk (by omega) (by omega)) rfl (va_cwS 2 hz.2.2.2.2 gX5_deafLots_X5_choose rfl rfl rfl (by decide +kernel) ⟨Nat.le_of_ble_eq_true rfl, Nat.le_of_ble_eq_true rfl⟩) rfl hl.1 rfl (Nat.le_of_ble_eq_true rfl) dX5_deafLots_29 ⟨Nat.zero_le _, Nat.zero_le _⟩ ?_
  exact rd_iret hz hr hlk dX5_deafLots_32 (rfl)

theorem hinX5_lot_X5 : ∀ w ∈ wsX50, w ∈ wsX5_lot := fun _ h => List.mem_cons_of_mem _ (List.mem_append_left _ (List.mem_append_left _ (List.mem_append_right _ h)))
theorem hinX5_lot_X0 : ∀ w ∈ wsX00, w ∈ wsX5_lot := fun _ h => List.mem_cons_of_mem _ (List.mem_append_left _ (List.mem_append_right _ h))
theorem hinX5_lot_X2 : ∀ w ∈ wsX20, w ∈ wsX5_lot := fun _ h => List.mem_cons_of_mem _ (List.mem_append_right _ h)
set_option maxHeartbeats 4000000 in
set_option maxRecDepth 100000 in
theorem c5_lot_bad (l_ : Launch) (D : va_G) (k : Nat → ClassId) (a : Nat → Nat) (tS : Nat) (sk sv : Nat → Nat) (C : Nat → Nat) (F : Nat → Nat) (E : Nat → Nat → Nat) (M : Nat → Nat) (x1 x2 x3 : Int32) (hR : Rb M F E) (hf : Wf M) (hb : (wIn x1 1 (M 0) && wIn x2 0 (M 0 - 1 - 1) && wIn x3 0 3) = false) : Met l_ yX5_lot wsX5_lot ({ frames := 2, cells := 0, slots := 0, locals := 42 }) (va_Pc [.ref (a 0), .int x1, .int x2, .int x3] (wH (Am tS sk sv) D k (ho a C ++ (bw a 1 k F E)))) (va_Qi (fun (r : Int32) (u : Unit) => r = -2) (fun (u : Unit) (t_ : State) => va_P D vwCl ((fun (_ : Unit) => ho a (nset C 0 (C 0 + 1)) ++ (bw a 1 k F E)) u) t_.heap) (wA (ho a C ++ (bw a 1 k F E)))) 0 0 (wA (ho a C ++ (bw a 1 k F E))) := by
  refine my_entry (cc := cX5_lot) (maxL := 4) (ret := some .int) (by decide) rfl (Nat.le_of_ble_eq_true rfl) ?_
  intro p_ e_ s_ m_ bl_ me_ c_ hz hr hlk hB ls hl
  obtain ⟨hP, hK, hD0, hy⟩ := hB
  have hD := wA.self hD0
  have hS : va_S (wA (ho a C ++ (bw a 1 k F E))) s_.heap s_.heap [] := va_S.rf
  have hl : lv_has ls 4 [(0, .ref (a 0)), (1, .int x1), (2, .int x2), (3, .int x3)] := hl
  have f0 := hf.n2
  have f1 := hf.n9
  have f2 := hf.fr
  have f3 := hf.gd
  have f4 := hf.pc
  have f5 := hf.wc
  have e0 : F 0 = M 0 := hR.1.1
  have e1 : F 1 = M 1 := hR.1.2.1
  have e2 : F 2 = M 2 := hR.1.2.2.1
  have e3 : F 3 = M 19 := hR.1.2.2.2.1
  have e4 : F 4 = M 32 := hR.1.2.2.2.2
  refine lv_iload_n hz.1 hz.2.1 dX5_lot_0 rfl (lv_at hl 1 rfl) ?_
  refine lv_iconst (v := nI 1) hz.1 hz.2.1 dX5_lot_1 (by decide) ?_
  refine lv_aload_n hz.1 hz.2.1 dX5_lot_2 rfl (lv_at hl 0 rfl) ?_
  refine rg (T := TX5) (N := 11) hz hinX5_lot_X5 hK hP 0 rfl rfl 0 (by decide) (List.mem_of_getElem? (i := 1) rfl) rfl (v := .ref (a 1)) rfl dX5_lot_3 ?_
  refine rg (T := TX0) (N := 12) hz hinX5_lot_X0 hK hP 1 rfl rfl 0 (by decide) (List.mem_of_getElem? (i := 2) rfl) rfl (v := .int (nI (F 0))) rfl dX5_lot_6 ?_
  refine toe (z := nI (M 0)) (by rw [hR.1.1]) ?_
  refine rdS (As := [.int x1, .int (nI 1), .int (nI (M 0))]) (rest := []) hz (c5_within l_ x1 1 (M 0) ) rfl (va_cwS 3 hz.2.2.2.2 gX5_lot_X5_within rfl rfl rfl (by decide +kernel) ⟨Nat.le_of_ble_eq_true rfl, Nat.le_of_ble_eq_true rfl⟩) rfl hl.1 rfl (Nat.le_of_ble_eq_true rfl) dX5_lot_9 ⟨Nat.zero_le _, Nat.zero_le _⟩ ?_
  refine zeq (tgt := 34) hz dX5_lot_12 (by decide) (fun c_12 => ?_) (fun c_12 => ?_)
  · refine lv_aload_n hz.1 hz.2.1 dX5_lot_34 rfl (lv_at hl 0 rfl) ?_
    refine lv_bipush (v := (-2)) hz.1 hz.2.1 dX5_lot_35 (by decide) ?_
    refine wrV (A := wA (ho a C ++ (bw a 1 k F E))) (As := [.int (-2)]) (rest := []) hz (okAm tS sk sv) (c5_bad l_ D k a tS sk sv C  (-2) ) (cwV 1 hz.2.2.2.2 gX5_lot_X5_bad rfl rfl rfl (by decide +kernel) ⟨Nat.le_of_ble_eq_true rfl, Nat.le_of_ble_eq_true rfl⟩) hK hy (hP.sub (ws' := ho a C) [0] rfl) (hD.sub (ws' := ho a C) [0] (by decide) rfl) hS 0 5 rfl rfl rfl rfl hl.1 rfl (Nat.le_of_ble_eq_true rfl) dX5_lot_37 ⟨Nat.zero_le _, Nat.zero_le _⟩ (fun r u H1 locs hp hP1 hS hfr => ?_)
    obtain rfl : r = -2 := hp
    have hP1 : va_P D vwCl (ho a (nset C 0 (C 0 + 1))) H1 := hP1
    have hP : va_P D vwCl (ho a (nset C 0 (C 0 + 1)) ++ (bw a 1 k F E)) H1 := wJn (w1 := ho a (nset C 0 (C 0 + 1))) (wc := ho a C) hP hD [0] rfl rfl hP1 hfr
    generalize H1 = H at hP hS ⊢
    have hD : va_D (wA (ho a C ++ (bw a 1 k F E))) (ho a (nset C 0 (C 0 + 1)) ++ (bw a 1 k F E)) := hD.same rfl
    exact wr_iret hz hr hlk dX5_lot_40 hS (()) hP (rfl)
  · refine lv_aload_n hz.1 hz.2.1 dX5_lot_15 rfl (lv_at hl 0 rfl) ?_
    refine rg (T := TX5) (N := 11) hz hinX5_lot_X5 hK hP 0 rfl rfl 0 (by decide) (List.mem_of_getElem? (i := 1) rfl) rfl (v := .ref (a 1)) rfl dX5_lot_16 ?_
    refine lv_iload_n hz.1 hz.2.1 dX5_lot_19 rfl (lv_at hl 2 rfl) ?_
    refine rdV (A := wA (ho a C ++ (bw a 1 k F E))) (As := [.int x2]) (rest := []) hz (okAm tS sk sv) (c0_isWire l_ D k a 1 tS sk sv F E M x2 hR hf) (cwV 1 hz.2.2.2.2 gX5_lot_X0_isWire rfl rfl rfl (by decide +kernel) ⟨Nat.le_of_ble_eq_true rfl, Nat.le_of_ble_eq_true rfl⟩) hK hy (hP.sub (ws' := bw a 1 k F E) [1, 2, 3, 4, 5, 6, 7, 8] rfl) (hD.sub (ws' := bw a 1 k F E) [1, 2, 3, 4, 5, 6, 7, 8] (by decide) rfl) hS 0 0 rfl rfl rfl rfl hl.1 rfl (Nat.le_of_ble_eq_true rfl) dX5_lot_20 ⟨Nat.zero_le _, Nat.zero_le _⟩ ?_
    refine zeq (tgt := 34) hz dX5_lot_23 (by decide) (fun c_23 => ?_) (fun c_23 => ?_)
    · refine lv_aload_n hz.1 hz.2.1 dX5_lot_34 rfl (lv_at hl 0 rfl) ?_
      refine lv_bipush (v := (-2)) hz.1 hz.2.1 dX5_lot_35 (by decide) ?_
      refine wrV (A := wA (ho a C ++ (bw a 1 k F E))) (As := [.int (-2)]) (rest := []) hz (okAm tS sk sv) (c5_bad l_ D k a tS sk sv C  (-2) ) (cwV 1 hz.2.2.2.2 gX5_lot_X5_bad rfl rfl rfl (by decide +kernel) ⟨Nat.le_of_ble_eq_true rfl, Nat.le_of_ble_eq_true rfl⟩) hK hy (hP.sub (ws' := ho a C) [0] rfl) (hD.sub (ws' := ho a C) [0] (by decide) rfl) hS 0 5 rfl rfl rfl rfl hl.1 rfl (Nat.le_of_ble_eq_true rfl) dX5_lot_37 ⟨Nat.zero_le _, Nat.zero_le _⟩ (fun r u H1 locs hp hP1 hS hfr => ?_)
      obtain rfl : r = -2 := hp
      have hP1 : va_P D vwCl (ho a (nset C 0 (C 0 + 1))) H1 := hP1
      have hP : va_P D vwCl (ho a (nset C 0 (C 0 + 1)) ++ (bw a 1 k F E)) H1 := wJn (w1 := ho a (nset C 0 (C 0 + 1))) (wc := ho a C) hP hD [0] rfl rfl hP1 hfr
      generalize H1 = H at hP hS ⊢
      have hD : va_D (wA (ho a C ++ (bw a 1 k F E))) (ho a (nset C 0 (C 0 + 1)) ++ (bw a 1 k F E)) := hD.same rfl
      exact wr_iret hz hr hlk dX5_lot_40 hS (()) hP (rfl)
    · refine lv_iload_n hz.1 hz.2.1 dX5_lot_26 rfl (lv_at hl 3 rfl) ?_
      refine lv_iconst (v := nI 4) hz.1 hz.2.1 dX5_lot_27 (by decide) ?_
      refine rdS (As := [.int x3, .int (nI 4)]) (rest := []) hz (c5_inRow l_ x3 4 3 (by omega) (by omega)) rfl (va_cwS 2 hz.2.2.2.2 gX5_lot_X5_inRow rfl rfl rfl (by decide +kernel) ⟨Nat.le_of_ble_eq_true rfl, Nat.le_of_ble_eq_true rfl⟩) rfl hl.1 rfl (Nat.le_of_ble_eq_true rfl) dX5_lot_28 ⟨Nat.zero_le _, Nat.zero_le _⟩ ?_
      refine zne (tgt := 41) hz dX5_lot_31 (by decide) (fun c_31 => ?_) (fun c_31 => ?_)
      · simp [c_12, c_23, c_31] at hb
      · refine lv_aload_n hz.1 hz.2.1 dX5_lot_34 rfl (lv_at hl 0 rfl) ?_
        refine lv_bipush (v := (-2)) hz.1 hz.2.1 dX5_lot_35 (by decide) ?_
        refine wrV (A := wA (ho a C ++ (bw a 1 k F E))) (As := [.int (-2)]) (rest := []) hz (okAm tS sk sv) (c5_bad l_ D k a tS sk sv C  (-2) ) (cwV 1 hz.2.2.2.2 gX5_lot_X5_bad rfl rfl rfl (by decide +kernel) ⟨Nat.le_of_ble_eq_true rfl, Nat.le_of_ble_eq_true rfl⟩) hK hy (hP.sub (ws' := ho a C) [0] rfl) (hD.sub (ws' := ho a C) [0] (by decide) rfl) hS 0 5 rfl rfl rfl rfl hl.1 rfl (Nat.le_of_ble_eq_true rfl) dX5_lot_37 ⟨Nat.zero_le _, Nat.zero_le _⟩ (fun r u H1 locs hp hP1 hS hfr => ?_)
        obtain rfl : r = -2 := hp
        have hP1 : va_P D vwCl (ho a (nset C 0 (C 0 + 1))) H1 := hP1
        have hP : va_P D vwCl (ho a (nset C 0 (C 0 + 1)) ++ (bw a 1 k F E)) H1 := wJn (w1 := ho a (nset C 0 (C 0 + 1))) (wc := ho a C) hP hD [0] rfl rfl hP1 hfr
        generalize H1 = H at hP hS ⊢
        have hD : va_D (wA (ho a C ++ (bw a 1 k F E))) (ho a (nset C 0 (C 0 + 1)) ++ (bw a 1 k F E)) := hD.same rfl
        exact wr_iret hz hr hlk dX5_lot_40 hS (()) hP (rfl)

set_option maxHeartbeats 4000000 in
set_option maxRecDepth 100000 in
theorem c5_lot_ok (l_ : Launch) (D : va_G) (k : Nat → ClassId) (a : Nat → Nat) (tS : Nat) (sk sv : Nat → Nat) (C : Nat → Nat) (F : Nat → Nat) (E : Nat → Nat → Nat) (Q : Nat → Nat) (M : Nat → Nat) (kk w st : Nat) (hR : Rb M F E) (hf : Wf M) (h1 : 1 ≤ kk) (h2 : kk ≤ M 0) (h3 : w < M 0 - 1) (h4 : st ≤ 3) : Met l_ yX5_lot wsX5_lot ({ frames := 4, cells := 0, slots := 0, locals := 91 }) (va_Pc [.ref (a 0), .int (nI kk), .int (nI w), .int (nI st)] (wH (Am tS sk sv) D k (ho a C ++ (bw a 1 k F E ++ (qw a Q))))) (va_Qi (fun (r : Int32) (u : Unit) => r = nI 1) (fun (u : Unit) (t_ : State) => va_P D vwCl ((fun (_ : Unit) => ho a C ++ (bw a 1 k F E ++ (qw a (nset (nset Q 0 ((sCh (sDfN M w st) kk) / Nat.gcd (sCh (sDfN M w st) kk) (sCh (M 0) kk))) 1 ((sCh (M 0) kk) / Nat.gcd (sCh (sDfN M w st) kk) (sCh (M 0) kk)))))) u) t_.heap) (wA (ho a C ++ (bw a 1 k F E ++ (qw a Q))))) 0 0 (wA (ho a C ++ (bw a 1 k F E ++ (qw a Q)))) := by
  refine my_entry (cc := cX5_lot) (maxL := 4) (ret := some .int) (by decide) rfl (Nat.le_of_ble_eq_true rfl) ?_
  intro p_ e_ s_ m_ bl_ me_ c_ hz hr hlk hB ls hl
  obtain ⟨hP, hK, hD0, hy⟩ := hB
  have hD := wA.self hD0
  have hS : va_S (wA (ho a C ++ (bw a 1 k F E ++ (qw a Q)))) s_.heap s_.heap [] := va_S.rf
  have hl : lv_has ls 4 [(0, .ref (a 0)), (1, .int (nI kk)), (2, .int (nI w)), (3, .int (nI st))] := hl
  have f0 := hf.n2
  have f1 := hf.n9
  have f2 := hf.fr
  have f3 := hf.gd
  have f4 := hf.pc
  have f5 := hf.wc
  have e0 : F 0 = M 0 := hR.1.1
  have e1 : F 1 = M 1 := hR.1.2.1
  have e2 : F 2 = M 2 := hR.1.2.2.1
  have e3 : F 3 = M 19 := hR.1.2.2.2.1
  have e4 : F 4 = M 32 := hR.1.2.2.2.2
  have q1 : sDfN M w st ≤ M 0 := fb_ct_le _ _
  have q2 := sCh_lt (sDfN M w st) (by omega) kk (by omega)
  have q3 := sCh_pos (M 0) (by omega) kk h2
  refine lv_iload_n hz.1 hz.2.1 dX5_lot_0 rfl (lv_at hl 1 rfl) ?_
  refine lv_iconst (v := nI 1) hz.1 hz.2.1 dX5_lot_1 (by decide) ?_
  refine lv_aload_n hz.1 hz.2.1 dX5_lot_2 rfl (lv_at hl 0 rfl) ?_
  refine rg (T := TX5) (N := 11) hz hinX5_lot_X5 hK hP 0 rfl rfl 0 (by decide) (List.mem_of_getElem? (i := 1) rfl) rfl (v := .ref (a 1)) rfl dX5_lot_3 ?_
  refine rg (T := TX0) (N := 12) hz hinX5_lot_X0 hK hP 1 rfl rfl 0 (by decide) (List.mem_of_getElem? (i := 2) rfl) rfl (v := .int (nI (F 0))) rfl dX5_lot_6 ?_
  refine toe (z := nI (M 0)) (by rw [hR.1.1]) ?_
  refine rdS (As := [.int (nI kk), .int (nI 1), .int (nI (M 0))]) (rest := []) hz (c5_within l_ (nI kk) 1 (M 0) ) rfl (va_cwS 3 hz.2.2.2.2 gX5_lot_X5_within rfl rfl rfl (by decide +kernel) ⟨Nat.le_of_ble_eq_true rfl, Nat.le_of_ble_eq_true rfl⟩) rfl hl.1 rfl (Nat.le_of_ble_eq_true rfl) dX5_lot_9 ⟨Nat.zero_le _, Nat.zero_le _⟩ ?_
  refine zeq (tgt := 34) hz dX5_lot_12 (by decide) (fun c_12 => ?_) (fun c_12 => ?_)
  · exact absurd ((wIn_ok (by omega) (by omega) (by omega)).symm.trans c_12) (by decide)
  · refine lv_aload_n hz.1 hz.2.1 dX5_lot_15 rfl (lv_at hl 0 rfl) ?_
    refine rg (T := TX5) (N := 11) hz hinX5_lot_X5 hK hP 0 rfl rfl 0 (by decide) (List.mem_of_getElem? (i := 1) rfl) rfl (v := .ref (a 1)) rfl dX5_lot_16 ?_
    refine lv_iload_n hz.1 hz.2.1 dX5_lot_19 rfl (lv_at hl 2 rfl) ?_
    refine rdV (A := wA (ho a C ++ (bw a 1 k F E ++ (qw a Q)))) (As := [.int (nI w)]) (rest := []) hz (okAm tS sk sv) (c0_isWire l_ D k a 1 tS sk sv F E M (nI w) hR hf) (cwV 1 hz.2.2.2.2 gX5_lot_X0_isWire rfl rfl rfl (by decide +kernel) ⟨Nat.le_of_ble_eq_true rfl, Nat.le_of_ble_eq_true rfl⟩) hK hy (hP.sub (ws' := bw a 1 k F E) [1, 2, 3, 4, 5, 6, 7, 8] rfl) (hD.sub (ws' := bw a 1 k F E) [1, 2, 3, 4, 5, 6, 7, 8] (by decide) rfl) hS 0 0 rfl rfl rfl rfl hl.1 rfl (Nat.le_of_ble_eq_true rfl) dX5_lot_20 ⟨Nat.zero_le _, Nat.zero_le _⟩ ?_
    refine zeq (tgt := 34) hz dX5_lot_23 (by decide) (fun c_23 => ?_) (fun c_23 => ?_)
    · exact absurd ((wIn_ok (by omega) (by omega) (by omega)).symm.trans c_23) (by decide)
    · refine lv_iload_n hz.1 hz.2.1 dX5_lot_26 rfl (lv_at hl 3 rfl) ?_
      refine lv_iconst (v := nI 4) hz.1 hz.2.1 dX5_lot_27 (by decide) ?_
      refine rdS (As := [.int (nI st), .int (nI 4)]) (rest := []) hz (c5_inRow l_ (nI st) 4 3 (by omega) (by omega)) rfl (va_cwS 2 hz.2.2.2.2 gX5_lot_X5_inRow rfl rfl rfl (by decide +kernel) ⟨Nat.le_of_ble_eq_true rfl, Nat.le_of_ble_eq_true rfl⟩) rfl hl.1 rfl (Nat.le_of_ble_eq_true rfl) dX5_lot_28 ⟨Nat.zero_le _, Nat.zero_le _⟩ ?_
      refine zne (tgt := 41) hz dX5_lot_31 (by decide) (fun c_31 => ?_) (fun c_31 => ?_)
      · refine lv_aload_n hz.1 hz.2.1 dX5_lot_41 rfl (lv_at hl 0 rfl) ?_
        refine rg (T := TX5) (N := 11) hz hinX5_lot_X5 hK hP 0 rfl rfl 7 (by decide) (List.mem_of_getElem? (i := 3) rfl) rfl (v := .ref (a 53)) rfl dX5_lot_42 ?_
        refine lv_aload_n hz.1 hz.2.1 dX5_lot_45 rfl (lv_at hl 0 rfl) ?_
        refine lv_iload_n hz.1 hz.2.1 dX5_lot_46 rfl (lv_at hl 1 rfl) ?_
        refine lv_iload_n hz.1 hz.2.1 dX5_lot_47 rfl (lv_at hl 2 rfl) ?_
        refine lv_iload_n hz.1 hz.2.1 dX5_lot_48 rfl (lv_at hl 3 rfl) ?_
        refine rdV (A := wA (ho a C ++ (bw a 1 k F E ++ (qw a Q)))) (As := [.int (nI kk), .int (nI w), .int (nI st)]) (rest := [.ref (a 53)]) hz (okAm tS sk sv) (c5_deafLots l_ D k a tS sk sv C F E M kk w st hR hf (by omega) (by omega) (by omega)) (cwV 3 hz.2.2.2.2 gX5_lot_X5_deafLots rfl rfl rfl (by decide +kernel) ⟨Nat.le_of_ble_eq_true rfl, Nat.le_of_ble_eq_true rfl⟩) hK hy (hP.sub (ws' := ho a C ++ (bw a 1 k F E)) [0, 1, 2, 3, 4, 5, 6, 7, 8] rfl) (hD.sub (ws' := ho a C ++ (bw a 1 k F E)) [0, 1, 2, 3, 4, 5, 6, 7, 8] (by decide) rfl) hS 0 5 rfl rfl rfl rfl hl.1 rfl (Nat.le_of_ble_eq_true rfl) dX5_lot_49 ⟨Nat.zero_le _, Nat.zero_le _⟩ ?_
        refine lv_i2l (v := lN (sCh (sDfN M w st) kk)) hz.1 hz.2.1 dX5_lot_52 (nI_l (by omega)) ?_
        refine lv_aload_n hz.1 hz.2.1 dX5_lot_53 rfl (lv_at hl 0 rfl) ?_
        refine rg (T := TX5) (N := 11) hz hinX5_lot_X5 hK hP 0 rfl rfl 0 (by decide) (List.mem_of_getElem? (i := 1) rfl) rfl (v := .ref (a 1)) rfl dX5_lot_54 ?_
        refine rg (T := TX0) (N := 12) hz hinX5_lot_X0 hK hP 1 rfl rfl 0 (by decide) (List.mem_of_getElem? (i := 2) rfl) rfl (v := .int (nI (F 0))) rfl dX5_lot_57 ?_
        refine toe (z := nI (M 0)) (by rw [hR.1.1]) ?_
        refine lv_iload_n hz.1 hz.2.1 dX5_lot_60 rfl (lv_at hl 1 rfl) ?_
        refine rdS (As := [.int (nI (M 0)), .int (nI kk)]) (rest := [.long (lN (sCh (sDfN M w st) kk)), .ref (a 53)]) hz (c5_choose l_ (M 0) kk (by omega) (by omega)) rfl (va_cwS 2 hz.2.2.2.2 gX5_lot_X5_choose rfl rfl rfl (by decide +kernel) ⟨Nat.le_of_ble_eq_true rfl, Nat.le_of_ble_eq_true rfl⟩) rfl hl.1 rfl (Nat.le_of_ble_eq_true rfl) dX5_lot_61 ⟨Nat.zero_le _, Nat.zero_le _⟩ ?_
        refine lv_i2l (v := lN (sCh (M 0) kk)) hz.1 hz.2.1 dX5_lot_64 (nI_l (by omega)) ?_
        refine wrVv (A := wA (ho a C ++ (bw a 1 k F E ++ (qw a Q)))) (As := [.long (lN (sCh (sDfN M w st) kk)), .long (lN (sCh (M 0) kk))]) (rest := []) hz (okAm tS sk sv) (c2_become l_ D k a tS sk sv Q  (sCh (sDfN M w st) kk) (sCh (M 0) kk) (by omega) (by omega) (by omega)) (cwV 2 hz.2.2.2.2 gX5_lot_X2_become rfl rfl rfl (by decide +kernel) ⟨Nat.le_of_ble_eq_true rfl, Nat.le_of_ble_eq_true rfl⟩) hK hy (hP.sub (ws' := qw a Q) [9] rfl) (hD.sub (ws' := qw a Q) [9] (by decide) rfl) hS 0 2 rfl rfl rfl rfl hl.1 rfl (Nat.le_of_ble_eq_true rfl) dX5_lot_65 ⟨Nat.zero_le _, Nat.zero_le _⟩ (fun u H1 locs hp hP1 hS hfr => ?_)
        have hP1 : va_P D vwCl (qw a (nset (nset Q 0 ((sCh (sDfN M w st) kk) / Nat.gcd (sCh (sDfN M w st) kk) (sCh (M 0) kk))) 1 ((sCh (M 0) kk) / Nat.gcd (sCh (sDfN M w st) kk) (sCh (M 0) kk)))) H1 := hP1
        have hP : va_P D vwCl (ho a C ++ (bw a 1 k F E ++ (qw a (nset (nset Q 0 ((sCh (sDfN M w st) kk) / Nat.gcd (sCh (sDfN M w st) kk) (sCh (M 0) kk))) 1 ((sCh (M 0) kk) / Nat.gcd (sCh (sDfN M w st) kk) (sCh (M 0) kk)))))) H1 := wJn (w1 := qw a (nset (nset Q 0 ((sCh (sDfN M w st) kk) / Nat.gcd (sCh (sDfN M w st) kk) (sCh (M 0) kk))) 1 ((sCh (M 0) kk) / Nat.gcd (sCh (sDfN M w st) kk) (sCh (M 0) kk)))) (wc := qw a Q) hP hD [9] rfl rfl hP1 hfr
        generalize H1 = H at hP hS ⊢
        have hD : va_D (wA (ho a C ++ (bw a 1 k F E ++ (qw a Q)))) (ho a C ++ (bw a 1 k F E ++ (qw a (nset (nset Q 0 ((sCh (sDfN M w st) kk) / Nat.gcd (sCh (sDfN M w st) kk) (sCh (M 0) kk))) 1 ((sCh (M 0) kk) / Nat.gcd (sCh (sDfN M w st) kk) (sCh (M 0) kk)))))) := hD.same rfl
        refine lv_iconst (v := nI 1) hz.1 hz.2.1 dX5_lot_68 (by decide) ?_
        exact wr_iret hz hr hlk dX5_lot_69 hS (()) hP (rfl)
      · exact absurd ((wIn_ok (by omega) (by omega) (by omega)).symm.trans c_31) (by decide)

theorem hinX5_surest_X5 : ∀ w ∈ wsX50, w ∈ wsX5_surest := fun _ h => List.mem_cons_of_mem _ (List.mem_append_left _ (List.mem_append_left _ (List.mem_append_right _ h)))
theorem hinX5_surest_X0 : ∀ w ∈ wsX00, w ∈ wsX5_surest := fun _ h => List.mem_cons_of_mem _ (List.mem_append_left _ (List.mem_append_right _ h))
theorem hinX5_surest_X2 : ∀ w ∈ wsX20, w ∈ wsX5_surest := fun _ h => List.mem_cons_of_mem _ (List.mem_append_right _ h)
set_option maxHeartbeats 4000000 in
set_option maxRecDepth 100000 in
theorem c5_surest_bad (l_ : Launch) (D : va_G) (k : Nat → ClassId) (a : Nat → Nat) (tS : Nat) (sk sv : Nat → Nat) (C : Nat → Nat) (F : Nat → Nat) (E : Nat → Nat → Nat) (M : Nat → Nat) (x1 x2 : Int32) (hR : Rb M F E) (hf : Wf M) (hb : (wIn x1 1 (M 0) && wIn x2 0 3) = false) : Met l_ yX5_surest wsX5_surest ({ frames := 1, cells := 0, slots := 0, locals := 22 }) (va_Pc [.ref (a 0), .int x1, .int x2] (wH (Am tS sk sv) D k (ho a C ++ (bw a 1 k F E)))) (va_Qi (fun (r : Int32) (u : Unit) => r = -2) (fun (u : Unit) (t_ : State) => va_P D vwCl ((fun (_ : Unit) => ho a (nset C 0 (C 0 + 1)) ++ (bw a 1 k F E)) u) t_.heap) (wA (ho a C ++ (bw a 1 k F E)))) 0 0 (wA (ho a C ++ (bw a 1 k F E))) := by
  refine my_entry (cc := cX5_surest) (maxL := 7) (ret := some .int) (by decide) rfl (Nat.le_of_ble_eq_true rfl) ?_
  intro p_ e_ s_ m_ bl_ me_ c_ hz hr hlk hB ls hl
  obtain ⟨hP, hK, hD0, hy⟩ := hB
  have hD := wA.self hD0
  have hS : va_S (wA (ho a C ++ (bw a 1 k F E))) s_.heap s_.heap [] := va_S.rf
  have hl : lv_has ls 7 [(0, .ref (a 0)), (1, .int x1), (2, .int x2)] := hl
  have f0 := hf.n2
  have f1 := hf.n9
  have f2 := hf.fr
  have f3 := hf.gd
  have f4 := hf.pc
  have f5 := hf.wc
  have e0 : F 0 = M 0 := hR.1.1
  have e1 : F 1 = M 1 := hR.1.2.1
  have e2 : F 2 = M 2 := hR.1.2.2.1
  have e3 : F 3 = M 19 := hR.1.2.2.2.1
  have e4 : F 4 = M 32 := hR.1.2.2.2.2
  refine lv_iload_n hz.1 hz.2.1 dX5_surest_0 rfl (lv_at hl 1 rfl) ?_
  refine lv_iconst (v := nI 1) hz.1 hz.2.1 dX5_surest_1 (by decide) ?_
  refine lv_aload_n hz.1 hz.2.1 dX5_surest_2 rfl (lv_at hl 0 rfl) ?_
  refine rg (T := TX5) (N := 11) hz hinX5_surest_X5 hK hP 0 rfl rfl 0 (by decide) (List.mem_of_getElem? (i := 1) rfl) rfl (v := .ref (a 1)) rfl dX5_surest_3 ?_
  refine rg (T := TX0) (N := 12) hz hinX5_surest_X0 hK hP 1 rfl rfl 0 (by decide) (List.mem_of_getElem? (i := 2) rfl) rfl (v := .int (nI (F 0))) rfl dX5_surest_6 ?_
  refine toe (z := nI (M 0)) (by rw [hR.1.1]) ?_
  refine rdS (As := [.int x1, .int (nI 1), .int (nI (M 0))]) (rest := []) hz (c5_within l_ x1 1 (M 0) ) rfl (va_cwS 3 hz.2.2.2.2 gX5_surest_X5_within rfl rfl rfl (by decide +kernel) ⟨Nat.le_of_ble_eq_true rfl, Nat.le_of_ble_eq_true rfl⟩) rfl hl.1 rfl (Nat.le_of_ble_eq_true rfl) dX5_surest_9 ⟨Nat.zero_le _, Nat.zero_le _⟩ ?_
  refine zeq (tgt := 23) hz dX5_surest_12 (by decide) (fun c_12 => ?_) (fun c_12 => ?_)
  · refine lv_aload_n hz.1 hz.2.1 dX5_surest_23 rfl (lv_at hl 0 rfl) ?_
    refine lv_bipush (v := (-2)) hz.1 hz.2.1 dX5_surest_24 (by decide) ?_
    refine wrV (A := wA (ho a C ++ (bw a 1 k F E))) (As := [.int (-2)]) (rest := []) hz (okAm tS sk sv) (c5_bad l_ D k a tS sk sv C  (-2) ) (cwV 1 hz.2.2.2.2 gX5_surest_X5_bad rfl rfl rfl (by decide +kernel) ⟨Nat.le_of_ble_eq_true rfl, Nat.le_of_ble_eq_true rfl⟩) hK hy (hP.sub (ws' := ho a C) [0] rfl) (hD.sub (ws' := ho a C) [0] (by decide) rfl) hS 0 5 rfl rfl rfl rfl hl.1 rfl (Nat.le_of_ble_eq_true rfl) dX5_surest_26 ⟨Nat.zero_le _, Nat.zero_le _⟩ (fun r u H1 locs hp hP1 hS hfr => ?_)
    obtain rfl : r = -2 := hp
    have hP1 : va_P D vwCl (ho a (nset C 0 (C 0 + 1))) H1 := hP1
    have hP : va_P D vwCl (ho a (nset C 0 (C 0 + 1)) ++ (bw a 1 k F E)) H1 := wJn (w1 := ho a (nset C 0 (C 0 + 1))) (wc := ho a C) hP hD [0] rfl rfl hP1 hfr
    generalize H1 = H at hP hS ⊢
    have hD : va_D (wA (ho a C ++ (bw a 1 k F E))) (ho a (nset C 0 (C 0 + 1)) ++ (bw a 1 k F E)) := hD.same rfl
    exact wr_iret hz hr hlk dX5_surest_29 hS (()) hP (rfl)
  · refine lv_iload_n hz.1 hz.2.1 dX5_surest_15 rfl (lv_at hl 2 rfl) ?_
    refine lv_iconst (v := nI 4) hz.1 hz.2.1 dX5_surest_16 (by decide) ?_
    refine rdS (As := [.int x2, .int (nI 4)]) (rest := []) hz (c5_inRow l_ x2 4 3 (by omega) (by omega)) rfl (va_cwS 2 hz.2.2.2.2 gX5_surest_X5_inRow rfl rfl rfl (by decide +kernel) ⟨Nat.le_of_ble_eq_true rfl, Nat.le_of_ble_eq_true rfl⟩) rfl hl.1 rfl (Nat.le_of_ble_eq_true rfl) dX5_surest_17 ⟨Nat.zero_le _, Nat.zero_le _⟩ ?_
    refine zne (tgt := 30) hz dX5_surest_20 (by decide) (fun c_20 => ?_) (fun c_20 => ?_)
    · simp [c_12, c_20] at hb
    · refine lv_aload_n hz.1 hz.2.1 dX5_surest_23 rfl (lv_at hl 0 rfl) ?_
      refine lv_bipush (v := (-2)) hz.1 hz.2.1 dX5_surest_24 (by decide) ?_
      refine wrV (A := wA (ho a C ++ (bw a 1 k F E))) (As := [.int (-2)]) (rest := []) hz (okAm tS sk sv) (c5_bad l_ D k a tS sk sv C  (-2) ) (cwV 1 hz.2.2.2.2 gX5_surest_X5_bad rfl rfl rfl (by decide +kernel) ⟨Nat.le_of_ble_eq_true rfl, Nat.le_of_ble_eq_true rfl⟩) hK hy (hP.sub (ws' := ho a C) [0] rfl) (hD.sub (ws' := ho a C) [0] (by decide) rfl) hS 0 5 rfl rfl rfl rfl hl.1 rfl (Nat.le_of_ble_eq_true rfl) dX5_surest_26 ⟨Nat.zero_le _, Nat.zero_le _⟩ (fun r u H1 locs hp hP1 hS hfr => ?_)
      obtain rfl : r = -2 := hp
      have hP1 : va_P D vwCl (ho a (nset C 0 (C 0 + 1))) H1 := hP1
      have hP : va_P D vwCl (ho a (nset C 0 (C 0 + 1)) ++ (bw a 1 k F E)) H1 := wJn (w1 := ho a (nset C 0 (C 0 + 1))) (wc := ho a C) hP hD [0] rfl rfl hP1 hfr
      generalize H1 = H at hP hS ⊢
      have hD : va_D (wA (ho a C ++ (bw a 1 k F E))) (ho a (nset C 0 (C 0 + 1)) ++ (bw a 1 k F E)) := hD.same rfl
      exact wr_iret hz hr hlk dX5_surest_29 hS (()) hP (rfl)

theorem hinX5_whence_X5 : ∀ w ∈ wsX50, w ∈ wsX5_whence := fun _ h => List.mem_cons_of_mem _ (List.mem_append_left _ (List.mem_append_right _ h))
theorem hinX5_whence_X0 : ∀ w ∈ wsX00, w ∈ wsX5_whence := fun _ h => List.mem_cons_of_mem _ (List.mem_append_right _ h)
set_option maxHeartbeats 4000000 in
set_option maxRecDepth 100000 in
theorem c5_whence_bad (l_ : Launch) (D : va_G) (k : Nat → ClassId) (a : Nat → Nat) (tS : Nat) (sk sv : Nat → Nat) (C : Nat → Nat) (F : Nat → Nat) (E : Nat → Nat → Nat) (M : Nat → Nat) (x1 x2 x3 : Int32) (hR : Rb M F E) (hf : Wf M) (hb : (wIn x1 0 (M 0 - 1) && wIn x2 0 11 && wIn x3 1 3) = false) : Met l_ yX5_whence wsX5_whence ({ frames := 2, cells := 0, slots := 0, locals := 42 }) (va_Pc [.ref (a 0), .int x1, .int x2, .int x3] (wH (Am tS sk sv) D k (ho a C ++ (bw a 1 k F E)))) (va_Qi (fun (r : Int32) (u : Unit) => r = -2) (fun (u : Unit) (t_ : State) => va_P D vwCl ((fun (_ : Unit) => ho a (nset C 0 (C 0 + 1)) ++ (bw a 1 k F E)) u) t_.heap) (wA (ho a C ++ (bw a 1 k F E)))) 0 0 (wA (ho a C ++ (bw a 1 k F E))) := by
  refine my_entry (cc := cX5_whence) (maxL := 6) (ret := some .int) (by decide) rfl (Nat.le_of_ble_eq_true rfl) ?_
  intro p_ e_ s_ m_ bl_ me_ c_ hz hr hlk hB ls hl
  obtain ⟨hP, hK, hD0, hy⟩ := hB
  have hD := wA.self hD0
  have hS : va_S (wA (ho a C ++ (bw a 1 k F E))) s_.heap s_.heap [] := va_S.rf
  have hl : lv_has ls 6 [(0, .ref (a 0)), (1, .int x1), (2, .int x2), (3, .int x3)] := hl
  have f0 := hf.n2
  have f1 := hf.n9
  have f2 := hf.fr
  have f3 := hf.gd
  have f4 := hf.pc
  have f5 := hf.wc
  have e0 : F 0 = M 0 := hR.1.1
  have e1 : F 1 = M 1 := hR.1.2.1
  have e2 : F 2 = M 2 := hR.1.2.2.1
  have e3 : F 3 = M 19 := hR.1.2.2.2.1
  have e4 : F 4 = M 32 := hR.1.2.2.2.2
  refine lv_aload_n hz.1 hz.2.1 dX5_whence_0 rfl (lv_at hl 0 rfl) ?_
  refine rg (T := TX5) (N := 11) hz hinX5_whence_X5 hK hP 0 rfl rfl 0 (by decide) (List.mem_of_getElem? (i := 1) rfl) rfl (v := .ref (a 1)) rfl dX5_whence_1 ?_
  refine lv_iload_n hz.1 hz.2.1 dX5_whence_4 rfl (lv_at hl 1 rfl) ?_
  refine rdV (A := wA (ho a C ++ (bw a 1 k F E))) (As := [.int x1]) (rest := []) hz (okAm tS sk sv) (c0_isPost l_ D k a 1 tS sk sv F E M x1 hR hf) (cwV 1 hz.2.2.2.2 gX5_whence_X0_isPost rfl rfl rfl (by decide +kernel) ⟨Nat.le_of_ble_eq_true rfl, Nat.le_of_ble_eq_true rfl⟩) hK hy (hP.sub (ws' := bw a 1 k F E) [1, 2, 3, 4, 5, 6, 7, 8] rfl) (hD.sub (ws' := bw a 1 k F E) [1, 2, 3, 4, 5, 6, 7, 8] (by decide) rfl) hS 0 0 rfl rfl rfl rfl hl.1 rfl (Nat.le_of_ble_eq_true rfl) dX5_whence_5 ⟨Nat.zero_le _, Nat.zero_le _⟩ ?_
  refine zeq (tgt := 29) hz dX5_whence_8 (by decide) (fun c_8 => ?_) (fun c_8 => ?_)
  · refine lv_aload_n hz.1 hz.2.1 dX5_whence_29 rfl (lv_at hl 0 rfl) ?_
    refine lv_bipush (v := (-2)) hz.1 hz.2.1 dX5_whence_30 (by decide) ?_
    refine wrV (A := wA (ho a C ++ (bw a 1 k F E))) (As := [.int (-2)]) (rest := []) hz (okAm tS sk sv) (c5_bad l_ D k a tS sk sv C  (-2) ) (cwV 1 hz.2.2.2.2 gX5_whence_X5_bad rfl rfl rfl (by decide +kernel) ⟨Nat.le_of_ble_eq_true rfl, Nat.le_of_ble_eq_true rfl⟩) hK hy (hP.sub (ws' := ho a C) [0] rfl) (hD.sub (ws' := ho a C) [0] (by decide) rfl) hS 0 5 rfl rfl rfl rfl hl.1 rfl (Nat.le_of_ble_eq_true rfl) dX5_whence_32 ⟨Nat.zero_le _, Nat.zero_le _⟩ (fun r u H1 locs hp hP1 hS hfr => ?_)
    obtain rfl : r = -2 := hp
    have hP1 : va_P D vwCl (ho a (nset C 0 (C 0 + 1))) H1 := hP1
    have hP : va_P D vwCl (ho a (nset C 0 (C 0 + 1)) ++ (bw a 1 k F E)) H1 := wJn (w1 := ho a (nset C 0 (C 0 + 1))) (wc := ho a C) hP hD [0] rfl rfl hP1 hfr
    generalize H1 = H at hP hS ⊢
    have hD : va_D (wA (ho a C ++ (bw a 1 k F E))) (ho a (nset C 0 (C 0 + 1)) ++ (bw a 1 k F E)) := hD.same rfl
    exact wr_iret hz hr hlk dX5_whence_35 hS (()) hP (rfl)
  · refine lv_iload_n hz.1 hz.2.1 dX5_whence_11 rfl (lv_at hl 2 rfl) ?_
    refine lv_bipush (v := nI 12) hz.1 hz.2.1 dX5_whence_12 (by decide) ?_
    refine rdS (As := [.int x2, .int (nI 12)]) (rest := []) hz (c5_inRow l_ x2 12 11 (by omega) (by omega)) rfl (va_cwS 2 hz.2.2.2.2 gX5_whence_X5_inRow rfl rfl rfl (by decide +kernel) ⟨Nat.le_of_ble_eq_true rfl, Nat.le_of_ble_eq_true rfl⟩) rfl hl.1 rfl (Nat.le_of_ble_eq_true rfl) dX5_whence_14 ⟨Nat.zero_le _, Nat.zero_le _⟩ ?_
    refine zeq (tgt := 29) hz dX5_whence_17 (by decide) (fun c_17 => ?_) (fun c_17 => ?_)
    · refine lv_aload_n hz.1 hz.2.1 dX5_whence_29 rfl (lv_at hl 0 rfl) ?_
      refine lv_bipush (v := (-2)) hz.1 hz.2.1 dX5_whence_30 (by decide) ?_
      refine wrV (A := wA (ho a C ++ (bw a 1 k F E))) (As := [.int (-2)]) (rest := []) hz (okAm tS sk sv) (c5_bad l_ D k a tS sk sv C  (-2) ) (cwV 1 hz.2.2.2.2 gX5_whence_X5_bad rfl rfl rfl (by decide +kernel) ⟨Nat.le_of_ble_eq_true rfl, Nat.le_of_ble_eq_true rfl⟩) hK hy (hP.sub (ws' := ho a C) [0] rfl) (hD.sub (ws' := ho a C) [0] (by decide) rfl) hS 0 5 rfl rfl rfl rfl hl.1 rfl (Nat.le_of_ble_eq_true rfl) dX5_whence_32 ⟨Nat.zero_le _, Nat.zero_le _⟩ (fun r u H1 locs hp hP1 hS hfr => ?_)
      obtain rfl : r = -2 := hp
      have hP1 : va_P D vwCl (ho a (nset C 0 (C 0 + 1))) H1 := hP1
      have hP : va_P D vwCl (ho a (nset C 0 (C 0 + 1)) ++ (bw a 1 k F E)) H1 := wJn (w1 := ho a (nset C 0 (C 0 + 1))) (wc := ho a C) hP hD [0] rfl rfl hP1 hfr
      generalize H1 = H at hP hS ⊢
      have hD : va_D (wA (ho a C ++ (bw a 1 k F E))) (ho a (nset C 0 (C 0 + 1)) ++ (bw a 1 k F E)) := hD.same rfl
      exact wr_iret hz hr hlk dX5_whence_35 hS (()) hP (rfl)
    · refine lv_iload_n hz.1 hz.2.1 dX5_whence_20 rfl (lv_at hl 3 rfl) ?_
      refine lv_iconst (v := nI 1) hz.1 hz.2.1 dX5_whence_21 (by decide) ?_
      refine lv_iconst (v := nI 3) hz.1 hz.2.1 dX5_whence_22 (by decide) ?_
      refine rdS (As := [.int x3, .int (nI 1), .int (nI 3)]) (rest := []) hz (c5_within l_ x3 1 3 ) rfl (va_cwS 3 hz.2.2.2.2 gX5_whence_X5_within rfl rfl rfl (by decide +kernel) ⟨Nat.le_of_ble_eq_true rfl, Nat.le_of_ble_eq_true rfl⟩) rfl hl.1 rfl (Nat.le_of_ble_eq_true rfl) dX5_whence_23 ⟨Nat.zero_le _, Nat.zero_le _⟩ ?_
      refine zne (tgt := 36) hz dX5_whence_26 (by decide) (fun c_26 => ?_) (fun c_26 => ?_)
      · simp [c_8, c_17, c_26] at hb
      · refine lv_aload_n hz.1 hz.2.1 dX5_whence_29 rfl (lv_at hl 0 rfl) ?_
        refine lv_bipush (v := (-2)) hz.1 hz.2.1 dX5_whence_30 (by decide) ?_
        refine wrV (A := wA (ho a C ++ (bw a 1 k F E))) (As := [.int (-2)]) (rest := []) hz (okAm tS sk sv) (c5_bad l_ D k a tS sk sv C  (-2) ) (cwV 1 hz.2.2.2.2 gX5_whence_X5_bad rfl rfl rfl (by decide +kernel) ⟨Nat.le_of_ble_eq_true rfl, Nat.le_of_ble_eq_true rfl⟩) hK hy (hP.sub (ws' := ho a C) [0] rfl) (hD.sub (ws' := ho a C) [0] (by decide) rfl) hS 0 5 rfl rfl rfl rfl hl.1 rfl (Nat.le_of_ble_eq_true rfl) dX5_whence_32 ⟨Nat.zero_le _, Nat.zero_le _⟩ (fun r u H1 locs hp hP1 hS hfr => ?_)
        obtain rfl : r = -2 := hp
        have hP1 : va_P D vwCl (ho a (nset C 0 (C 0 + 1))) H1 := hP1
        have hP : va_P D vwCl (ho a (nset C 0 (C 0 + 1)) ++ (bw a 1 k F E)) H1 := wJn (w1 := ho a (nset C 0 (C 0 + 1))) (wc := ho a C) hP hD [0] rfl rfl hP1 hfr
        generalize H1 = H at hP hS ⊢
        have hD : va_D (wA (ho a C ++ (bw a 1 k F E))) (ho a (nset C 0 (C 0 + 1)) ++ (bw a 1 k F E)) := hD.same rfl
        exact wr_iret hz hr hlk dX5_whence_35 hS (()) hP (rfl)

set_option maxHeartbeats 4000000 in
set_option maxRecDepth 100000 in
theorem c5_whence_ok (l_ : Launch) (D : va_G) (k : Nat → ClassId) (a : Nat → Nat) (tS : Nat) (sk sv : Nat → Nat) (C : Nat → Nat) (F : Nat → Nat) (E : Nat → Nat → Nat) (M : Nat → Nat) (p nt s : Nat) (hR : Rb M F E) (hf : Wf M) (h0 : p < M 0) (h1 : nt ≤ 11) (h2 : 1 ≤ s) (h3 : s ≤ 3) : Met l_ yX5_whence wsX5_whence ({ frames := 3, cells := 0, slots := 0, locals := 67 }) (va_Pc [.ref (a 0), .int (nI p), .int (nI nt), .int (nI s)] (wH (Am tS sk sv) D k (ho a C ++ (bw a 1 k F E)))) (QcRead (nI (sWhence M p nt s))) 0 0 (fun _ => False) := by
  refine my_entry (cc := cX5_whence) (maxL := 6) (ret := some .int) (by decide) rfl (Nat.le_of_ble_eq_true rfl) ?_
  intro p_ e_ s_ m_ bl_ me_ c_ hz hr hlk hB ls hl
  obtain ⟨hP, hK, hD0, hy⟩ := hB
  have hD := wA.self hD0
  have hS : va_S (wA (ho a C ++ (bw a 1 k F E))) s_.heap s_.heap [] := va_S.rf
  have hl : lv_has ls 6 [(0, .ref (a 0)), (1, .int (nI p)), (2, .int (nI nt)), (3, .int (nI s))] := hl
  have f0 := hf.n2
  have f1 := hf.n9
  have f2 := hf.fr
  have f3 := hf.gd
  have f4 := hf.pc
  have f5 := hf.wc
  have e0 : F 0 = M 0 := hR.1.1
  have e1 : F 1 = M 1 := hR.1.2.1
  have e2 : F 2 = M 2 := hR.1.2.2.1
  have e3 : F 3 = M 19 := hR.1.2.2.2.1
  have e4 : F 4 = M 32 := hR.1.2.2.2.2
  refine lv_aload_n hz.1 hz.2.1 dX5_whence_0 rfl (lv_at hl 0 rfl) ?_
  refine rg (T := TX5) (N := 11) hz hinX5_whence_X5 hK hP 0 rfl rfl 0 (by decide) (List.mem_of_getElem? (i := 1) rfl) rfl (v := .ref (a 1)) rfl dX5_whence_1 ?_
  refine lv_iload_n hz.1 hz.2.1 dX5_whence_4 rfl (lv_at hl 1 rfl) ?_
  refine rdV (A := wA (ho a C ++ (bw a 1 k F E))) (As := [.int (nI p)]) (rest := []) hz (okAm tS sk sv) (c0_isPost l_ D k a 1 tS sk sv F E M (nI p) hR hf) (cwV 1 hz.2.2.2.2 gX5_whence_X0_isPost rfl rfl rfl (by decide +kernel) ⟨Nat.le_of_ble_eq_true rfl, Nat.le_of_ble_eq_true rfl⟩) hK hy (hP.sub (ws' := bw a 1 k F E) [1, 2, 3, 4, 5, 6, 7, 8] rfl) (hD.sub (ws' := bw a 1 k F E) [1, 2, 3, 4, 5, 6, 7, 8] (by decide) rfl) hS 0 0 rfl rfl rfl rfl hl.1 rfl (Nat.le_of_ble_eq_true rfl) dX5_whence_5 ⟨Nat.zero_le _, Nat.zero_le _⟩ ?_
  refine zeq (tgt := 29) hz dX5_whence_8 (by decide) (fun c_8 => ?_) (fun c_8 => ?_)
  · exact absurd ((wIn_ok (by omega) (by omega) (by omega)).symm.trans c_8) (by decide)
  · refine lv_iload_n hz.1 hz.2.1 dX5_whence_11 rfl (lv_at hl 2 rfl) ?_
    refine lv_bipush (v := nI 12) hz.1 hz.2.1 dX5_whence_12 (by decide) ?_
    refine rdS (As := [.int (nI nt), .int (nI 12)]) (rest := []) hz (c5_inRow l_ (nI nt) 12 11 (by omega) (by omega)) rfl (va_cwS 2 hz.2.2.2.2 gX5_whence_X5_inRow rfl rfl rfl (by decide +kernel) ⟨Nat.le_of_ble_eq_true rfl, Nat.le_of_ble_eq_true rfl⟩) rfl hl.1 rfl (Nat.le_of_ble_eq_true rfl) dX5_whence_14 ⟨Nat.zero_le _, Nat.zero_le _⟩ ?_
    refine zeq (tgt := 29) hz dX5_whence_17 (by decide) (fun c_17 => ?_) (fun c_17 => ?_)
    · exact absurd ((wIn_ok (by omega) (by omega) (by omega)).symm.trans c_17) (by decide)
    · refine lv_iload_n hz.1 hz.2.1 dX5_whence_20 rfl (lv_at hl 3 rfl) ?_
      refine lv_iconst (v := nI 1) hz.1 hz.2.1 dX5_whence_21 (by decide) ?_
      refine lv_iconst (v := nI 3) hz.1 hz.2.1 dX5_whence_22 (by decide) ?_
      refine rdS (As := [.int (nI s), .int (nI 1), .int (nI 3)]) (rest := []) hz (c5_within l_ (nI s) 1 3 ) rfl (va_cwS 3 hz.2.2.2.2 gX5_whence_X5_within rfl rfl rfl (by decide +kernel) ⟨Nat.le_of_ble_eq_true rfl, Nat.le_of_ble_eq_true rfl⟩) rfl hl.1 rfl (Nat.le_of_ble_eq_true rfl) dX5_whence_23 ⟨Nat.zero_le _, Nat.zero_le _⟩ ?_
      refine zne (tgt := 36) hz dX5_whence_26 (by decide) (fun c_26 => ?_) (fun c_26 => ?_)
      · refine lv_iconst (v := nI 0) hz.1 hz.2.1 dX5_whence_36 (by decide) ?_
        refine lv_istore (lv' := [(4, .int (nI 0)), (0, .ref (a 0)), (1, .int (nI p)), (2, .int (nI nt)), (3, .int (nI s))]) hz.1 hz.2.1 dX5_whence_37 hl (by decide) rfl (fun ls hl => ?_)
        refine lv_iconst (v := nI 0) hz.1 hz.2.1 dX5_whence_39 (by decide) ?_
        refine lv_istore (lv' := [(5, .int (nI 0)), (4, .int (nI 0)), (0, .ref (a 0)), (1, .int (nI p)), (2, .int (nI nt)), (3, .int (nI s))]) hz.1 hz.2.1 dX5_whence_40 hl (by decide) rfl (fun ls hl => ?_)
        have lp_42 : ∀ (fu : Nat) (w : Nat), (w ≤ M 0 - 1) → M 0 - 1 - w < fu → ∀ ls : Array Slot, lv_has ls 6 [(0, .ref (a 0)), (1, .int (nI p)), (2, .int (nI nt)), (3, .int (nI s)), (4, .int (nI (sOr 0 (sWcF M p nt s) w))), (5, .int (nI w))] → W p_ l_ e_ ({ frames := 3, cells := 0, slots := 0, locals := 67 }) s_ m_ [.ref (a 0), .int (nI p), .int (nI nt), .int (nI s)].toArray bl_ me_ c_ s_.heap [] 0 0 (MQ bl_ (QcRead (nI (sWhence M p nt s))) [.ref (a 0), .int (nI p), .int (nI nt), .int (nI s)].toArray s_ 0 0 (fun _ => False)) (F0 m_ 42 ls []) := by
          intro fu
          induction fu with
          | zero => intro w hw hm; exact absurd hm (Nat.not_lt_zero _)
          | succ fu ih42 =>
            intro w hw hm ls hl
            refine lv_iload hz.1 hz.2.1 dX5_whence_42 (lv_at hl 5 rfl) ?_
            refine lv_aload_n hz.1 hz.2.1 dX5_whence_44 rfl (lv_at hl 0 rfl) ?_
            refine rg (T := TX5) (N := 11) hz hinX5_whence_X5 hK hP 0 rfl rfl 0 (by decide) (List.mem_of_getElem? (i := 1) rfl) rfl (v := .ref (a 1)) rfl dX5_whence_45 ?_
            refine rdV (A := wA (ho a C ++ (bw a 1 k F E))) (As := []) (rest := [.int (nI w)]) hz (okAm tS sk sv) (c0_wireCount l_ D k a 1 tS sk sv F E M  hR hf) (cwV 0 hz.2.2.2.2 gX5_whence_X0_wireCount rfl rfl rfl (by decide +kernel) ⟨Nat.le_of_ble_eq_true rfl, Nat.le_of_ble_eq_true rfl⟩) hK hy (hP.sub (ws' := bw a 1 k F E) [1, 2, 3, 4, 5, 6, 7, 8] rfl) (hD.sub (ws' := bw a 1 k F E) [1, 2, 3, 4, 5, 6, 7, 8] (by decide) rfl) hS 0 0 rfl rfl rfl rfl hl.1 rfl (Nat.le_of_ble_eq_true rfl) dX5_whence_48 ⟨Nat.zero_le _, Nat.zero_le _⟩ ?_
            refine jge (tgt := 99) hz dX5_whence_51 (by decide) (by omega) (by omega) (fun c_51 => ?_) (fun c_51 => ?_)
            · obtain rfl : w = M 0 - 1 := by omega
              refine lv_iload hz.1 hz.2.1 dX5_whence_99 (lv_at hl 4 rfl) ?_
              exact rd_iret hz hr hlk dX5_whence_101 (rfl)
            · have n1 := sNote_lt M w
              have r1 := sReach_lt hf w s
              have b1 := sReach_bit hf h0 c_51 h3
              refine lv_aload_n hz.1 hz.2.1 dX5_whence_54 rfl (lv_at hl 0 rfl) ?_
              refine rg (T := TX5) (N := 11) hz hinX5_whence_X5 hK hP 0 rfl rfl 0 (by decide) (List.mem_of_getElem? (i := 1) rfl) rfl (v := .ref (a 1)) rfl dX5_whence_55 ?_
              refine lv_iload hz.1 hz.2.1 dX5_whence_58 (lv_at hl 5 rfl) ?_
              refine rdV (A := wA (ho a C ++ (bw a 1 k F E))) (As := [.int (nI w)]) (rest := []) hz (okAm tS sk sv) (c0_noteOf l_ D k a 1 tS sk sv F E M w hR hf (by omega)) (cwV 1 hz.2.2.2.2 gX5_whence_X0_noteOf rfl rfl rfl (by decide +kernel) ⟨Nat.le_of_ble_eq_true rfl, Nat.le_of_ble_eq_true rfl⟩) hK hy (hP.sub (ws' := bw a 1 k F E) [1, 2, 3, 4, 5, 6, 7, 8] rfl) (hD.sub (ws' := bw a 1 k F E) [1, 2, 3, 4, 5, 6, 7, 8] (by decide) rfl) hS 0 0 rfl rfl rfl rfl hl.1 rfl (Nat.le_of_ble_eq_true rfl) dX5_whence_60 ⟨Nat.zero_le _, Nat.zero_le _⟩ ?_
              refine lv_iload_n hz.1 hz.2.1 dX5_whence_63 rfl (lv_at hl 2 rfl) ?_
              refine jne (tgt := 93) hz dX5_whence_64 (by decide) (by omega) (by omega) (fun c_64 => ?_) (fun c_64 => ?_)
              · rw [show sOr 0 (sWcF M p nt s) w = sOr 0 (sWcF M p nt s) (w + 1) by simp [sOr, sWcF, c_64]] at hl
                refine lv_iinc (v := nI (w + 1)) (lv' := [(5, .int (nI (w + 1))), (0, .ref (a 0)), (1, .int (nI p)), (2, .int (nI nt)), (3, .int (nI s)), (4, .int (nI (sOr 0 (sWcF M p nt s) (w + 1))))]) hz.1 hz.2.1 dX5_whence_93 hl (k := 5) rfl (nI_add _ 1) (by decide) rfl (fun ls hl => ?_)
                refine lv_goto (tgt := 42) hz.1 hz.2.1 dX5_whence_96 (by decide) ?_
                exact ih42 (w + 1) (by omega) (by omega) ls (lv_sub hl [1, 2, 3, 4, 5, 0] rfl)
              · refine lv_aload_n hz.1 hz.2.1 dX5_whence_67 rfl (lv_at hl 0 rfl) ?_
                refine rg (T := TX5) (N := 11) hz hinX5_whence_X5 hK hP 0 rfl rfl 0 (by decide) (List.mem_of_getElem? (i := 1) rfl) rfl (v := .ref (a 1)) rfl dX5_whence_68 ?_
                refine lv_iload hz.1 hz.2.1 dX5_whence_71 (lv_at hl 5 rfl) ?_
                refine lv_iload_n hz.1 hz.2.1 dX5_whence_73 rfl (lv_at hl 3 rfl) ?_
                refine rdV (A := wA (ho a C ++ (bw a 1 k F E))) (As := [.int (nI w), .int (nI s)]) (rest := []) hz (okAm tS sk sv) (c0_reach l_ D k a 1 tS sk sv F E M w s hR hf (by omega) (by omega) (by omega)) (cwV 2 hz.2.2.2.2 gX5_whence_X0_reach rfl rfl rfl (by decide +kernel) ⟨Nat.le_of_ble_eq_true rfl, Nat.le_of_ble_eq_true rfl⟩) hK hy (hP.sub (ws' := bw a 1 k F E) [1, 2, 3, 4, 5, 6, 7, 8] rfl) (hD.sub (ws' := bw a 1 k F E) [1, 2, 3, 4, 5, 6, 7, 8] (by decide) rfl) hS 0 0 rfl rfl rfl rfl hl.1 rfl (Nat.le_of_ble_eq_true rfl) dX5_whence_74 ⟨Nat.zero_le _, Nat.zero_le _⟩ ?_
                refine lv_iload_n hz.1 hz.2.1 dX5_whence_77 rfl (lv_at hl 1 rfl) ?_
                refine rdS (As := [.int (nI (sReach M w s)), .int (nI p)]) (rest := []) hz (c5_has l_ (sReach M w s) p (by omega) (by omega)) rfl (va_cwS 2 hz.2.2.2.2 gX5_whence_X5_has rfl rfl rfl (by decide +kernel) ⟨Nat.le_of_ble_eq_true rfl, Nat.le_of_ble_eq_true rfl⟩) rfl hl.1 rfl (Nat.le_of_ble_eq_true rfl) dX5_whence_78 ⟨Nat.zero_le _, Nat.zero_le _⟩ ?_
                refine zeq (tgt := 93) hz dX5_whence_81 (by decide) (fun c_81 => ?_) (fun c_81 => ?_)
                · have c81 := b1.symm.trans c_81
                  rw [show sOr 0 (sWcF M p nt s) w = sOr 0 (sWcF M p nt s) (w + 1) by simp [sOr, sWcF, c81]] at hl
                  refine lv_iinc (v := nI (w + 1)) (lv' := [(5, .int (nI (w + 1))), (0, .ref (a 0)), (1, .int (nI p)), (2, .int (nI nt)), (3, .int (nI s)), (4, .int (nI (sOr 0 (sWcF M p nt s) (w + 1))))]) hz.1 hz.2.1 dX5_whence_93 hl (k := 5) rfl (nI_add _ 1) (by decide) rfl (fun ls hl => ?_)
                  refine lv_goto (tgt := 42) hz.1 hz.2.1 dX5_whence_96 (by decide) ?_
                  exact ih42 (w + 1) (by omega) (by omega) ls (lv_sub hl [1, 2, 3, 4, 5, 0] rfl)
                · have c81 := b1.symm.trans c_81
                  refine lv_iload hz.1 hz.2.1 dX5_whence_84 (lv_at hl 4 rfl) ?_
                  refine lv_iconst (v := nI 1) hz.1 hz.2.1 dX5_whence_86 (by decide) ?_
                  refine lv_iload hz.1 hz.2.1 dX5_whence_87 (lv_at hl 5 rfl) ?_
                  refine lv_ishl hz.1 hz.2.1 dX5_whence_89 ?_
                  refine toe (z := nI (2 ^ w)) (nI_shl1 (by omega)) ?_
                  refine lv_ior hz.1 hz.2.1 dX5_whence_90 ?_
                  refine toe (z := nI (sOr 0 (sWcF M p nt s) (w + 1))) (by rw [fa_or]; simp [sOr, sWcF, c_64, c81]) ?_
                  refine lv_istore (lv' := [(4, .int (nI (sOr 0 (sWcF M p nt s) (w + 1)))), (0, .ref (a 0)), (1, .int (nI p)), (2, .int (nI nt)), (3, .int (nI s)), (5, .int (nI w))]) hz.1 hz.2.1 dX5_whence_91 hl (by decide) rfl (fun ls hl => ?_)
                  refine lv_iinc (v := nI (w + 1)) (lv' := [(5, .int (nI (w + 1))), (4, .int (nI (sOr 0 (sWcF M p nt s) (w + 1)))), (0, .ref (a 0)), (1, .int (nI p)), (2, .int (nI nt)), (3, .int (nI s))]) hz.1 hz.2.1 dX5_whence_93 hl (k := 5) rfl (nI_add _ 1) (by decide) rfl (fun ls hl => ?_)
                  refine lv_goto (tgt := 42) hz.1 hz.2.1 dX5_whence_96 (by decide) ?_
                  exact ih42 (w + 1) (by omega) (by omega) ls (lv_sub hl [2, 3, 4, 5, 1, 0] rfl)
        exact lp_42 _ 0 (by omega) (Nat.lt_succ_self _) ls (lv_sub hl [2, 3, 4, 5, 1, 0] rfl)
      · exact absurd ((wIn_ok (by omega) (by omega) (by omega)).symm.trans c_26) (by decide)

theorem hinX5_doubt_X5 : ∀ w ∈ wsX50, w ∈ wsX5_doubt := fun _ h => List.mem_cons_of_mem _ (List.mem_append_left _ (List.mem_append_right _ h))
theorem hinX5_doubt_X2 : ∀ w ∈ wsX20, w ∈ wsX5_doubt := fun _ h => List.mem_cons_of_mem _ (List.mem_append_right _ h)
set_option maxHeartbeats 4000000 in
set_option maxRecDepth 100000 in
theorem c5_doubt_bad (l_ : Launch) (D : va_G) (k : Nat → ClassId) (a : Nat → Nat) (tS : Nat) (sk sv : Nat → Nat) (C : Nat → Nat) (F : Nat → Nat) (E : Nat → Nat → Nat) (M : Nat → Nat) (x1 x2 : Int32) (hR : Rb M F E) (hf : Wf M) (hb : (wIn x1 0 100 && wIn x2 0 100) = false) : Met l_ yX5_doubt wsX5_doubt ({ frames := 1, cells := 0, slots := 0, locals := 22 }) (va_Pc [.ref (a 0), .int x1, .int x2] (wH (Am tS sk sv) D k (ho a C ++ (bw a 1 k F E)))) (va_Qi (fun (r : Int32) (u : Unit) => r = -2) (fun (u : Unit) (t_ : State) => va_P D vwCl ((fun (_ : Unit) => ho a (nset C 0 (C 0 + 1)) ++ (bw a 1 k F E)) u) t_.heap) (wA (ho a C ++ (bw a 1 k F E)))) 0 0 (wA (ho a C ++ (bw a 1 k F E))) := by
  refine my_entry (cc := cX5_doubt) (maxL := 4) (ret := some .int) (by decide) rfl (Nat.le_of_ble_eq_true rfl) ?_
  intro p_ e_ s_ m_ bl_ me_ c_ hz hr hlk hB ls hl
  obtain ⟨hP, hK, hD0, hy⟩ := hB
  have hD := wA.self hD0
  have hS : va_S (wA (ho a C ++ (bw a 1 k F E))) s_.heap s_.heap [] := va_S.rf
  have hl : lv_has ls 4 [(0, .ref (a 0)), (1, .int x1), (2, .int x2)] := hl
  have f0 := hf.n2
  have f1 := hf.n9
  have f2 := hf.fr
  have f3 := hf.gd
  have f4 := hf.pc
  have f5 := hf.wc
  have e0 : F 0 = M 0 := hR.1.1
  have e1 : F 1 = M 1 := hR.1.2.1
  have e2 : F 2 = M 2 := hR.1.2.2.1
  have e3 : F 3 = M 19 := hR.1.2.2.2.1
  have e4 : F 4 = M 32 := hR.1.2.2.2.2
  refine lv_iload_n hz.1 hz.2.1 dX5_doubt_0 rfl (lv_at hl 1 rfl) ?_
  refine lv_iconst (v := nI 0) hz.1 hz.2.1 dX5_doubt_1 (by decide) ?_
  refine lv_bipush (v := nI 100) hz.1 hz.2.1 dX5_doubt_2 (by decide) ?_
  refine rdS (As := [.int x1, .int (nI 0), .int (nI 100)]) (rest := []) hz (c5_within l_ x1 0 100 ) rfl (va_cwS 3 hz.2.2.2.2 gX5_doubt_X5_within rfl rfl rfl (by decide +kernel) ⟨Nat.le_of_ble_eq_true rfl, Nat.le_of_ble_eq_true rfl⟩) rfl hl.1 rfl (Nat.le_of_ble_eq_true rfl) dX5_doubt_4 ⟨Nat.zero_le _, Nat.zero_le _⟩ ?_
  refine zeq (tgt := 20) hz dX5_doubt_7 (by decide) (fun c_7 => ?_) (fun c_7 => ?_)
  · refine lv_aload_n hz.1 hz.2.1 dX5_doubt_20 rfl (lv_at hl 0 rfl) ?_
    refine lv_bipush (v := (-2)) hz.1 hz.2.1 dX5_doubt_21 (by decide) ?_
    refine wrV (A := wA (ho a C ++ (bw a 1 k F E))) (As := [.int (-2)]) (rest := []) hz (okAm tS sk sv) (c5_bad l_ D k a tS sk sv C  (-2) ) (cwV 1 hz.2.2.2.2 gX5_doubt_X5_bad rfl rfl rfl (by decide +kernel) ⟨Nat.le_of_ble_eq_true rfl, Nat.le_of_ble_eq_true rfl⟩) hK hy (hP.sub (ws' := ho a C) [0] rfl) (hD.sub (ws' := ho a C) [0] (by decide) rfl) hS 0 5 rfl rfl rfl rfl hl.1 rfl (Nat.le_of_ble_eq_true rfl) dX5_doubt_23 ⟨Nat.zero_le _, Nat.zero_le _⟩ (fun r u H1 locs hp hP1 hS hfr => ?_)
    obtain rfl : r = -2 := hp
    have hP1 : va_P D vwCl (ho a (nset C 0 (C 0 + 1))) H1 := hP1
    have hP : va_P D vwCl (ho a (nset C 0 (C 0 + 1)) ++ (bw a 1 k F E)) H1 := wJn (w1 := ho a (nset C 0 (C 0 + 1))) (wc := ho a C) hP hD [0] rfl rfl hP1 hfr
    generalize H1 = H at hP hS ⊢
    have hD : va_D (wA (ho a C ++ (bw a 1 k F E))) (ho a (nset C 0 (C 0 + 1)) ++ (bw a 1 k F E)) := hD.same rfl
    exact wr_iret hz hr hlk dX5_doubt_26 hS (()) hP (rfl)
  · refine lv_iload_n hz.1 hz.2.1 dX5_doubt_10 rfl (lv_at hl 2 rfl) ?_
    refine lv_iconst (v := nI 0) hz.1 hz.2.1 dX5_doubt_11 (by decide) ?_
    refine lv_bipush (v := nI 100) hz.1 hz.2.1 dX5_doubt_12 (by decide) ?_
    refine rdS (As := [.int x2, .int (nI 0), .int (nI 100)]) (rest := []) hz (c5_within l_ x2 0 100 ) rfl (va_cwS 3 hz.2.2.2.2 gX5_doubt_X5_within rfl rfl rfl (by decide +kernel) ⟨Nat.le_of_ble_eq_true rfl, Nat.le_of_ble_eq_true rfl⟩) rfl hl.1 rfl (Nat.le_of_ble_eq_true rfl) dX5_doubt_14 ⟨Nat.zero_le _, Nat.zero_le _⟩ ?_
    refine zne (tgt := 27) hz dX5_doubt_17 (by decide) (fun c_17 => ?_) (fun c_17 => ?_)
    · simp [c_7, c_17] at hb
    · refine lv_aload_n hz.1 hz.2.1 dX5_doubt_20 rfl (lv_at hl 0 rfl) ?_
      refine lv_bipush (v := (-2)) hz.1 hz.2.1 dX5_doubt_21 (by decide) ?_
      refine wrV (A := wA (ho a C ++ (bw a 1 k F E))) (As := [.int (-2)]) (rest := []) hz (okAm tS sk sv) (c5_bad l_ D k a tS sk sv C  (-2) ) (cwV 1 hz.2.2.2.2 gX5_doubt_X5_bad rfl rfl rfl (by decide +kernel) ⟨Nat.le_of_ble_eq_true rfl, Nat.le_of_ble_eq_true rfl⟩) hK hy (hP.sub (ws' := ho a C) [0] rfl) (hD.sub (ws' := ho a C) [0] (by decide) rfl) hS 0 5 rfl rfl rfl rfl hl.1 rfl (Nat.le_of_ble_eq_true rfl) dX5_doubt_23 ⟨Nat.zero_le _, Nat.zero_le _⟩ (fun r u H1 locs hp hP1 hS hfr => ?_)
      obtain rfl : r = -2 := hp
      have hP1 : va_P D vwCl (ho a (nset C 0 (C 0 + 1))) H1 := hP1
      have hP : va_P D vwCl (ho a (nset C 0 (C 0 + 1)) ++ (bw a 1 k F E)) H1 := wJn (w1 := ho a (nset C 0 (C 0 + 1))) (wc := ho a C) hP hD [0] rfl rfl hP1 hfr
      generalize H1 = H at hP hS ⊢
      have hD : va_D (wA (ho a C ++ (bw a 1 k F E))) (ho a (nset C 0 (C 0 + 1)) ++ (bw a 1 k F E)) := hD.same rfl
      exact wr_iret hz hr hlk dX5_doubt_26 hS (()) hP (rfl)

theorem hinX5_part_X5 : ∀ w ∈ wsX50, w ∈ wsX5_part := fun _ h => List.mem_cons_of_mem _ (List.mem_append_left _ (List.mem_append_right _ h))
theorem hinX5_part_X2 : ∀ w ∈ wsX20, w ∈ wsX5_part := fun _ h => List.mem_cons_of_mem _ (List.mem_append_right _ h)
set_option maxHeartbeats 4000000 in
set_option maxRecDepth 100000 in
theorem c5_part_bad (l_ : Launch) (D : va_G) (k : Nat → ClassId) (a : Nat → Nat) (tS : Nat) (sk sv : Nat → Nat) (C : Nat → Nat) (F : Nat → Nat) (E : Nat → Nat → Nat) (M : Nat → Nat) (x : Int32) (hR : Rb M F E) (hf : Wf M) (hb : wIn x 0 1 = false) : Met l_ yX5_part wsX5_part ({ frames := 1, cells := 0, slots := 0, locals := 21 }) (va_Pc [.ref (a 0), .int x] (wH (Am tS sk sv) D k (ho a C ++ (bw a 1 k F E)))) (va_Ql (fun (r : Int64) (u : Unit) => r = (-2 : Int64)) (fun (u : Unit) (t_ : State) => va_P D vwCl ((fun (_ : Unit) => ho a (nset C 0 (C 0 + 1)) ++ (bw a 1 k F E)) u) t_.heap) (wA (ho a C ++ (bw a 1 k F E)))) 0 0 (wA (ho a C ++ (bw a 1 k F E))) := by
  refine my_entry (cc := cX5_part) (maxL := 2) (ret := some .long) (by decide) rfl (Nat.le_of_ble_eq_true rfl) ?_
  intro p_ e_ s_ m_ bl_ me_ c_ hz hr hlk hB ls hl
  obtain ⟨hP, hK, hD0, hy⟩ := hB
  have hD := wA.self hD0
  have hS : va_S (wA (ho a C ++ (bw a 1 k F E))) s_.heap s_.heap [] := va_S.rf
  have hl : lv_has ls 2 [(0, .ref (a 0)), (1, .int x)] := hl
  have f0 := hf.n2
  have f1 := hf.n9
  have f2 := hf.fr
  have f3 := hf.gd
  have f4 := hf.pc
  have f5 := hf.wc
  have e0 : F 0 = M 0 := hR.1.1
  have e1 : F 1 = M 1 := hR.1.2.1
  have e2 : F 2 = M 2 := hR.1.2.2.1
  have e3 : F 3 = M 19 := hR.1.2.2.2.1
  have e4 : F 4 = M 32 := hR.1.2.2.2.2
  refine lv_iload_n hz.1 hz.2.1 dX5_part_0 rfl (lv_at hl 1 rfl) ?_
  refine lv_iconst (v := nI 2) hz.1 hz.2.1 dX5_part_1 (by decide) ?_
  refine rdS (As := [.int x, .int (nI 2)]) (rest := []) hz (c5_inRow l_ x 2 1 (by omega) (by omega)) rfl (va_cwS 2 hz.2.2.2.2 gX5_part_X5_inRow rfl rfl rfl (by decide +kernel) ⟨Nat.le_of_ble_eq_true rfl, Nat.le_of_ble_eq_true rfl⟩) rfl hl.1 rfl (Nat.le_of_ble_eq_true rfl) dX5_part_2 ⟨Nat.zero_le _, Nat.zero_le _⟩ ?_
  refine zne (tgt := 16) hz dX5_part_5 (by decide) (fun c_5 => ?_) (fun c_5 => ?_)
  · simp [c_5] at hb
  · refine lv_aload_n hz.1 hz.2.1 dX5_part_8 rfl (lv_at hl 0 rfl) ?_
    refine lv_bipush (v := (-2)) hz.1 hz.2.1 dX5_part_9 (by decide) ?_
    refine wrV (A := wA (ho a C ++ (bw a 1 k F E))) (As := [.int (-2)]) (rest := []) hz (okAm tS sk sv) (c5_bad l_ D k a tS sk sv C  (-2) ) (cwV 1 hz.2.2.2.2 gX5_part_X5_bad rfl rfl rfl (by decide +kernel) ⟨Nat.le_of_ble_eq_true rfl, Nat.le_of_ble_eq_true rfl⟩) hK hy (hP.sub (ws' := ho a C) [0] rfl) (hD.sub (ws' := ho a C) [0] (by decide) rfl) hS 0 5 rfl rfl rfl rfl hl.1 rfl (Nat.le_of_ble_eq_true rfl) dX5_part_11 ⟨Nat.zero_le _, Nat.zero_le _⟩ (fun r u H1 locs hp hP1 hS hfr => ?_)
    obtain rfl : r = -2 := hp
    have hP1 : va_P D vwCl (ho a (nset C 0 (C 0 + 1))) H1 := hP1
    have hP : va_P D vwCl (ho a (nset C 0 (C 0 + 1)) ++ (bw a 1 k F E)) H1 := wJn (w1 := ho a (nset C 0 (C 0 + 1))) (wc := ho a C) hP hD [0] rfl rfl hP1 hfr
    generalize H1 = H at hP hS ⊢
    have hD : va_D (wA (ho a C ++ (bw a 1 k F E))) (ho a (nset C 0 (C 0 + 1)) ++ (bw a 1 k F E)) := hD.same rfl
    refine lv_i2l (v := (-2 : Int64)) hz.1 hz.2.1 dX5_part_14 (by decide) ?_
    exact wr_lret hz hr hlk dX5_part_15 hS (()) hP (rfl)

set_option maxHeartbeats 4000000 in
set_option maxRecDepth 100000 in
theorem c5_part_ok (l_ : Launch) (D : va_G) (k : Nat → ClassId) (a : Nat → Nat) (tS : Nat) (sk sv : Nat → Nat) (C : Nat → Nat) (F : Nat → Nat) (E : Nat → Nat → Nat) (Q : Nat → Nat) (M : Nat → Nat) (wh : Nat) (hR : Rb M F E) (hf : Wf M) (h : wh ≤ 1) : Met l_ yX5_part wsX5_part ({ frames := 1, cells := 0, slots := 0, locals := 21 }) (va_Pc [.ref (a 0), .int (nI wh)] (wH (Am tS sk sv) D k (ho a C ++ (bw a 1 k F E ++ (qw a Q))))) (k2_QcV (.long (lN (if wh = 0 then Q 0 else Q 1)))) 0 0 (fun _ => False) := by
  refine my_entry (cc := cX5_part) (maxL := 2) (ret := some .long) (by decide) rfl (Nat.le_of_ble_eq_true rfl) ?_
  intro p_ e_ s_ m_ bl_ me_ c_ hz hr hlk hB ls hl
  obtain ⟨hP, hK, hD0, hy⟩ := hB
  have hD := wA.self hD0
  have hS : va_S (wA (ho a C ++ (bw a 1 k F E ++ (qw a Q)))) s_.heap s_.heap [] := va_S.rf
  have hl : lv_has ls 2 [(0, .ref (a 0)), (1, .int (nI wh))] := hl
  have f0 := hf.n2
  have f1 := hf.n9
  have f2 := hf.fr
  have f3 := hf.gd
  have f4 := hf.pc
  have f5 := hf.wc
  have e0 : F 0 = M 0 := hR.1.1
  have e1 : F 1 = M 1 := hR.1.2.1
  have e2 : F 2 = M 2 := hR.1.2.2.1
  have e3 : F 3 = M 19 := hR.1.2.2.2.1
  have e4 : F 4 = M 32 := hR.1.2.2.2.2
  refine lv_iload_n hz.1 hz.2.1 dX5_part_0 rfl (lv_at hl 1 rfl) ?_
  refine lv_iconst (v := nI 2) hz.1 hz.2.1 dX5_part_1 (by decide) ?_
  refine rdS (As := [.int (nI wh), .int (nI 2)]) (rest := []) hz (c5_inRow l_ (nI wh) 2 1 (by omega) (by omega)) rfl (va_cwS 2 hz.2.2.2.2 gX5_part_X5_inRow rfl rfl rfl (by decide +kernel) ⟨Nat.le_of_ble_eq_true rfl, Nat.le_of_ble_eq_true rfl⟩) rfl hl.1 rfl (Nat.le_of_ble_eq_true rfl) dX5_part_2 ⟨Nat.zero_le _, Nat.zero_le _⟩ ?_
  refine zne (tgt := 16) hz dX5_part_5 (by decide) (fun c_5 => ?_) (fun c_5 => ?_)
  · refine lv_iload_n hz.1 hz.2.1 dX5_part_16 rfl (lv_at hl 1 rfl) ?_
    refine jne0 (tgt := 30) hz dX5_part_17 (by decide) (by omega) (fun c_17 => ?_) (fun c_17 => ?_)
    · refine lv_aload_n hz.1 hz.2.1 dX5_part_30 rfl (lv_at hl 0 rfl) ?_
      refine rg (T := TX5) (N := 11) hz hinX5_part_X5 hK hP 0 rfl rfl 7 (by decide) (List.mem_of_getElem? (i := 1) rfl) rfl (v := .ref (a 53)) rfl dX5_part_31 ?_
      refine rg (T := TX2) (N := 2) hz hinX5_part_X2 hK hP 9 rfl rfl 1 (by decide) (List.mem_of_getElem? (i := 3) rfl) rfl (v := .long (lN (Q 1))) rfl dX5_part_34 ?_
      exact rd_lret hz hr hlk dX5_part_37 (by simp [c_17])
    · refine lv_aload_n hz.1 hz.2.1 dX5_part_20 rfl (lv_at hl 0 rfl) ?_
      refine rg (T := TX5) (N := 11) hz hinX5_part_X5 hK hP 0 rfl rfl 7 (by decide) (List.mem_of_getElem? (i := 1) rfl) rfl (v := .ref (a 53)) rfl dX5_part_21 ?_
      refine rg (T := TX2) (N := 2) hz hinX5_part_X2 hK hP 9 rfl rfl 0 (by decide) (List.mem_of_getElem? (i := 2) rfl) rfl (v := .long (lN (Q 0))) rfl dX5_part_24 ?_
      refine lv_goto (tgt := 37) hz.1 hz.2.1 dX5_part_27 (by decide) ?_
      exact rd_lret hz hr hlk dX5_part_37 (by simp [c_17])
  · exact absurd ((wIn_ok (by omega) (by omega) (by omega)).symm.trans c_5) (by decide)

theorem hinX5_image_X5 : ∀ w ∈ wsX50, w ∈ wsX5_image := fun _ h => List.mem_cons_of_mem _ (List.mem_append_left _ (List.mem_append_right _ h))
theorem hinX5_image_X0 : ∀ w ∈ wsX00, w ∈ wsX5_image := fun _ h => List.mem_cons_of_mem _ (List.mem_append_right _ h)
set_option maxHeartbeats 4000000 in
set_option maxRecDepth 100000 in
theorem c5_image_bad (l_ : Launch) (D : va_G) (k : Nat → ClassId) (a : Nat → Nat) (tS : Nat) (sk sv : Nat → Nat) (C : Nat → Nat) (F : Nat → Nat) (E : Nat → Nat → Nat) (M : Nat → Nat) (x : Int32) (hR : Rb M F E) (hf : Wf M) (hb : wIn x 0 1 = false) : Met l_ yX5_image wsX5_image ({ frames := 1, cells := 0, slots := 0, locals := 21 }) (va_Pc [.ref (a 0), .int x] (wH (Am tS sk sv) D k (ho a C ++ (bw a 1 k F E)))) (va_Qi (fun (r : Int32) (u : Unit) => r = -2) (fun (u : Unit) (t_ : State) => va_P D vwCl ((fun (_ : Unit) => ho a (nset C 0 (C 0 + 1)) ++ (bw a 1 k F E)) u) t_.heap) (wA (ho a C ++ (bw a 1 k F E)))) 0 0 (wA (ho a C ++ (bw a 1 k F E))) := by
  refine my_entry (cc := cX5_image) (maxL := 2) (ret := some .int) (by decide) rfl (Nat.le_of_ble_eq_true rfl) ?_
  intro p_ e_ s_ m_ bl_ me_ c_ hz hr hlk hB ls hl
  obtain ⟨hP, hK, hD0, hy⟩ := hB
  have hD := wA.self hD0
  have hS : va_S (wA (ho a C ++ (bw a 1 k F E))) s_.heap s_.heap [] := va_S.rf
  have hl : lv_has ls 2 [(0, .ref (a 0)), (1, .int x)] := hl
  have f0 := hf.n2
  have f1 := hf.n9
  have f2 := hf.fr
  have f3 := hf.gd
  have f4 := hf.pc
  have f5 := hf.wc
  have e0 : F 0 = M 0 := hR.1.1
  have e1 : F 1 = M 1 := hR.1.2.1
  have e2 : F 2 = M 2 := hR.1.2.2.1
  have e3 : F 3 = M 19 := hR.1.2.2.2.1
  have e4 : F 4 = M 32 := hR.1.2.2.2.2
  refine lv_iload_n hz.1 hz.2.1 dX5_image_0 rfl (lv_at hl 1 rfl) ?_
  refine lv_iconst (v := nI 2) hz.1 hz.2.1 dX5_image_1 (by decide) ?_
  refine rdS (As := [.int x, .int (nI 2)]) (rest := []) hz (c5_inRow l_ x 2 1 (by omega) (by omega)) rfl (va_cwS 2 hz.2.2.2.2 gX5_image_X5_inRow rfl rfl rfl (by decide +kernel) ⟨Nat.le_of_ble_eq_true rfl, Nat.le_of_ble_eq_true rfl⟩) rfl hl.1 rfl (Nat.le_of_ble_eq_true rfl) dX5_image_2 ⟨Nat.zero_le _, Nat.zero_le _⟩ ?_
  refine zne (tgt := 15) hz dX5_image_5 (by decide) (fun c_5 => ?_) (fun c_5 => ?_)
  · simp [c_5] at hb
  · refine lv_aload_n hz.1 hz.2.1 dX5_image_8 rfl (lv_at hl 0 rfl) ?_
    refine lv_bipush (v := (-2)) hz.1 hz.2.1 dX5_image_9 (by decide) ?_
    refine wrV (A := wA (ho a C ++ (bw a 1 k F E))) (As := [.int (-2)]) (rest := []) hz (okAm tS sk sv) (c5_bad l_ D k a tS sk sv C  (-2) ) (cwV 1 hz.2.2.2.2 gX5_image_X5_bad rfl rfl rfl (by decide +kernel) ⟨Nat.le_of_ble_eq_true rfl, Nat.le_of_ble_eq_true rfl⟩) hK hy (hP.sub (ws' := ho a C) [0] rfl) (hD.sub (ws' := ho a C) [0] (by decide) rfl) hS 0 5 rfl rfl rfl rfl hl.1 rfl (Nat.le_of_ble_eq_true rfl) dX5_image_11 ⟨Nat.zero_le _, Nat.zero_le _⟩ (fun r u H1 locs hp hP1 hS hfr => ?_)
    obtain rfl : r = -2 := hp
    have hP1 : va_P D vwCl (ho a (nset C 0 (C 0 + 1))) H1 := hP1
    have hP : va_P D vwCl (ho a (nset C 0 (C 0 + 1)) ++ (bw a 1 k F E)) H1 := wJn (w1 := ho a (nset C 0 (C 0 + 1))) (wc := ho a C) hP hD [0] rfl rfl hP1 hfr
    generalize H1 = H at hP hS ⊢
    have hD : va_D (wA (ho a C ++ (bw a 1 k F E))) (ho a (nset C 0 (C 0 + 1)) ++ (bw a 1 k F E)) := hD.same rfl
    exact wr_iret hz hr hlk dX5_image_14 hS (()) hP (rfl)

theorem hinX5_from_X5 : ∀ w ∈ wsX50, w ∈ wsX5_from := fun _ h => List.mem_cons_of_mem _ (List.mem_append_left _ (List.mem_append_right _ h))
theorem hinX5_from_X0 : ∀ w ∈ wsX00, w ∈ wsX5_from := fun _ h => List.mem_cons_of_mem _ (List.mem_append_right _ h)
set_option maxHeartbeats 4000000 in
set_option maxRecDepth 100000 in
theorem c5_from_bad (l_ : Launch) (D : va_G) (k : Nat → ClassId) (a : Nat → Nat) (tS : Nat) (sk sv : Nat → Nat) (C : Nat → Nat) (F : Nat → Nat) (E : Nat → Nat → Nat) (M : Nat → Nat) (x : Int32) (hR : Rb M F E) (hf : Wf M) (hb : wIn x 0 1 = false) : Met l_ yX5_from wsX5_from ({ frames := 1, cells := 0, slots := 0, locals := 21 }) (va_Pc [.ref (a 0), .int x] (wH (Am tS sk sv) D k (ho a C ++ (bw a 1 k F E)))) (va_Qi (fun (r : Int32) (u : Unit) => r = -2) (fun (u : Unit) (t_ : State) => va_P D vwCl ((fun (_ : Unit) => ho a (nset C 0 (C 0 + 1)) ++ (bw a 1 k F E)) u) t_.heap) (wA (ho a C ++ (bw a 1 k F E)))) 0 0 (wA (ho a C ++ (bw a 1 k F E))) := by
  refine my_entry (cc := cX5_from) (maxL := 2) (ret := some .int) (by decide) rfl (Nat.le_of_ble_eq_true rfl) ?_
  intro p_ e_ s_ m_ bl_ me_ c_ hz hr hlk hB ls hl
  obtain ⟨hP, hK, hD0, hy⟩ := hB
  have hD := wA.self hD0
  have hS : va_S (wA (ho a C ++ (bw a 1 k F E))) s_.heap s_.heap [] := va_S.rf
  have hl : lv_has ls 2 [(0, .ref (a 0)), (1, .int x)] := hl
  have f0 := hf.n2
  have f1 := hf.n9
  have f2 := hf.fr
  have f3 := hf.gd
  have f4 := hf.pc
  have f5 := hf.wc
  have e0 : F 0 = M 0 := hR.1.1
  have e1 : F 1 = M 1 := hR.1.2.1
  have e2 : F 2 = M 2 := hR.1.2.2.1
  have e3 : F 3 = M 19 := hR.1.2.2.2.1
  have e4 : F 4 = M 32 := hR.1.2.2.2.2
  refine lv_iload_n hz.1 hz.2.1 dX5_from_0 rfl (lv_at hl 1 rfl) ?_
  refine lv_iconst (v := nI 2) hz.1 hz.2.1 dX5_from_1 (by decide) ?_
  refine rdS (As := [.int x, .int (nI 2)]) (rest := []) hz (c5_inRow l_ x 2 1 (by omega) (by omega)) rfl (va_cwS 2 hz.2.2.2.2 gX5_from_X5_inRow rfl rfl rfl (by decide +kernel) ⟨Nat.le_of_ble_eq_true rfl, Nat.le_of_ble_eq_true rfl⟩) rfl hl.1 rfl (Nat.le_of_ble_eq_true rfl) dX5_from_2 ⟨Nat.zero_le _, Nat.zero_le _⟩ ?_
  refine zne (tgt := 15) hz dX5_from_5 (by decide) (fun c_5 => ?_) (fun c_5 => ?_)
  · simp [c_5] at hb
  · refine lv_aload_n hz.1 hz.2.1 dX5_from_8 rfl (lv_at hl 0 rfl) ?_
    refine lv_bipush (v := (-2)) hz.1 hz.2.1 dX5_from_9 (by decide) ?_
    refine wrV (A := wA (ho a C ++ (bw a 1 k F E))) (As := [.int (-2)]) (rest := []) hz (okAm tS sk sv) (c5_bad l_ D k a tS sk sv C  (-2) ) (cwV 1 hz.2.2.2.2 gX5_from_X5_bad rfl rfl rfl (by decide +kernel) ⟨Nat.le_of_ble_eq_true rfl, Nat.le_of_ble_eq_true rfl⟩) hK hy (hP.sub (ws' := ho a C) [0] rfl) (hD.sub (ws' := ho a C) [0] (by decide) rfl) hS 0 5 rfl rfl rfl rfl hl.1 rfl (Nat.le_of_ble_eq_true rfl) dX5_from_11 ⟨Nat.zero_le _, Nat.zero_le _⟩ (fun r u H1 locs hp hP1 hS hfr => ?_)
    obtain rfl : r = -2 := hp
    have hP1 : va_P D vwCl (ho a (nset C 0 (C 0 + 1))) H1 := hP1
    have hP : va_P D vwCl (ho a (nset C 0 (C 0 + 1)) ++ (bw a 1 k F E)) H1 := wJn (w1 := ho a (nset C 0 (C 0 + 1))) (wc := ho a C) hP hD [0] rfl rfl hP1 hfr
    generalize H1 = H at hP hS ⊢
    have hD : va_D (wA (ho a C ++ (bw a 1 k F E))) (ho a (nset C 0 (C 0 + 1)) ++ (bw a 1 k F E)) := hD.same rfl
    exact wr_iret hz hr hlk dX5_from_14 hS (()) hP (rfl)

set_option maxHeartbeats 4000000 in
set_option maxRecDepth 100000 in
theorem c5_image_ok0 (l_ : Launch) (D : va_G) (k : Nat → ClassId) (a : Nat → Nat) (tS : Nat) (sk sv : Nat → Nat) (C : Nat → Nat) (F : Nat → Nat) (E : Nat → Nat → Nat) (F2 : Nat → Nat) (E2 : Nat → Nat → Nat) (K : Nat → Nat) (M : Nat → Nat)  (hR : Rb M F E) (hf : Wf M) : Met l_ yX5_image wsX5_image ({ frames := 2, cells := 0, slots := 0, locals := 101 }) (va_Pc [.ref (a 0), .int (nI 0)] (wH (Am tS sk sv) D k (ho a C ++ (bw a 1 k F E ++ (iw a k ++ (bw a 18 k F2 E2 ++ (kw a k K))))))) (va_Qi (fun (r : Int32) (u : Unit) => r = nI 1) (fun (u : Unit) (t_ : State) => va_P D vwCl ((fun (_ : Unit) => ho a C ++ (bw a 1 k F E ++ (iw a k ++ (bw a 18 k (nset (nset (nset (nset (nset F2 0 (F 0)) 1 (F 1)) 2 (F 2)) 3 (F 3)) 4 (F 4)) (gset (gset (gset (gset (gset (gset (gset E2 0 (ccpy (E2 0) (E 0) 8)) 1 (ccpy (E2 1) (E 1) 8)) 2 (ccpy (E2 2) (E 2) 6)) 3 (ccpy (E2 3) (E 3) 6)) 4 (ccpy (E2 4) (E 4) 8)) 5 (ccpy (E2 5) (E 5) 8)) 6 (ccpy (E2 6) (E 6) 8)) ++ (kw a k (nset K 0 1)))))) u) t_.heap) (wA (ho a C ++ (bw a 1 k F E ++ (iw a k ++ (bw a 18 k F2 E2 ++ (kw a k K))))))) 0 0 (wA (ho a C ++ (bw a 1 k F E ++ (iw a k ++ (bw a 18 k F2 E2 ++ (kw a k K)))))) := by
  refine my_entry (cc := cX5_image) (maxL := 2) (ret := some .int) (by decide) rfl (Nat.le_of_ble_eq_true rfl) ?_
  intro p_ e_ s_ m_ bl_ me_ c_ hz hr hlk hB ls hl
  obtain ⟨hP, hK, hD0, hy⟩ := hB
  have hD := wA.self hD0
  have hS : va_S (wA (ho a C ++ (bw a 1 k F E ++ (iw a k ++ (bw a 18 k F2 E2 ++ (kw a k K)))))) s_.heap s_.heap [] := va_S.rf
  have hl : lv_has ls 2 [(0, .ref (a 0)), (1, .int (nI 0))] := hl
  have f0 := hf.n2
  have f1 := hf.n9
  have f2 := hf.fr
  have f3 := hf.gd
  have f4 := hf.pc
  have f5 := hf.wc
  have e0 : F 0 = M 0 := hR.1.1
  have e1 : F 1 = M 1 := hR.1.2.1
  have e2 : F 2 = M 2 := hR.1.2.2.1
  have e3 : F 3 = M 19 := hR.1.2.2.2.1
  have e4 : F 4 = M 32 := hR.1.2.2.2.2
  refine lv_iload_n hz.1 hz.2.1 dX5_image_0 rfl (lv_at hl 1 rfl) ?_
  refine lv_iconst (v := nI 2) hz.1 hz.2.1 dX5_image_1 (by decide) ?_
  refine rdS (As := [.int (nI 0), .int (nI 2)]) (rest := []) hz (c5_inRow l_ (nI 0) 2 1 (by omega) (by omega)) rfl (va_cwS 2 hz.2.2.2.2 gX5_image_X5_inRow rfl rfl rfl (by decide +kernel) ⟨Nat.le_of_ble_eq_true rfl, Nat.le_of_ble_eq_true rfl⟩) rfl hl.1 rfl (Nat.le_of_ble_eq_true rfl) dX5_image_2 ⟨Nat.zero_le _, Nat.zero_le _⟩ ?_
  refine zne (tgt := 15) hz dX5_image_5 (by decide) (fun c_5 => ?_) (fun c_5 => ?_)
  · refine lv_aload_n hz.1 hz.2.1 dX5_image_15 rfl (lv_at hl 0 rfl) ?_
    refine rg (T := TX5) (N := 11) hz hinX5_image_X5 hK hP 0 rfl rfl 2 (by decide) (List.mem_of_getElem? (i := 1) rfl) rfl (v := .ref (a 17)) rfl dX5_image_16 ?_
    refine lv_iload_n hz.1 hz.2.1 dX5_image_19 rfl (lv_at hl 1 rfl) ?_
    refine rald3 hz hK hP 9 rfl (i := 0) (v := a 18) (by decide) (by decide) rfl dX5_image_20 ?_
    refine lv_aload_n hz.1 hz.2.1 dX5_image_21 rfl (lv_at hl 0 rfl) ?_
    refine rg (T := TX5) (N := 11) hz hinX5_image_X5 hK hP 0 rfl rfl 0 (by decide) (List.mem_of_getElem? (i := 2) rfl) rfl (v := .ref (a 1)) rfl dX5_image_22 ?_
    refine wrVv (A := wA (ho a C ++ (bw a 1 k F E ++ (iw a k ++ (bw a 18 k F2 E2 ++ (kw a k K)))))) (As := [.ref (a 1)]) (rest := []) hz (okAm tS sk sv) (c0_takeFrom l_ D k a 18 1 tS sk sv F2 E2 F E   ) (cwV 1 hz.2.2.2.2 gX5_image_X0_takeFrom rfl rfl rfl (by decide +kernel) ⟨Nat.le_of_ble_eq_true rfl, Nat.le_of_ble_eq_true rfl⟩) hK hy (hP.sub (ws' := bw a 18 k F2 E2 ++ (bw a 1 k F E)) [10, 11, 12, 13, 14, 15, 16, 17, 1, 2, 3, 4, 5, 6, 7, 8] rfl) (hD.sub (ws' := bw a 18 k F2 E2 ++ (bw a 1 k F E)) [10, 11, 12, 13, 14, 15, 16, 17, 1, 2, 3, 4, 5, 6, 7, 8] (by decide) rfl) hS 0 0 rfl rfl rfl rfl hl.1 rfl (Nat.le_of_ble_eq_true rfl) dX5_image_25 ⟨Nat.zero_le _, Nat.zero_le _⟩ (fun u H1 locs hp hP1 hS hfr => ?_)
    have hP1 : va_P D vwCl (bw a 18 k (nset (nset (nset (nset (nset F2 0 (F 0)) 1 (F 1)) 2 (F 2)) 3 (F 3)) 4 (F 4)) (gset (gset (gset (gset (gset (gset (gset E2 0 (ccpy (E2 0) (E 0) 8)) 1 (ccpy (E2 1) (E 1) 8)) 2 (ccpy (E2 2) (E 2) 6)) 3 (ccpy (E2 3) (E 3) 6)) 4 (ccpy (E2 4) (E 4) 8)) 5 (ccpy (E2 5) (E 5) 8)) 6 (ccpy (E2 6) (E 6) 8)) ++ (bw a 1 k F E)) H1 := hP1
    have hP : va_P D vwCl (ho a C ++ (bw a 1 k F E ++ (iw a k ++ (bw a 18 k (nset (nset (nset (nset (nset F2 0 (F 0)) 1 (F 1)) 2 (F 2)) 3 (F 3)) 4 (F 4)) (gset (gset (gset (gset (gset (gset (gset E2 0 (ccpy (E2 0) (E 0) 8)) 1 (ccpy (E2 1) (E 1) 8)) 2 (ccpy (E2 2) (E 2) 6)) 3 (ccpy (E2 3) (E 3) 6)) 4 (ccpy (E2 4) (E 4) 8)) 5 (ccpy (E2 5) (E 5) 8)) 6 (ccpy (E2 6) (E 6) 8)) ++ (kw a k K))))) H1 := wJn (w1 := bw a 18 k (nset (nset (nset (nset (nset F2 0 (F 0)) 1 (F 1)) 2 (F 2)) 3 (F 3)) 4 (F 4)) (gset (gset (gset (gset (gset (gset (gset E2 0 (ccpy (E2 0) (E 0) 8)) 1 (ccpy (E2 1) (E 1) 8)) 2 (ccpy (E2 2) (E 2) 6)) 3 (ccpy (E2 3) (E 3) 6)) 4 (ccpy (E2 4) (E 4) 8)) 5 (ccpy (E2 5) (E 5) 8)) 6 (ccpy (E2 6) (E 6) 8)) ++ (bw a 1 k F E)) (wc := bw a 18 k F2 E2 ++ (bw a 1 k F E)) hP hD [10, 11, 12, 13, 14, 15, 16, 17, 1, 2, 3, 4, 5, 6, 7, 8] rfl rfl hP1 hfr
    generalize H1 = H at hP hS ⊢
    have hD : va_D (wA (ho a C ++ (bw a 1 k F E ++ (iw a k ++ (bw a 18 k F2 E2 ++ (kw a k K)))))) (ho a C ++ (bw a 1 k F E ++ (iw a k ++ (bw a 18 k (nset (nset (nset (nset (nset F2 0 (F 0)) 1 (F 1)) 2 (F 2)) 3 (F 3)) 4 (F 4)) (gset (gset (gset (gset (gset (gset (gset E2 0 (ccpy (E2 0) (E 0) 8)) 1 (ccpy (E2 1) (E 1) 8)) 2 (ccpy (E2 2) (E 2) 6)) 3 (ccpy (E2 3) (E 3) 6)) 4 (ccpy (E2 4) (E 4) 8)) 5 (ccpy (E2 5) (E 5) 8)) 6 (ccpy (E2 6) (E 6) 8)) ++ (kw a k K))))) := hD.same rfl
    refine lv_aload_n hz.1 hz.2.1 dX5_image_28 rfl (lv_at hl 0 rfl) ?_
    refine rg (T := TX5) (N := 11) hz hinX5_image_X5 hK hP 0 rfl rfl 3 (by decide) (List.mem_of_getElem? (i := 3) rfl) rfl (v := .ref (a 34)) rfl dX5_image_29 ?_
    refine lv_iload_n hz.1 hz.2.1 dX5_image_32 rfl (lv_at hl 1 rfl) ?_
    refine lv_iconst (v := nI 1) hz.1 hz.2.1 dX5_image_33 (by decide) ?_
    refine rzast hz hK hP hD hS 18 2 rfl rfl (i := 0) (v := 1) (by decide) (by decide) (by decide) dX5_image_34 (fun H locs hP hS => ?_)
    have hP : va_P D vwCl (ho a C ++ (bw a 1 k F E ++ (iw a k ++ (bw a 18 k (nset (nset (nset (nset (nset F2 0 (F 0)) 1 (F 1)) 2 (F 2)) 3 (F 3)) 4 (F 4)) (gset (gset (gset (gset (gset (gset (gset E2 0 (ccpy (E2 0) (E 0) 8)) 1 (ccpy (E2 1) (E 1) 8)) 2 (ccpy (E2 2) (E 2) 6)) 3 (ccpy (E2 3) (E 3) 6)) 4 (ccpy (E2 4) (E 4) 8)) 5 (ccpy (E2 5) (E 5) 8)) 6 (ccpy (E2 6) (E 6) 8)) ++ (kw a k (nset K 0 1)))))) H := hP
    have hD : va_D (wA (ho a C ++ (bw a 1 k F E ++ (iw a k ++ (bw a 18 k F2 E2 ++ (kw a k K)))))) (ho a C ++ (bw a 1 k F E ++ (iw a k ++ (bw a 18 k (nset (nset (nset (nset (nset F2 0 (F 0)) 1 (F 1)) 2 (F 2)) 3 (F 3)) 4 (F 4)) (gset (gset (gset (gset (gset (gset (gset E2 0 (ccpy (E2 0) (E 0) 8)) 1 (ccpy (E2 1) (E 1) 8)) 2 (ccpy (E2 2) (E 2) 6)) 3 (ccpy (E2 3) (E 3) 6)) 4 (ccpy (E2 4) (E 4) 8)) 5 (ccpy (E2 5) (E 5) 8)) 6 (ccpy (E2 6) (E 6) 8)) ++ (kw a k (nset K 0 1)))))) := hD.same rfl
    refine lv_iconst (v := nI 1) hz.1 hz.2.1 dX5_image_35 (by decide) ?_
    exact wr_iret hz hr hlk dX5_image_36 hS (()) hP (rfl)
  · exact absurd ((wIn_ok (by omega) (by omega) (by omega)).symm.trans c_5) (by decide)

set_option maxHeartbeats 4000000 in
set_option maxRecDepth 100000 in
theorem c5_from_ok0 (l_ : Launch) (D : va_G) (k : Nat → ClassId) (a : Nat → Nat) (tS : Nat) (sk sv : Nat → Nat) (C : Nat → Nat) (F : Nat → Nat) (E : Nat → Nat → Nat) (F2 : Nat → Nat) (E2 : Nat → Nat → Nat) (K : Nat → Nat) (M : Nat → Nat)  (hR : Rb M F E) (hf : Wf M) (hk : K 0 = 1) : Met l_ yX5_from wsX5_from ({ frames := 2, cells := 0, slots := 0, locals := 101 }) (va_Pc [.ref (a 0), .int (nI 0)] (wH (Am tS sk sv) D k (ho a C ++ (bw a 1 k F E ++ (iw a k ++ (bw a 18 k F2 E2 ++ (kw a k K))))))) (va_Qi (fun (r : Int32) (u : Unit) => r = nI 1) (fun (u : Unit) (t_ : State) => va_P D vwCl ((fun (_ : Unit) => ho a C ++ (bw a 1 k (nset (nset (nset (nset (nset F 0 (F2 0)) 1 (F2 1)) 2 (F2 2)) 3 (F2 3)) 4 (F2 4)) (gset (gset (gset (gset (gset (gset (gset E 0 (ccpy (E 0) (E2 0) 8)) 1 (ccpy (E 1) (E2 1) 8)) 2 (ccpy (E 2) (E2 2) 6)) 3 (ccpy (E 3) (E2 3) 6)) 4 (ccpy (E 4) (E2 4) 8)) 5 (ccpy (E 5) (E2 5) 8)) 6 (ccpy (E 6) (E2 6) 8)) ++ (iw a k ++ (bw a 18 k F2 E2 ++ (kw a k K))))) u) t_.heap) (wA (ho a C ++ (bw a 1 k F E ++ (iw a k ++ (bw a 18 k F2 E2 ++ (kw a k K))))))) 0 0 (wA (ho a C ++ (bw a 1 k F E ++ (iw a k ++ (bw a 18 k F2 E2 ++ (kw a k K)))))) := by
  refine my_entry (cc := cX5_from) (maxL := 2) (ret := some .int) (by decide) rfl (Nat.le_of_ble_eq_true rfl) ?_
  intro p_ e_ s_ m_ bl_ me_ c_ hz hr hlk hB ls hl
  obtain ⟨hP, hK, hD0, hy⟩ := hB
  have hD := wA.self hD0
  have hS : va_S (wA (ho a C ++ (bw a 1 k F E ++ (iw a k ++ (bw a 18 k F2 E2 ++ (kw a k K)))))) s_.heap s_.heap [] := va_S.rf
  have hl : lv_has ls 2 [(0, .ref (a 0)), (1, .int (nI 0))] := hl
  have f0 := hf.n2
  have f1 := hf.n9
  have f2 := hf.fr
  have f3 := hf.gd
  have f4 := hf.pc
  have f5 := hf.wc
  have e0 : F 0 = M 0 := hR.1.1
  have e1 : F 1 = M 1 := hR.1.2.1
  have e2 : F 2 = M 2 := hR.1.2.2.1
  have e3 : F 3 = M 19 := hR.1.2.2.2.1
  have e4 : F 4 = M 32 := hR.1.2.2.2.2
  refine lv_iload_n hz.1 hz.2.1 dX5_from_0 rfl (lv_at hl 1 rfl) ?_
  refine lv_iconst (v := nI 2) hz.1 hz.2.1 dX5_from_1 (by decide) ?_
  refine rdS (As := [.int (nI 0), .int (nI 2)]) (rest := []) hz (c5_inRow l_ (nI 0) 2 1 (by omega) (by omega)) rfl (va_cwS 2 hz.2.2.2.2 gX5_from_X5_inRow rfl rfl rfl (by decide +kernel) ⟨Nat.le_of_ble_eq_true rfl, Nat.le_of_ble_eq_true rfl⟩) rfl hl.1 rfl (Nat.le_of_ble_eq_true rfl) dX5_from_2 ⟨Nat.zero_le _, Nat.zero_le _⟩ ?_
  refine zne (tgt := 15) hz dX5_from_5 (by decide) (fun c_5 => ?_) (fun c_5 => ?_)
  · refine lv_aload_n hz.1 hz.2.1 dX5_from_15 rfl (lv_at hl 0 rfl) ?_
    refine rg (T := TX5) (N := 11) hz hinX5_from_X5 hK hP 0 rfl rfl 3 (by decide) (List.mem_of_getElem? (i := 1) rfl) rfl (v := .ref (a 34)) rfl dX5_from_16 ?_
    refine lv_iload_n hz.1 hz.2.1 dX5_from_19 rfl (lv_at hl 1 rfl) ?_
    refine rzald hz hK hP 18 2 rfl rfl (i := 0) (by decide) (by decide) (v := nI (K 0)) rfl dX5_from_20 ?_
    refine jne0 (tgt := 29) hz dX5_from_21 (by decide) (by omega) (fun c_21 => ?_) (fun c_21 => ?_)
    · refine lv_aload_n hz.1 hz.2.1 dX5_from_29 rfl (lv_at hl 0 rfl) ?_
      refine rg (T := TX5) (N := 11) hz hinX5_from_X5 hK hP 0 rfl rfl 0 (by decide) (List.mem_of_getElem? (i := 2) rfl) rfl (v := .ref (a 1)) rfl dX5_from_30 ?_
      refine lv_aload_n hz.1 hz.2.1 dX5_from_33 rfl (lv_at hl 0 rfl) ?_
      refine rg (T := TX5) (N := 11) hz hinX5_from_X5 hK hP 0 rfl rfl 2 (by decide) (List.mem_of_getElem? (i := 3) rfl) rfl (v := .ref (a 17)) rfl dX5_from_34 ?_
      refine lv_iload_n hz.1 hz.2.1 dX5_from_37 rfl (lv_at hl 1 rfl) ?_
      refine rald3 hz hK hP 9 rfl (i := 0) (v := a 18) (by decide) (by decide) rfl dX5_from_38 ?_
      refine wrVv (A := wA (ho a C ++ (bw a 1 k F E ++ (iw a k ++ (bw a 18 k F2 E2 ++ (kw a k K)))))) (As := [.ref (a 18)]) (rest := []) hz (okAm tS sk sv) (c0_takeFrom l_ D k a 1 18 tS sk sv F E F2 E2   ) (cwV 1 hz.2.2.2.2 gX5_from_X0_takeFrom rfl rfl rfl (by decide +kernel) ⟨Nat.le_of_ble_eq_true rfl, Nat.le_of_ble_eq_true rfl⟩) hK hy (hP.sub (ws' := bw a 1 k F E ++ (bw a 18 k F2 E2)) [1, 2, 3, 4, 5, 6, 7, 8, 10, 11, 12, 13, 14, 15, 16, 17] rfl) (hD.sub (ws' := bw a 1 k F E ++ (bw a 18 k F2 E2)) [1, 2, 3, 4, 5, 6, 7, 8, 10, 11, 12, 13, 14, 15, 16, 17] (by decide) rfl) hS 0 0 rfl rfl rfl rfl hl.1 rfl (Nat.le_of_ble_eq_true rfl) dX5_from_39 ⟨Nat.zero_le _, Nat.zero_le _⟩ (fun u H1 locs hp hP1 hS hfr => ?_)
      have hP1 : va_P D vwCl (bw a 1 k (nset (nset (nset (nset (nset F 0 (F2 0)) 1 (F2 1)) 2 (F2 2)) 3 (F2 3)) 4 (F2 4)) (gset (gset (gset (gset (gset (gset (gset E 0 (ccpy (E 0) (E2 0) 8)) 1 (ccpy (E 1) (E2 1) 8)) 2 (ccpy (E 2) (E2 2) 6)) 3 (ccpy (E 3) (E2 3) 6)) 4 (ccpy (E 4) (E2 4) 8)) 5 (ccpy (E 5) (E2 5) 8)) 6 (ccpy (E 6) (E2 6) 8)) ++ (bw a 18 k F2 E2)) H1 := hP1
      have hP : va_P D vwCl (ho a C ++ (bw a 1 k (nset (nset (nset (nset (nset F 0 (F2 0)) 1 (F2 1)) 2 (F2 2)) 3 (F2 3)) 4 (F2 4)) (gset (gset (gset (gset (gset (gset (gset E 0 (ccpy (E 0) (E2 0) 8)) 1 (ccpy (E 1) (E2 1) 8)) 2 (ccpy (E 2) (E2 2) 6)) 3 (ccpy (E 3) (E2 3) 6)) 4 (ccpy (E 4) (E2 4) 8)) 5 (ccpy (E 5) (E2 5) 8)) 6 (ccpy (E 6) (E2 6) 8)) ++ (iw a k ++ (bw a 18 k F2 E2 ++ (kw a k K))))) H1 := wJn (w1 := bw a 1 k (nset (nset (nset (nset (nset F 0 (F2 0)) 1 (F2 1)) 2 (F2 2)) 3 (F2 3)) 4 (F2 4)) (gset (gset (gset (gset (gset (gset (gset E 0 (ccpy (E 0) (E2 0) 8)) 1 (ccpy (E 1) (E2 1) 8)) 2 (ccpy (E 2) (E2 2) 6)) 3 (ccpy (E 3) (E2 3) 6)) 4 (ccpy (E 4) (E2 4) 8)) 5 (ccpy (E 5) (E2 5) 8)) 6 (ccpy (E 6) (E2 6) 8)) ++ (bw a 18 k F2 E2)) (wc := bw a 1 k F E ++ (bw a 18 k F2 E2)) hP hD [1, 2, 3, 4, 5, 6, 7, 8, 10, 11, 12, 13, 14, 15, 16, 17] rfl rfl hP1 hfr
      generalize H1 = H at hP hS ⊢
      have hD : va_D (wA (ho a C ++ (bw a 1 k F E ++ (iw a k ++ (bw a 18 k F2 E2 ++ (kw a k K)))))) (ho a C ++ (bw a 1 k (nset (nset (nset (nset (nset F 0 (F2 0)) 1 (F2 1)) 2 (F2 2)) 3 (F2 3)) 4 (F2 4)) (gset (gset (gset (gset (gset (gset (gset E 0 (ccpy (E 0) (E2 0) 8)) 1 (ccpy (E 1) (E2 1) 8)) 2 (ccpy (E 2) (E2 2) 6)) 3 (ccpy (E 3) (E2 3) 6)) 4 (ccpy (E 4) (E2 4) 8)) 5 (ccpy (E 5) (E2 5) 8)) 6 (ccpy (E 6) (E2 6) 8)) ++ (iw a k ++ (bw a 18 k F2 E2 ++ (kw a k K))))) := hD.same rfl
      refine lv_iconst (v := nI 1) hz.1 hz.2.1 dX5_from_42 (by decide) ?_
      exact wr_iret hz hr hlk dX5_from_43 hS (()) hP (rfl)
    · exact absurd c_21 (by omega)
  · exact absurd ((wIn_ok (by omega) (by omega) (by omega)).symm.trans c_5) (by decide)

set_option maxHeartbeats 4000000 in
set_option maxRecDepth 100000 in
theorem c5_from_no0 (l_ : Launch) (D : va_G) (k : Nat → ClassId) (a : Nat → Nat) (tS : Nat) (sk sv : Nat → Nat) (C : Nat → Nat) (F : Nat → Nat) (E : Nat → Nat → Nat) (F2 : Nat → Nat) (E2 : Nat → Nat → Nat) (K : Nat → Nat) (M : Nat → Nat)  (hR : Rb M F E) (hf : Wf M) (hk : K 0 = 0) : Met l_ yX5_from wsX5_from ({ frames := 1, cells := 0, slots := 0, locals := 21 }) (va_Pc [.ref (a 0), .int (nI 0)] (wH (Am tS sk sv) D k (ho a C ++ (bw a 1 k F E ++ (iw a k ++ (bw a 18 k F2 E2 ++ (kw a k K))))))) (va_Qi (fun (r : Int32) (u : Unit) => r = -3) (fun (u : Unit) (t_ : State) => va_P D vwCl ((fun (_ : Unit) => ho a (nset C 1 (C 1 + 1)) ++ (bw a 1 k F E ++ (iw a k ++ (bw a 18 k F2 E2 ++ (kw a k K))))) u) t_.heap) (wA (ho a C ++ (bw a 1 k F E ++ (iw a k ++ (bw a 18 k F2 E2 ++ (kw a k K))))))) 0 0 (wA (ho a C ++ (bw a 1 k F E ++ (iw a k ++ (bw a 18 k F2 E2 ++ (kw a k K)))))) := by
  refine my_entry (cc := cX5_from) (maxL := 2) (ret := some .int) (by decide) rfl (Nat.le_of_ble_eq_true rfl) ?_
  intro p_ e_ s_ m_ bl_ me_ c_ hz hr hlk hB ls hl
  obtain ⟨hP, hK, hD0, hy⟩ := hB
  have hD := wA.self hD0
  have hS : va_S (wA (ho a C ++ (bw a 1 k F E ++ (iw a k ++ (bw a 18 k F2 E2 ++ (kw a k K)))))) s_.heap s_.heap [] := va_S.rf
  have hl : lv_has ls 2 [(0, .ref (a 0)), (1, .int (nI 0))] := hl
  have f0 := hf.n2
  have f1 := hf.n9
  have f2 := hf.fr
  have f3 := hf.gd
  have f4 := hf.pc
  have f5 := hf.wc
  have e0 : F 0 = M 0 := hR.1.1
  have e1 : F 1 = M 1 := hR.1.2.1
  have e2 : F 2 = M 2 := hR.1.2.2.1
  have e3 : F 3 = M 19 := hR.1.2.2.2.1
  have e4 : F 4 = M 32 := hR.1.2.2.2.2
  refine lv_iload_n hz.1 hz.2.1 dX5_from_0 rfl (lv_at hl 1 rfl) ?_
  refine lv_iconst (v := nI 2) hz.1 hz.2.1 dX5_from_1 (by decide) ?_
  refine rdS (As := [.int (nI 0), .int (nI 2)]) (rest := []) hz (c5_inRow l_ (nI 0) 2 1 (by omega) (by omega)) rfl (va_cwS 2 hz.2.2.2.2 gX5_from_X5_inRow rfl rfl rfl (by decide +kernel) ⟨Nat.le_of_ble_eq_true rfl, Nat.le_of_ble_eq_true rfl⟩) rfl hl.1 rfl (Nat.le_of_ble_eq_true rfl) dX5_from_2 ⟨Nat.zero_le _, Nat.zero_le _⟩ ?_
  refine zne (tgt := 15) hz dX5_from_5 (by decide) (fun c_5 => ?_) (fun c_5 => ?_)
  · refine lv_aload_n hz.1 hz.2.1 dX5_from_15 rfl (lv_at hl 0 rfl) ?_
    refine rg (T := TX5) (N := 11) hz hinX5_from_X5 hK hP 0 rfl rfl 3 (by decide) (List.mem_of_getElem? (i := 1) rfl) rfl (v := .ref (a 34)) rfl dX5_from_16 ?_
    refine lv_iload_n hz.1 hz.2.1 dX5_from_19 rfl (lv_at hl 1 rfl) ?_
    refine rzald hz hK hP 18 2 rfl rfl (i := 0) (by decide) (by decide) (v := nI (K 0)) rfl dX5_from_20 ?_
    refine jne0 (tgt := 29) hz dX5_from_21 (by decide) (by omega) (fun c_21 => ?_) (fun c_21 => ?_)
    · exact absurd c_21 (by omega)
    · refine lv_aload_n hz.1 hz.2.1 dX5_from_24 rfl (lv_at hl 0 rfl) ?_
      refine wrV (A := wA (ho a C ++ (bw a 1 k F E ++ (iw a k ++ (bw a 18 k F2 E2 ++ (kw a k K)))))) (As := []) (rest := []) hz (okAm tS sk sv) (c5_no l_ D k a tS sk sv C   ) (cwV 0 hz.2.2.2.2 gX5_from_X5_no rfl rfl rfl (by decide +kernel) ⟨Nat.le_of_ble_eq_true rfl, Nat.le_of_ble_eq_true rfl⟩) hK hy (hP.sub (ws' := ho a C) [0] rfl) (hD.sub (ws' := ho a C) [0] (by decide) rfl) hS 0 5 rfl rfl rfl rfl hl.1 rfl (Nat.le_of_ble_eq_true rfl) dX5_from_25 ⟨Nat.zero_le _, Nat.zero_le _⟩ (fun r u H1 locs hp hP1 hS hfr => ?_)
      obtain rfl : r = -3 := hp
      have hP1 : va_P D vwCl (ho a (nset C 1 (C 1 + 1))) H1 := hP1
      have hP : va_P D vwCl (ho a (nset C 1 (C 1 + 1)) ++ (bw a 1 k F E ++ (iw a k ++ (bw a 18 k F2 E2 ++ (kw a k K))))) H1 := wJn (w1 := ho a (nset C 1 (C 1 + 1))) (wc := ho a C) hP hD [0] rfl rfl hP1 hfr
      generalize H1 = H at hP hS ⊢
      have hD : va_D (wA (ho a C ++ (bw a 1 k F E ++ (iw a k ++ (bw a 18 k F2 E2 ++ (kw a k K)))))) (ho a (nset C 1 (C 1 + 1)) ++ (bw a 1 k F E ++ (iw a k ++ (bw a 18 k F2 E2 ++ (kw a k K))))) := hD.same rfl
      exact wr_iret hz hr hlk dX5_from_28 hS (()) hP (rfl)
  · exact absurd ((wIn_ok (by omega) (by omega) (by omega)).symm.trans c_5) (by decide)

set_option maxHeartbeats 4000000 in
set_option maxRecDepth 100000 in
theorem c5_image_ok1 (l_ : Launch) (D : va_G) (k : Nat → ClassId) (a : Nat → Nat) (tS : Nat) (sk sv : Nat → Nat) (C : Nat → Nat) (F : Nat → Nat) (E : Nat → Nat → Nat) (F2 : Nat → Nat) (E2 : Nat → Nat → Nat) (K : Nat → Nat) (M : Nat → Nat)  (hR : Rb M F E) (hf : Wf M) : Met l_ yX5_image wsX5_image ({ frames := 2, cells := 0, slots := 0, locals := 101 }) (va_Pc [.ref (a 0), .int (nI 1)] (wH (Am tS sk sv) D k (ho a C ++ (bw a 1 k F E ++ (iw a k ++ (bw a 26 k F2 E2 ++ (kw a k K))))))) (va_Qi (fun (r : Int32) (u : Unit) => r = nI 1) (fun (u : Unit) (t_ : State) => va_P D vwCl ((fun (_ : Unit) => ho a C ++ (bw a 1 k F E ++ (iw a k ++ (bw a 26 k (nset (nset (nset (nset (nset F2 0 (F 0)) 1 (F 1)) 2 (F 2)) 3 (F 3)) 4 (F 4)) (gset (gset (gset (gset (gset (gset (gset E2 0 (ccpy (E2 0) (E 0) 8)) 1 (ccpy (E2 1) (E 1) 8)) 2 (ccpy (E2 2) (E 2) 6)) 3 (ccpy (E2 3) (E 3) 6)) 4 (ccpy (E2 4) (E 4) 8)) 5 (ccpy (E2 5) (E 5) 8)) 6 (ccpy (E2 6) (E 6) 8)) ++ (kw a k (nset K 1 1)))))) u) t_.heap) (wA (ho a C ++ (bw a 1 k F E ++ (iw a k ++ (bw a 26 k F2 E2 ++ (kw a k K))))))) 0 0 (wA (ho a C ++ (bw a 1 k F E ++ (iw a k ++ (bw a 26 k F2 E2 ++ (kw a k K)))))) := by
  refine my_entry (cc := cX5_image) (maxL := 2) (ret := some .int) (by decide) rfl (Nat.le_of_ble_eq_true rfl) ?_
  intro p_ e_ s_ m_ bl_ me_ c_ hz hr hlk hB ls hl
  obtain ⟨hP, hK, hD0, hy⟩ := hB
  have hD := wA.self hD0
  have hS : va_S (wA (ho a C ++ (bw a 1 k F E ++ (iw a k ++ (bw a 26 k F2 E2 ++ (kw a k K)))))) s_.heap s_.heap [] := va_S.rf
  have hl : lv_has ls 2 [(0, .ref (a 0)), (1, .int (nI 1))] := hl
  have f0 := hf.n2
  have f1 := hf.n9
  have f2 := hf.fr
  have f3 := hf.gd
  have f4 := hf.pc
  have f5 := hf.wc
  have e0 : F 0 = M 0 := hR.1.1
  have e1 : F 1 = M 1 := hR.1.2.1
  have e2 : F 2 = M 2 := hR.1.2.2.1
  have e3 : F 3 = M 19 := hR.1.2.2.2.1
  have e4 : F 4 = M 32 := hR.1.2.2.2.2
  refine lv_iload_n hz.1 hz.2.1 dX5_image_0 rfl (lv_at hl 1 rfl) ?_
  refine lv_iconst (v := nI 2) hz.1 hz.2.1 dX5_image_1 (by decide) ?_
  refine rdS (As := [.int (nI 1), .int (nI 2)]) (rest := []) hz (c5_inRow l_ (nI 1) 2 1 (by omega) (by omega)) rfl (va_cwS 2 hz.2.2.2.2 gX5_image_X5_inRow rfl rfl rfl (by decide +kernel) ⟨Nat.le_of_ble_eq_true rfl, Nat.le_of_ble_eq_true rfl⟩) rfl hl.1 rfl (Nat.le_of_ble_eq_true rfl) dX5_image_2 ⟨Nat.zero_le _, Nat.zero_le _⟩ ?_
  refine zne (tgt := 15) hz dX5_image_5 (by decide) (fun c_5 => ?_) (fun c_5 => ?_)
  · refine lv_aload_n hz.1 hz.2.1 dX5_image_15 rfl (lv_at hl 0 rfl) ?_
    refine rg (T := TX5) (N := 11) hz hinX5_image_X5 hK hP 0 rfl rfl 2 (by decide) (List.mem_of_getElem? (i := 1) rfl) rfl (v := .ref (a 17)) rfl dX5_image_16 ?_
    refine lv_iload_n hz.1 hz.2.1 dX5_image_19 rfl (lv_at hl 1 rfl) ?_
    refine rald3 hz hK hP 9 rfl (i := 1) (v := a 26) (by decide) (by decide) rfl dX5_image_20 ?_
    refine lv_aload_n hz.1 hz.2.1 dX5_image_21 rfl (lv_at hl 0 rfl) ?_
    refine rg (T := TX5) (N := 11) hz hinX5_image_X5 hK hP 0 rfl rfl 0 (by decide) (List.mem_of_getElem? (i := 2) rfl) rfl (v := .ref (a 1)) rfl dX5_image_22 ?_
    refine wrVv (A := wA (ho a C ++ (bw a 1 k F E ++ (iw a k ++ (bw a 26 k F2 E2 ++ (kw a k K)))))) (As := [.ref (a 1)]) (rest := []) hz (okAm tS sk sv) (c0_takeFrom l_ D k a 26 1 tS sk sv F2 E2 F E   ) (cwV 1 hz.2.2.2.2 gX5_image_X0_takeFrom rfl rfl rfl (by decide +kernel) ⟨Nat.le_of_ble_eq_true rfl, Nat.le_of_ble_eq_true rfl⟩) hK hy (hP.sub (ws' := bw a 26 k F2 E2 ++ (bw a 1 k F E)) [10, 11, 12, 13, 14, 15, 16, 17, 1, 2, 3, 4, 5, 6, 7, 8] rfl) (hD.sub (ws' := bw a 26 k F2 E2 ++ (bw a 1 k F E)) [10, 11, 12, 13, 14, 15, 16, 17, 1, 2, 3, 4, 5, 6, 7, 8] (by decide) rfl) hS 0 0 rfl rfl rfl rfl hl.1 rfl (Nat.le_of_ble_eq_true rfl) dX5_image_25 ⟨Nat.zero_le _, Nat.zero_le _⟩ (fun u H1 locs hp hP1 hS hfr => ?_)
    have hP1 : va_P D vwCl (bw a 26 k (nset (nset (nset (nset (nset F2 0 (F 0)) 1 (F 1)) 2 (F 2)) 3 (F 3)) 4 (F 4)) (gset (gset (gset (gset (gset (gset (gset E2 0 (ccpy (E2 0) (E 0) 8)) 1 (ccpy (E2 1) (E 1) 8)) 2 (ccpy (E2 2) (E 2) 6)) 3 (ccpy (E2 3) (E 3) 6)) 4 (ccpy (E2 4) (E 4) 8)) 5 (ccpy (E2 5) (E 5) 8)) 6 (ccpy (E2 6) (E 6) 8)) ++ (bw a 1 k F E)) H1 := hP1
    have hP : va_P D vwCl (ho a C ++ (bw a 1 k F E ++ (iw a k ++ (bw a 26 k (nset (nset (nset (nset (nset F2 0 (F 0)) 1 (F 1)) 2 (F 2)) 3 (F 3)) 4 (F 4)) (gset (gset (gset (gset (gset (gset (gset E2 0 (ccpy (E2 0) (E 0) 8)) 1 (ccpy (E2 1) (E 1) 8)) 2 (ccpy (E2 2) (E 2) 6)) 3 (ccpy (E2 3) (E 3) 6)) 4 (ccpy (E2 4) (E 4) 8)) 5 (ccpy (E2 5) (E 5) 8)) 6 (ccpy (E2 6) (E 6) 8)) ++ (kw a k K))))) H1 := wJn (w1 := bw a 26 k (nset (nset (nset (nset (nset F2 0 (F 0)) 1 (F 1)) 2 (F 2)) 3 (F 3)) 4 (F 4)) (gset (gset (gset (gset (gset (gset (gset E2 0 (ccpy (E2 0) (E 0) 8)) 1 (ccpy (E2 1) (E 1) 8)) 2 (ccpy (E2 2) (E 2) 6)) 3 (ccpy (E2 3) (E 3) 6)) 4 (ccpy (E2 4) (E 4) 8)) 5 (ccpy (E2 5) (E 5) 8)) 6 (ccpy (E2 6) (E 6) 8)) ++ (bw a 1 k F E)) (wc := bw a 26 k F2 E2 ++ (bw a 1 k F E)) hP hD [10, 11, 12, 13, 14, 15, 16, 17, 1, 2, 3, 4, 5, 6, 7, 8] rfl rfl hP1 hfr
    generalize H1 = H at hP hS ⊢
    have hD : va_D (wA (ho a C ++ (bw a 1 k F E ++ (iw a k ++ (bw a 26 k F2 E2 ++ (kw a k K)))))) (ho a C ++ (bw a 1 k F E ++ (iw a k ++ (bw a 26 k (nset (nset (nset (nset (nset F2 0 (F 0)) 1 (F 1)) 2 (F 2)) 3 (F 3)) 4 (F 4)) (gset (gset (gset (gset (gset (gset (gset E2 0 (ccpy (E2 0) (E 0) 8)) 1 (ccpy (E2 1) (E 1) 8)) 2 (ccpy (E2 2) (E 2) 6)) 3 (ccpy (E2 3) (E 3) 6)) 4 (ccpy (E2 4) (E 4) 8)) 5 (ccpy (E2 5) (E 5) 8)) 6 (ccpy (E2 6) (E 6) 8)) ++ (kw a k K))))) := hD.same rfl
    refine lv_aload_n hz.1 hz.2.1 dX5_image_28 rfl (lv_at hl 0 rfl) ?_
    refine rg (T := TX5) (N := 11) hz hinX5_image_X5 hK hP 0 rfl rfl 3 (by decide) (List.mem_of_getElem? (i := 3) rfl) rfl (v := .ref (a 34)) rfl dX5_image_29 ?_
    refine lv_iload_n hz.1 hz.2.1 dX5_image_32 rfl (lv_at hl 1 rfl) ?_
    refine lv_iconst (v := nI 1) hz.1 hz.2.1 dX5_image_33 (by decide) ?_
    refine rzast hz hK hP hD hS 18 2 rfl rfl (i := 1) (v := 1) (by decide) (by decide) (by decide) dX5_image_34 (fun H locs hP hS => ?_)
    have hP : va_P D vwCl (ho a C ++ (bw a 1 k F E ++ (iw a k ++ (bw a 26 k (nset (nset (nset (nset (nset F2 0 (F 0)) 1 (F 1)) 2 (F 2)) 3 (F 3)) 4 (F 4)) (gset (gset (gset (gset (gset (gset (gset E2 0 (ccpy (E2 0) (E 0) 8)) 1 (ccpy (E2 1) (E 1) 8)) 2 (ccpy (E2 2) (E 2) 6)) 3 (ccpy (E2 3) (E 3) 6)) 4 (ccpy (E2 4) (E 4) 8)) 5 (ccpy (E2 5) (E 5) 8)) 6 (ccpy (E2 6) (E 6) 8)) ++ (kw a k (nset K 1 1)))))) H := hP
    have hD : va_D (wA (ho a C ++ (bw a 1 k F E ++ (iw a k ++ (bw a 26 k F2 E2 ++ (kw a k K)))))) (ho a C ++ (bw a 1 k F E ++ (iw a k ++ (bw a 26 k (nset (nset (nset (nset (nset F2 0 (F 0)) 1 (F 1)) 2 (F 2)) 3 (F 3)) 4 (F 4)) (gset (gset (gset (gset (gset (gset (gset E2 0 (ccpy (E2 0) (E 0) 8)) 1 (ccpy (E2 1) (E 1) 8)) 2 (ccpy (E2 2) (E 2) 6)) 3 (ccpy (E2 3) (E 3) 6)) 4 (ccpy (E2 4) (E 4) 8)) 5 (ccpy (E2 5) (E 5) 8)) 6 (ccpy (E2 6) (E 6) 8)) ++ (kw a k (nset K 1 1)))))) := hD.same rfl
    refine lv_iconst (v := nI 1) hz.1 hz.2.1 dX5_image_35 (by decide) ?_
    exact wr_iret hz hr hlk dX5_image_36 hS (()) hP (rfl)
  · exact absurd ((wIn_ok (by omega) (by omega) (by omega)).symm.trans c_5) (by decide)

set_option maxHeartbeats 4000000 in
set_option maxRecDepth 100000 in
theorem c5_from_ok1 (l_ : Launch) (D : va_G) (k : Nat → ClassId) (a : Nat → Nat) (tS : Nat) (sk sv : Nat → Nat) (C : Nat → Nat) (F : Nat → Nat) (E : Nat → Nat → Nat) (F2 : Nat → Nat) (E2 : Nat → Nat → Nat) (K : Nat → Nat) (M : Nat → Nat)  (hR : Rb M F E) (hf : Wf M) (hk : K 1 = 1) : Met l_ yX5_from wsX5_from ({ frames := 2, cells := 0, slots := 0, locals := 101 }) (va_Pc [.ref (a 0), .int (nI 1)] (wH (Am tS sk sv) D k (ho a C ++ (bw a 1 k F E ++ (iw a k ++ (bw a 26 k F2 E2 ++ (kw a k K))))))) (va_Qi (fun (r : Int32) (u : Unit) => r = nI 1) (fun (u : Unit) (t_ : State) => va_P D vwCl ((fun (_ : Unit) => ho a C ++ (bw a 1 k (nset (nset (nset (nset (nset F 0 (F2 0)) 1 (F2 1)) 2 (F2 2)) 3 (F2 3)) 4 (F2 4)) (gset (gset (gset (gset (gset (gset (gset E 0 (ccpy (E 0) (E2 0) 8)) 1 (ccpy (E 1) (E2 1) 8)) 2 (ccpy (E 2) (E2 2) 6)) 3 (ccpy (E 3) (E2 3) 6)) 4 (ccpy (E 4) (E2 4) 8)) 5 (ccpy (E 5) (E2 5) 8)) 6 (ccpy (E 6) (E2 6) 8)) ++ (iw a k ++ (bw a 26 k F2 E2 ++ (kw a k K))))) u) t_.heap) (wA (ho a C ++ (bw a 1 k F E ++ (iw a k ++ (bw a 26 k F2 E2 ++ (kw a k K))))))) 0 0 (wA (ho a C ++ (bw a 1 k F E ++ (iw a k ++ (bw a 26 k F2 E2 ++ (kw a k K)))))) := by
  refine my_entry (cc := cX5_from) (maxL := 2) (ret := some .int) (by decide) rfl (Nat.le_of_ble_eq_true rfl) ?_
  intro p_ e_ s_ m_ bl_ me_ c_ hz hr hlk hB ls hl
  obtain ⟨hP, hK, hD0, hy⟩ := hB
  have hD := wA.self hD0
  have hS : va_S (wA (ho a C ++ (bw a 1 k F E ++ (iw a k ++ (bw a 26 k F2 E2 ++ (kw a k K)))))) s_.heap s_.heap [] := va_S.rf
  have hl : lv_has ls 2 [(0, .ref (a 0)), (1, .int (nI 1))] := hl
  have f0 := hf.n2
  have f1 := hf.n9
  have f2 := hf.fr
  have f3 := hf.gd
  have f4 := hf.pc
  have f5 := hf.wc
  have e0 : F 0 = M 0 := hR.1.1
  have e1 : F 1 = M 1 := hR.1.2.1
  have e2 : F 2 = M 2 := hR.1.2.2.1
  have e3 : F 3 = M 19 := hR.1.2.2.2.1
  have e4 : F 4 = M 32 := hR.1.2.2.2.2
  refine lv_iload_n hz.1 hz.2.1 dX5_from_0 rfl (lv_at hl 1 rfl) ?_
  refine lv_iconst (v := nI 2) hz.1 hz.2.1 dX5_from_1 (by decide) ?_
  refine rdS (As := [.int (nI 1), .int (nI 2)]) (rest := []) hz (c5_inRow l_ (nI 1) 2 1 (by omega) (by omega)) rfl (va_cwS 2 hz.2.2.2.2 gX5_from_X5_inRow rfl rfl rfl (by decide +kernel) ⟨Nat.le_of_ble_eq_true rfl, Nat.le_of_ble_eq_true rfl⟩) rfl hl.1 rfl (Nat.le_of_ble_eq_true rfl) dX5_from_2 ⟨Nat.zero_le _, Nat.zero_le _⟩ ?_
  refine zne (tgt := 15) hz dX5_from_5 (by decide) (fun c_5 => ?_) (fun c_5 => ?_)
  · refine lv_aload_n hz.1 hz.2.1 dX5_from_15 rfl (lv_at hl 0 rfl) ?_
    refine rg (T := TX5) (N := 11) hz hinX5_from_X5 hK hP 0 rfl rfl 3 (by decide) (List.mem_of_getElem? (i := 1) rfl) rfl (v := .ref (a 34)) rfl dX5_from_16 ?_
    refine lv_iload_n hz.1 hz.2.1 dX5_from_19 rfl (lv_at hl 1 rfl) ?_
    refine rzald hz hK hP 18 2 rfl rfl (i := 1) (by decide) (by decide) (v := nI (K 1)) rfl dX5_from_20 ?_
    refine jne0 (tgt := 29) hz dX5_from_21 (by decide) (by omega) (fun c_21 => ?_) (fun c_21 => ?_)
    · refine lv_aload_n hz.1 hz.2.1 dX5_from_29 rfl (lv_at hl 0 rfl) ?_
      refine rg (T := TX5) (N := 11) hz hinX5_from_X5 hK hP 0 rfl rfl 0 (by decide) (List.mem_of_getElem? (i := 2) rfl) rfl (v := .ref (a 1)) rfl dX5_from_30 ?_
      refine lv_aload_n hz.1 hz.2.1 dX5_from_33 rfl (lv_at hl 0 rfl) ?_
      refine rg (T := TX5) (N := 11) hz hinX5_from_X5 hK hP 0 rfl rfl 2 (by decide) (List.mem_of_getElem? (i := 3) rfl) rfl (v := .ref (a 17)) rfl dX5_from_34 ?_
      refine lv_iload_n hz.1 hz.2.1 dX5_from_37 rfl (lv_at hl 1 rfl) ?_
      refine rald3 hz hK hP 9 rfl (i := 1) (v := a 26) (by decide) (by decide) rfl dX5_from_38 ?_
      refine wrVv (A := wA (ho a C ++ (bw a 1 k F E ++ (iw a k ++ (bw a 26 k F2 E2 ++ (kw a k K)))))) (As := [.ref (a 26)]) (rest := []) hz (okAm tS sk sv) (c0_takeFrom l_ D k a 1 26 tS sk sv F E F2 E2   ) (cwV 1 hz.2.2.2.2 gX5_from_X0_takeFrom rfl rfl rfl (by decide +kernel) ⟨Nat.le_of_ble_eq_true rfl, Nat.le_of_ble_eq_true rfl⟩) hK hy (hP.sub (ws' := bw a 1 k F E ++ (bw a 26 k F2 E2)) [1, 2, 3, 4, 5, 6, 7, 8, 10, 11, 12, 13, 14, 15, 16, 17] rfl) (hD.sub (ws' := bw a 1 k F E ++ (bw a 26 k F2 E2)) [1, 2, 3, 4, 5, 6, 7, 8, 10, 11, 12, 13, 14, 15, 16, 17] (by decide) rfl) hS 0 0 rfl rfl rfl rfl hl.1 rfl (Nat.le_of_ble_eq_true rfl) dX5_from_39 ⟨Nat.zero_le _, Nat.zero_le _⟩ (fun u H1 locs hp hP1 hS hfr => ?_)
      have hP1 : va_P D vwCl (bw a 1 k (nset (nset (nset (nset (nset F 0 (F2 0)) 1 (F2 1)) 2 (F2 2)) 3 (F2 3)) 4 (F2 4)) (gset (gset (gset (gset (gset (gset (gset E 0 (ccpy (E 0) (E2 0) 8)) 1 (ccpy (E 1) (E2 1) 8)) 2 (ccpy (E 2) (E2 2) 6)) 3 (ccpy (E 3) (E2 3) 6)) 4 (ccpy (E 4) (E2 4) 8)) 5 (ccpy (E 5) (E2 5) 8)) 6 (ccpy (E 6) (E2 6) 8)) ++ (bw a 26 k F2 E2)) H1 := hP1
      have hP : va_P D vwCl (ho a C ++ (bw a 1 k (nset (nset (nset (nset (nset F 0 (F2 0)) 1 (F2 1)) 2 (F2 2)) 3 (F2 3)) 4 (F2 4)) (gset (gset (gset (gset (gset (gset (gset E 0 (ccpy (E 0) (E2 0) 8)) 1 (ccpy (E 1) (E2 1) 8)) 2 (ccpy (E 2) (E2 2) 6)) 3 (ccpy (E 3) (E2 3) 6)) 4 (ccpy (E 4) (E2 4) 8)) 5 (ccpy (E 5) (E2 5) 8)) 6 (ccpy (E 6) (E2 6) 8)) ++ (iw a k ++ (bw a 26 k F2 E2 ++ (kw a k K))))) H1 := wJn (w1 := bw a 1 k (nset (nset (nset (nset (nset F 0 (F2 0)) 1 (F2 1)) 2 (F2 2)) 3 (F2 3)) 4 (F2 4)) (gset (gset (gset (gset (gset (gset (gset E 0 (ccpy (E 0) (E2 0) 8)) 1 (ccpy (E 1) (E2 1) 8)) 2 (ccpy (E 2) (E2 2) 6)) 3 (ccpy (E 3) (E2 3) 6)) 4 (ccpy (E 4) (E2 4) 8)) 5 (ccpy (E 5) (E2 5) 8)) 6 (ccpy (E 6) (E2 6) 8)) ++ (bw a 26 k F2 E2)) (wc := bw a 1 k F E ++ (bw a 26 k F2 E2)) hP hD [1, 2, 3, 4, 5, 6, 7, 8, 10, 11, 12, 13, 14, 15, 16, 17] rfl rfl hP1 hfr
      generalize H1 = H at hP hS ⊢
      have hD : va_D (wA (ho a C ++ (bw a 1 k F E ++ (iw a k ++ (bw a 26 k F2 E2 ++ (kw a k K)))))) (ho a C ++ (bw a 1 k (nset (nset (nset (nset (nset F 0 (F2 0)) 1 (F2 1)) 2 (F2 2)) 3 (F2 3)) 4 (F2 4)) (gset (gset (gset (gset (gset (gset (gset E 0 (ccpy (E 0) (E2 0) 8)) 1 (ccpy (E 1) (E2 1) 8)) 2 (ccpy (E 2) (E2 2) 6)) 3 (ccpy (E 3) (E2 3) 6)) 4 (ccpy (E 4) (E2 4) 8)) 5 (ccpy (E 5) (E2 5) 8)) 6 (ccpy (E 6) (E2 6) 8)) ++ (iw a k ++ (bw a 26 k F2 E2 ++ (kw a k K))))) := hD.same rfl
      refine lv_iconst (v := nI 1) hz.1 hz.2.1 dX5_from_42 (by decide) ?_
      exact wr_iret hz hr hlk dX5_from_43 hS (()) hP (rfl)
    · exact absurd c_21 (by omega)
  · exact absurd ((wIn_ok (by omega) (by omega) (by omega)).symm.trans c_5) (by decide)

set_option maxHeartbeats 4000000 in
set_option maxRecDepth 100000 in
theorem c5_from_no1 (l_ : Launch) (D : va_G) (k : Nat → ClassId) (a : Nat → Nat) (tS : Nat) (sk sv : Nat → Nat) (C : Nat → Nat) (F : Nat → Nat) (E : Nat → Nat → Nat) (F2 : Nat → Nat) (E2 : Nat → Nat → Nat) (K : Nat → Nat) (M : Nat → Nat)  (hR : Rb M F E) (hf : Wf M) (hk : K 1 = 0) : Met l_ yX5_from wsX5_from ({ frames := 1, cells := 0, slots := 0, locals := 21 }) (va_Pc [.ref (a 0), .int (nI 1)] (wH (Am tS sk sv) D k (ho a C ++ (bw a 1 k F E ++ (iw a k ++ (bw a 26 k F2 E2 ++ (kw a k K))))))) (va_Qi (fun (r : Int32) (u : Unit) => r = -3) (fun (u : Unit) (t_ : State) => va_P D vwCl ((fun (_ : Unit) => ho a (nset C 1 (C 1 + 1)) ++ (bw a 1 k F E ++ (iw a k ++ (bw a 26 k F2 E2 ++ (kw a k K))))) u) t_.heap) (wA (ho a C ++ (bw a 1 k F E ++ (iw a k ++ (bw a 26 k F2 E2 ++ (kw a k K))))))) 0 0 (wA (ho a C ++ (bw a 1 k F E ++ (iw a k ++ (bw a 26 k F2 E2 ++ (kw a k K)))))) := by
  refine my_entry (cc := cX5_from) (maxL := 2) (ret := some .int) (by decide) rfl (Nat.le_of_ble_eq_true rfl) ?_
  intro p_ e_ s_ m_ bl_ me_ c_ hz hr hlk hB ls hl
  obtain ⟨hP, hK, hD0, hy⟩ := hB
  have hD := wA.self hD0
  have hS : va_S (wA (ho a C ++ (bw a 1 k F E ++ (iw a k ++ (bw a 26 k F2 E2 ++ (kw a k K)))))) s_.heap s_.heap [] := va_S.rf
  have hl : lv_has ls 2 [(0, .ref (a 0)), (1, .int (nI 1))] := hl
  have f0 := hf.n2
  have f1 := hf.n9
  have f2 := hf.fr
  have f3 := hf.gd
  have f4 := hf.pc
  have f5 := hf.wc
  have e0 : F 0 = M 0 := hR.1.1
  have e1 : F 1 = M 1 := hR.1.2.1
  have e2 : F 2 = M 2 := hR.1.2.2.1
  have e3 : F 3 = M 19 := hR.1.2.2.2.1
  have e4 : F 4 = M 32 := hR.1.2.2.2.2
  refine lv_iload_n hz.1 hz.2.1 dX5_from_0 rfl (lv_at hl 1 rfl) ?_
  refine lv_iconst (v := nI 2) hz.1 hz.2.1 dX5_from_1 (by decide) ?_
  refine rdS (As := [.int (nI 1), .int (nI 2)]) (rest := []) hz (c5_inRow l_ (nI 1) 2 1 (by omega) (by omega)) rfl (va_cwS 2 hz.2.2.2.2 gX5_from_X5_inRow rfl rfl rfl (by decide +kernel) ⟨Nat.le_of_ble_eq_true rfl, Nat.le_of_ble_eq_true rfl⟩) rfl hl.1 rfl (Nat.le_of_ble_eq_true rfl) dX5_from_2 ⟨Nat.zero_le _, Nat.zero_le _⟩ ?_
  refine zne (tgt := 15) hz dX5_from_5 (by decide) (fun c_5 => ?_) (fun c_5 => ?_)
  · refine lv_aload_n hz.1 hz.2.1 dX5_from_15 rfl (lv_at hl 0 rfl) ?_
    refine rg (T := TX5) (N := 11) hz hinX5_from_X5 hK hP 0 rfl rfl 3 (by decide) (List.mem_of_getElem? (i := 1) rfl) rfl (v := .ref (a 34)) rfl dX5_from_16 ?_
    refine lv_iload_n hz.1 hz.2.1 dX5_from_19 rfl (lv_at hl 1 rfl) ?_
    refine rzald hz hK hP 18 2 rfl rfl (i := 1) (by decide) (by decide) (v := nI (K 1)) rfl dX5_from_20 ?_
    refine jne0 (tgt := 29) hz dX5_from_21 (by decide) (by omega) (fun c_21 => ?_) (fun c_21 => ?_)
    · exact absurd c_21 (by omega)
    · refine lv_aload_n hz.1 hz.2.1 dX5_from_24 rfl (lv_at hl 0 rfl) ?_
      refine wrV (A := wA (ho a C ++ (bw a 1 k F E ++ (iw a k ++ (bw a 26 k F2 E2 ++ (kw a k K)))))) (As := []) (rest := []) hz (okAm tS sk sv) (c5_no l_ D k a tS sk sv C   ) (cwV 0 hz.2.2.2.2 gX5_from_X5_no rfl rfl rfl (by decide +kernel) ⟨Nat.le_of_ble_eq_true rfl, Nat.le_of_ble_eq_true rfl⟩) hK hy (hP.sub (ws' := ho a C) [0] rfl) (hD.sub (ws' := ho a C) [0] (by decide) rfl) hS 0 5 rfl rfl rfl rfl hl.1 rfl (Nat.le_of_ble_eq_true rfl) dX5_from_25 ⟨Nat.zero_le _, Nat.zero_le _⟩ (fun r u H1 locs hp hP1 hS hfr => ?_)
      obtain rfl : r = -3 := hp
      have hP1 : va_P D vwCl (ho a (nset C 1 (C 1 + 1))) H1 := hP1
      have hP : va_P D vwCl (ho a (nset C 1 (C 1 + 1)) ++ (bw a 1 k F E ++ (iw a k ++ (bw a 26 k F2 E2 ++ (kw a k K))))) H1 := wJn (w1 := ho a (nset C 1 (C 1 + 1))) (wc := ho a C) hP hD [0] rfl rfl hP1 hfr
      generalize H1 = H at hP hS ⊢
      have hD : va_D (wA (ho a C ++ (bw a 1 k F E ++ (iw a k ++ (bw a 26 k F2 E2 ++ (kw a k K)))))) (ho a (nset C 1 (C 1 + 1)) ++ (bw a 1 k F E ++ (iw a k ++ (bw a 26 k F2 E2 ++ (kw a k K))))) := hD.same rfl
      exact wr_iret hz hr hlk dX5_from_28 hS (()) hP (rfl)
  · exact absurd ((wIn_ok (by omega) (by omega) (by omega)).symm.trans c_5) (by decide)

theorem hinX5_status_X5 : ∀ w ∈ wsX50, w ∈ wsX5_status := fun _ h => List.mem_cons_of_mem _ (List.mem_append_right _ h)
set_option maxHeartbeats 4000000 in
set_option maxRecDepth 100000 in
theorem c5_status_bad (l_ : Launch) (D : va_G) (k : Nat → ClassId) (a : Nat → Nat) (tS : Nat) (sk sv : Nat → Nat) (C : Nat → Nat) (F : Nat → Nat) (E : Nat → Nat → Nat) (M : Nat → Nat) (x : Int32) (hR : Rb M F E) (hf : Wf M) (hb : wIn x 0 2 = false) : Met l_ yX5_status wsX5_status ({ frames := 1, cells := 0, slots := 0, locals := 21 }) (va_Pc [.ref (a 0), .int x] (wH (Am tS sk sv) D k (ho a C ++ (bw a 1 k F E)))) (va_Qi (fun (r : Int32) (u : Unit) => r = -1) (fun (u : Unit) (t_ : State) => va_P D vwCl ((fun (_ : Unit) => ho a (nset C 0 (C 0 + 1)) ++ (bw a 1 k F E)) u) t_.heap) (wA (ho a C ++ (bw a 1 k F E)))) 0 0 (wA (ho a C ++ (bw a 1 k F E))) := by
  refine my_entry (cc := cX5_status) (maxL := 2) (ret := some .int) (by decide) rfl (Nat.le_of_ble_eq_true rfl) ?_
  intro p_ e_ s_ m_ bl_ me_ c_ hz hr hlk hB ls hl
  obtain ⟨hP, hK, hD0, hy⟩ := hB
  have hD := wA.self hD0
  have hS : va_S (wA (ho a C ++ (bw a 1 k F E))) s_.heap s_.heap [] := va_S.rf
  have hl : lv_has ls 2 [(0, .ref (a 0)), (1, .int x)] := hl
  have f0 := hf.n2
  have f1 := hf.n9
  have f2 := hf.fr
  have f3 := hf.gd
  have f4 := hf.pc
  have f5 := hf.wc
  have e0 : F 0 = M 0 := hR.1.1
  have e1 : F 1 = M 1 := hR.1.2.1
  have e2 : F 2 = M 2 := hR.1.2.2.1
  have e3 : F 3 = M 19 := hR.1.2.2.2.1
  have e4 : F 4 = M 32 := hR.1.2.2.2.2
  refine lv_iload_n hz.1 hz.2.1 dX5_status_0 rfl (lv_at hl 1 rfl) ?_
  refine lv_tableOut (tgt := 43) hz.1 hz.2.1 dX5_status_1 (wIn_out (lo := 0) (hi := 2) (by decide) (by decide) hb) (by decide) ?_
  refine lv_aload_n hz.1 hz.2.1 dX5_status_43 rfl (lv_at hl 0 rfl) ?_
  refine lv_iconst (v := (-1)) hz.1 hz.2.1 dX5_status_44 (by decide) ?_
  refine wrV (A := wA (ho a C ++ (bw a 1 k F E))) (As := [.int (-1)]) (rest := []) hz (okAm tS sk sv) (c5_bad l_ D k a tS sk sv C  (-1) ) (cwV 1 hz.2.2.2.2 gX5_status_X5_bad rfl rfl rfl (by decide +kernel) ⟨Nat.le_of_ble_eq_true rfl, Nat.le_of_ble_eq_true rfl⟩) hK hy (hP.sub (ws' := ho a C) [0] rfl) (hD.sub (ws' := ho a C) [0] (by decide) rfl) hS 0 5 rfl rfl rfl rfl hl.1 rfl (Nat.le_of_ble_eq_true rfl) dX5_status_45 ⟨Nat.zero_le _, Nat.zero_le _⟩ (fun r u H1 locs hp hP1 hS hfr => ?_)
  obtain rfl : r = -1 := hp
  have hP1 : va_P D vwCl (ho a (nset C 0 (C 0 + 1))) H1 := hP1
  have hP : va_P D vwCl (ho a (nset C 0 (C 0 + 1)) ++ (bw a 1 k F E)) H1 := wJn (w1 := ho a (nset C 0 (C 0 + 1))) (wc := ho a C) hP hD [0] rfl rfl hP1 hfr
  generalize H1 = H at hP hS ⊢
  have hD : va_D (wA (ho a C ++ (bw a 1 k F E))) (ho a (nset C 0 (C 0 + 1)) ++ (bw a 1 k F E)) := hD.same rfl
  exact wr_iret hz hr hlk dX5_status_48 hS (()) hP (rfl)

set_option maxHeartbeats 4000000 in
set_option maxRecDepth 100000 in
theorem c5_status_ok (l_ : Launch) (D : va_G) (k : Nat → ClassId) (a : Nat → Nat) (tS : Nat) (sk sv : Nat → Nat) (C : Nat → Nat) (F : Nat → Nat) (E : Nat → Nat → Nat) (M : Nat → Nat) (wh : Nat) (hR : Rb M F E) (hf : Wf M) (h : wh ≤ 2) : Met l_ yX5_status wsX5_status ({ frames := 0, cells := 0, slots := 0, locals := 0 }) (va_Pc [.ref (a 0), .int (nI wh)] (wH (Am tS sk sv) D k (ho a C ++ (bw a 1 k F E)))) (QcRead (nI (C wh))) 0 0 (fun _ => False) := by
  refine my_entry (cc := cX5_status) (maxL := 2) (ret := some .int) (by decide) rfl (Nat.le_of_ble_eq_true rfl) ?_
  intro p_ e_ s_ m_ bl_ me_ c_ hz hr hlk hB ls hl
  obtain ⟨hP, hK, hD0, hy⟩ := hB
  have hD := wA.self hD0
  have hS : va_S (wA (ho a C ++ (bw a 1 k F E))) s_.heap s_.heap [] := va_S.rf
  have hl : lv_has ls 2 [(0, .ref (a 0)), (1, .int (nI wh))] := hl
  have f0 := hf.n2
  have f1 := hf.n9
  have f2 := hf.fr
  have f3 := hf.gd
  have f4 := hf.pc
  have f5 := hf.wc
  have e0 : F 0 = M 0 := hR.1.1
  have e1 : F 1 = M 1 := hR.1.2.1
  have e2 : F 2 = M 2 := hR.1.2.2.1
  have e3 : F 3 = M 19 := hR.1.2.2.2.1
  have e4 : F 4 = M 32 := hR.1.2.2.2.2
  refine lv_iload_n hz.1 hz.2.1 dX5_status_0 rfl (lv_at hl 1 rfl) ?_
  by_cases sw_1_0 : wh = 0
  · refine lv_tableIn (off := 27) (tgt := 28) hz.1 hz.2.1 dX5_status_1 (by rw [sw_1_0]; decide) (by rw [sw_1_0]; decide) (by rw [sw_1_0]; decide) (by decide) ?_
    refine lv_aload_n hz.1 hz.2.1 dX5_status_28 rfl (lv_at hl 0 rfl) ?_
    refine rg (T := TX5) (N := 11) hz hinX5_status_X5 hK hP 0 rfl rfl 8 (by decide) (List.mem_of_getElem? (i := 1) rfl) rfl (v := .int (nI (C 0))) rfl dX5_status_29 ?_
    exact rd_iret hz hr hlk dX5_status_32 (by rw [sw_1_0])
  by_cases sw_1_1 : wh = 1
  · refine lv_tableIn (off := 32) (tgt := 33) hz.1 hz.2.1 dX5_status_1 (by rw [sw_1_1]; decide) (by rw [sw_1_1]; decide) (by rw [sw_1_1]; decide) (by decide) ?_
    refine lv_aload_n hz.1 hz.2.1 dX5_status_33 rfl (lv_at hl 0 rfl) ?_
    refine rg (T := TX5) (N := 11) hz hinX5_status_X5 hK hP 0 rfl rfl 9 (by decide) (List.mem_of_getElem? (i := 2) rfl) rfl (v := .int (nI (C 1))) rfl dX5_status_34 ?_
    exact rd_iret hz hr hlk dX5_status_37 (by rw [sw_1_1])
  by_cases sw_1_2 : wh = 2
  · refine lv_tableIn (off := 37) (tgt := 38) hz.1 hz.2.1 dX5_status_1 (by rw [sw_1_2]; decide) (by rw [sw_1_2]; decide) (by rw [sw_1_2]; decide) (by decide) ?_
    refine lv_aload_n hz.1 hz.2.1 dX5_status_38 rfl (lv_at hl 0 rfl) ?_
    refine rg (T := TX5) (N := 11) hz hinX5_status_X5 hK hP 0 rfl rfl 10 (by decide) (List.mem_of_getElem? (i := 3) rfl) rfl (v := .int (nI (C 2))) rfl dX5_status_39 ?_
    exact rd_iret hz hr hlk dX5_status_42 (by rw [sw_1_2])
  refine lv_tableOut (tgt := 43) hz.1 hz.2.1 dX5_status_1 (by rw [nI_toInt (by omega)]; omega) (by decide) ?_
  exfalso; omega

theorem hinX5_count_X5 : ∀ w ∈ wsX50, w ∈ wsX5_count := fun _ h => List.mem_cons_of_mem _ (List.mem_append_left _ (List.mem_append_left _ (List.mem_append_right _ h)))
theorem hinX5_count_X0 : ∀ w ∈ wsX00, w ∈ wsX5_count := fun _ h => List.mem_cons_of_mem _ (List.mem_append_left _ (List.mem_append_right _ h))
theorem hinX5_count_X1 : ∀ w ∈ wsX10, w ∈ wsX5_count := fun _ h => List.mem_cons_of_mem _ (List.mem_append_right _ h)
set_option maxHeartbeats 4000000 in
set_option maxRecDepth 100000 in
theorem c5_count_bad (l_ : Launch) (D : va_G) (k : Nat → ClassId) (a : Nat → Nat) (tS : Nat) (sk sv : Nat → Nat) (C : Nat → Nat) (F : Nat → Nat) (E : Nat → Nat → Nat) (X : Nat → Nat) (T : Nat → Nat) (M : Nat → Nat) (x : Int32) (hR : Rb M F E) (hf : Wf M) (hb : wIn x 0 5 = false) : Met l_ yX5_count wsX5_count ({ frames := 1, cells := 0, slots := 0, locals := 21 }) (va_Pc [.ref (a 0), .int x] (wH (Am tS sk sv) D k (ho a C ++ (bw a 1 k F E ++ (tw a k X T))))) (va_Qi (fun (r : Int32) (u : Unit) => r = -2) (fun (u : Unit) (t_ : State) => va_P D vwCl ((fun (_ : Unit) => ho a (nset C 0 (C 0 + 1)) ++ (bw a 1 k F E ++ (tw a k X T))) u) t_.heap) (wA (ho a C ++ (bw a 1 k F E ++ (tw a k X T))))) 0 0 (wA (ho a C ++ (bw a 1 k F E ++ (tw a k X T)))) := by
  refine my_entry (cc := cX5_count) (maxL := 2) (ret := some .int) (by decide) rfl (Nat.le_of_ble_eq_true rfl) ?_
  intro p_ e_ s_ m_ bl_ me_ c_ hz hr hlk hB ls hl
  obtain ⟨hP, hK, hD0, hy⟩ := hB
  have hD := wA.self hD0
  have hS : va_S (wA (ho a C ++ (bw a 1 k F E ++ (tw a k X T)))) s_.heap s_.heap [] := va_S.rf
  have hl : lv_has ls 2 [(0, .ref (a 0)), (1, .int x)] := hl
  have f0 := hf.n2
  have f1 := hf.n9
  have f2 := hf.fr
  have f3 := hf.gd
  have f4 := hf.pc
  have f5 := hf.wc
  have e0 : F 0 = M 0 := hR.1.1
  have e1 : F 1 = M 1 := hR.1.2.1
  have e2 : F 2 = M 2 := hR.1.2.2.1
  have e3 : F 3 = M 19 := hR.1.2.2.2.1
  have e4 : F 4 = M 32 := hR.1.2.2.2.2
  refine lv_iload_n hz.1 hz.2.1 dX5_count_0 rfl (lv_at hl 1 rfl) ?_
  refine lv_tableOut (tgt := 91) hz.1 hz.2.1 dX5_count_1 (wIn_out (lo := 0) (hi := 5) (by decide) (by decide) hb) (by decide) ?_
  refine lv_aload_n hz.1 hz.2.1 dX5_count_91 rfl (lv_at hl 0 rfl) ?_
  refine lv_bipush (v := (-2)) hz.1 hz.2.1 dX5_count_92 (by decide) ?_
  refine wrV (A := wA (ho a C ++ (bw a 1 k F E ++ (tw a k X T)))) (As := [.int (-2)]) (rest := []) hz (okAm tS sk sv) (c5_bad l_ D k a tS sk sv C  (-2) ) (cwV 1 hz.2.2.2.2 gX5_count_X5_bad rfl rfl rfl (by decide +kernel) ⟨Nat.le_of_ble_eq_true rfl, Nat.le_of_ble_eq_true rfl⟩) hK hy (hP.sub (ws' := ho a C) [0] rfl) (hD.sub (ws' := ho a C) [0] (by decide) rfl) hS 0 5 rfl rfl rfl rfl hl.1 rfl (Nat.le_of_ble_eq_true rfl) dX5_count_94 ⟨Nat.zero_le _, Nat.zero_le _⟩ (fun r u H1 locs hp hP1 hS hfr => ?_)
  obtain rfl : r = -2 := hp
  have hP1 : va_P D vwCl (ho a (nset C 0 (C 0 + 1))) H1 := hP1
  have hP : va_P D vwCl (ho a (nset C 0 (C 0 + 1)) ++ (bw a 1 k F E ++ (tw a k X T))) H1 := wJn (w1 := ho a (nset C 0 (C 0 + 1))) (wc := ho a C) hP hD [0] rfl rfl hP1 hfr
  generalize H1 = H at hP hS ⊢
  have hD : va_D (wA (ho a C ++ (bw a 1 k F E ++ (tw a k X T)))) (ho a (nset C 0 (C 0 + 1)) ++ (bw a 1 k F E ++ (tw a k X T))) := hD.same rfl
  exact wr_iret hz hr hlk dX5_count_97 hS (()) hP (rfl)

set_option maxHeartbeats 4000000 in
set_option maxRecDepth 100000 in
theorem c5_count_ok (l_ : Launch) (D : va_G) (k : Nat → ClassId) (a : Nat → Nat) (tS : Nat) (sk sv : Nat → Nat) (C : Nat → Nat) (F : Nat → Nat) (E : Nat → Nat → Nat) (X : Nat → Nat) (T : Nat → Nat) (M : Nat → Nat) (wh : Nat) (hR : Rb M F E) (hf : Wf M) (h : wh ≤ 5) : Met l_ yX5_count wsX5_count ({ frames := 1, cells := 0, slots := 0, locals := 20 }) (va_Pc [.ref (a 0), .int (nI wh)] (wH (Am tS sk sv) D k (ho a C ++ (bw a 1 k F E ++ (tw a k X T))))) (QcRead (nI (sCount M (X 0) wh))) 0 0 (fun _ => False) := by
  refine my_entry (cc := cX5_count) (maxL := 2) (ret := some .int) (by decide) rfl (Nat.le_of_ble_eq_true rfl) ?_
  intro p_ e_ s_ m_ bl_ me_ c_ hz hr hlk hB ls hl
  obtain ⟨hP, hK, hD0, hy⟩ := hB
  have hD := wA.self hD0
  have hS : va_S (wA (ho a C ++ (bw a 1 k F E ++ (tw a k X T)))) s_.heap s_.heap [] := va_S.rf
  have hl : lv_has ls 2 [(0, .ref (a 0)), (1, .int (nI wh))] := hl
  have f0 := hf.n2
  have f1 := hf.n9
  have f2 := hf.fr
  have f3 := hf.gd
  have f4 := hf.pc
  have f5 := hf.wc
  have e0 : F 0 = M 0 := hR.1.1
  have e1 : F 1 = M 1 := hR.1.2.1
  have e2 : F 2 = M 2 := hR.1.2.2.1
  have e3 : F 3 = M 19 := hR.1.2.2.2.1
  have e4 : F 4 = M 32 := hR.1.2.2.2.2
  refine lv_iload_n hz.1 hz.2.1 dX5_count_0 rfl (lv_at hl 1 rfl) ?_
  by_cases sw_1_0 : wh = 0
  · refine lv_tableIn (off := 39) (tgt := 40) hz.1 hz.2.1 dX5_count_1 (by rw [sw_1_0]; decide) (by rw [sw_1_0]; decide) (by rw [sw_1_0]; decide) (by decide) ?_
    refine lv_aload_n hz.1 hz.2.1 dX5_count_40 rfl (lv_at hl 0 rfl) ?_
    refine rg (T := TX5) (N := 11) hz hinX5_count_X5 hK hP 0 rfl rfl 0 (by decide) (List.mem_of_getElem? (i := 1) rfl) rfl (v := .ref (a 1)) rfl dX5_count_41 ?_
    refine rg (T := TX0) (N := 12) hz hinX5_count_X0 hK hP 1 rfl rfl 0 (by decide) (List.mem_of_getElem? (i := 2) rfl) rfl (v := .int (nI (F 0))) rfl dX5_count_44 ?_
    refine toe (z := nI (M 0)) (by rw [hR.1.1]) ?_
    exact rd_iret hz hr hlk dX5_count_47 (by simp [sCount, sw_1_0])
  by_cases sw_1_1 : wh = 1
  · refine lv_tableIn (off := 47) (tgt := 48) hz.1 hz.2.1 dX5_count_1 (by rw [sw_1_1]; decide) (by rw [sw_1_1]; decide) (by rw [sw_1_1]; decide) (by decide) ?_
    refine lv_aload_n hz.1 hz.2.1 dX5_count_48 rfl (lv_at hl 0 rfl) ?_
    refine rg (T := TX5) (N := 11) hz hinX5_count_X5 hK hP 0 rfl rfl 0 (by decide) (List.mem_of_getElem? (i := 1) rfl) rfl (v := .ref (a 1)) rfl dX5_count_49 ?_
    refine rg (T := TX0) (N := 12) hz hinX5_count_X0 hK hP 1 rfl rfl 2 (by decide) (List.mem_of_getElem? (i := 3) rfl) rfl (v := .int (nI (F 2))) rfl dX5_count_52 ?_
    refine toe (z := nI (M 2)) (by rw [hR.1.2.2.1]) ?_
    refine rdS (As := [.int (nI (M 2))]) (rest := []) hz (cJ_bit l_ (M 2) (by omega)) rfl (va_cwS 1 hz.2.2.2.2 gX5_count_J6_bitCount_0f7a4 rfl rfl rfl (by decide +kernel) ⟨Nat.le_of_ble_eq_true rfl, Nat.le_of_ble_eq_true rfl⟩) rfl hl.1 rfl (Nat.le_of_ble_eq_true rfl) dX5_count_55 ⟨Nat.zero_le _, Nat.zero_le _⟩ ?_
    exact rd_iret hz hr hlk dX5_count_58 (by simp [sCount, sw_1_0, sw_1_1])
  by_cases sw_1_2 : wh = 2
  · refine lv_tableIn (off := 58) (tgt := 59) hz.1 hz.2.1 dX5_count_1 (by rw [sw_1_2]; decide) (by rw [sw_1_2]; decide) (by rw [sw_1_2]; decide) (by decide) ?_
    refine lv_aload_n hz.1 hz.2.1 dX5_count_59 rfl (lv_at hl 0 rfl) ?_
    refine rg (T := TX5) (N := 11) hz hinX5_count_X5 hK hP 0 rfl rfl 0 (by decide) (List.mem_of_getElem? (i := 1) rfl) rfl (v := .ref (a 1)) rfl dX5_count_60 ?_
    refine rg (T := TX0) (N := 12) hz hinX5_count_X0 hK hP 1 rfl rfl 3 (by decide) (List.mem_of_getElem? (i := 4) rfl) rfl (v := .int (nI (F 3))) rfl dX5_count_63 ?_
    refine toe (z := nI (M 19)) (by rw [hR.1.2.2.2.1]) ?_
    exact rd_iret hz hr hlk dX5_count_66 (by simp [sCount, sw_1_0, sw_1_1, sw_1_2])
  by_cases sw_1_3 : wh = 3
  · refine lv_tableIn (off := 66) (tgt := 67) hz.1 hz.2.1 dX5_count_1 (by rw [sw_1_3]; decide) (by rw [sw_1_3]; decide) (by rw [sw_1_3]; decide) (by decide) ?_
    refine lv_aload_n hz.1 hz.2.1 dX5_count_67 rfl (lv_at hl 0 rfl) ?_
    refine rg (T := TX5) (N := 11) hz hinX5_count_X5 hK hP 0 rfl rfl 0 (by decide) (List.mem_of_getElem? (i := 1) rfl) rfl (v := .ref (a 1)) rfl dX5_count_68 ?_
    refine rg (T := TX0) (N := 12) hz hinX5_count_X0 hK hP 1 rfl rfl 4 (by decide) (List.mem_of_getElem? (i := 5) rfl) rfl (v := .int (nI (F 4))) rfl dX5_count_71 ?_
    refine toe (z := nI (M 32)) (by rw [hR.1.2.2.2.2]) ?_
    exact rd_iret hz hr hlk dX5_count_74 (by simp [sCount, sw_1_0, sw_1_1, sw_1_2, sw_1_3])
  by_cases sw_1_4 : wh = 4
  · refine lv_tableIn (off := 74) (tgt := 75) hz.1 hz.2.1 dX5_count_1 (by rw [sw_1_4]; decide) (by rw [sw_1_4]; decide) (by rw [sw_1_4]; decide) (by decide) ?_
    refine lv_aload_n hz.1 hz.2.1 dX5_count_75 rfl (lv_at hl 0 rfl) ?_
    refine rg (T := TX5) (N := 11) hz hinX5_count_X5 hK hP 0 rfl rfl 4 (by decide) (List.mem_of_getElem? (i := 6) rfl) rfl (v := .ref (a 35)) rfl dX5_count_76 ?_
    refine rg (T := TX1) (N := 5) hz hinX5_count_X1 hK hP 9 rfl rfl 0 (by decide) (List.mem_of_getElem? (i := 7) rfl) rfl (v := .int (nI (X 0))) rfl dX5_count_79 ?_
    exact rd_iret hz hr hlk dX5_count_82 (by simp [sCount, sw_1_0, sw_1_1, sw_1_2, sw_1_3, sw_1_4])
  by_cases sw_1_5 : wh = 5
  · refine lv_tableIn (off := 82) (tgt := 83) hz.1 hz.2.1 dX5_count_1 (by rw [sw_1_5]; decide) (by rw [sw_1_5]; decide) (by rw [sw_1_5]; decide) (by decide) ?_
    refine lv_aload_n hz.1 hz.2.1 dX5_count_83 rfl (lv_at hl 0 rfl) ?_
    refine rg (T := TX5) (N := 11) hz hinX5_count_X5 hK hP 0 rfl rfl 0 (by decide) (List.mem_of_getElem? (i := 1) rfl) rfl (v := .ref (a 1)) rfl dX5_count_84 ?_
    refine rg (T := TX0) (N := 12) hz hinX5_count_X0 hK hP 1 rfl rfl 1 (by decide) (List.mem_of_getElem? (i := 8) rfl) rfl (v := .int (nI (F 1))) rfl dX5_count_87 ?_
    refine toe (z := nI (M 1)) (by rw [hR.1.2.1]) ?_
    exact rd_iret hz hr hlk dX5_count_90 (by simp [sCount, sw_1_0, sw_1_1, sw_1_2, sw_1_3, sw_1_4, sw_1_5])
  refine lv_tableOut (tgt := 91) hz.1 hz.2.1 dX5_count_1 (by rw [nI_toInt (by omega)]; omega) (by decide) ?_
  exfalso; omega
