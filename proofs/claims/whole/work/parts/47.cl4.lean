set_option maxHeartbeats 4000000 in
set_option maxRecDepth 100000 in
theorem c1_tokenOf (l_ : Launch) (x : Nat) (hx : x < 256) : Met l_ yX1_tokenOf wsX1_tokenOf ({ frames := 0, cells := 0, slots := 0, locals := 0 }) (va_Pc [.int (sb x)] (fun _ => True)) (QcRead (nI (kTok x))) 0 0 (fun _ => False) := by
  refine my_entry (cc := cX1_tokenOf) (maxL := 1) (ret := some .int) (by decide) rfl (Nat.le_of_ble_eq_true rfl) ?_
  intro p_ e_ s_ m_ bl_ me_ c_ hz hr hlk hB ls hl
  have hl : lv_has ls 1 [(0, .int (sb x))] := hl
  refine lv_iload_n hz.1 hz.2.1 dX1_tokenOf_0 rfl (lv_at hl 0 rfl) ?_
  refine lv_bipush (v := nI 97) hz.1 hz.2.1 dX1_tokenOf_1 (by decide) ?_
  refine lv_icmp_lt (tgt := 14) hz.1 hz.2.1 dX1_tokenOf_3 (by decide) (fun c_3 => ?_) (fun c_3 => ?_)
  · refine lv_iload_n hz.1 hz.2.1 dX1_tokenOf_14 rfl (lv_at hl 0 rfl) ?_
    refine lv_bipush (v := nI 48) hz.1 hz.2.1 dX1_tokenOf_15 (by decide) ?_
    refine lv_icmp_lt (tgt := 28) hz.1 hz.2.1 dX1_tokenOf_17 (by decide) (fun c_17 => ?_) (fun c_17 => ?_)
    · refine lv_iload_n hz.1 hz.2.1 dX1_tokenOf_28 rfl (lv_at hl 0 rfl) ?_
      refine lv_bipush (v := nI 59) hz.1 hz.2.1 dX1_tokenOf_29 (by decide) ?_
      refine lv_icmp_ne (tgt := 38) hz.1 hz.2.1 dX1_tokenOf_31 (by decide) (fun c_31 => ?_) (fun c_31 => ?_)
      · refine lv_iconst (v := nI 4) hz.1 hz.2.1 dX1_tokenOf_38 (by decide) ?_
        exact rd_iret hz hr hlk dX1_tokenOf_39 (by have h1 := sb_lt (n := 97) hx (by decide); have h2 := sb_gt (n := 122) hx (by decide); have h3 := sb_lt (n := 48) hx (by decide); have h4 := sb_gt (n := 57) hx (by decide); have h5 := sb_eq (n := 59) hx (by decide); rw [h1] at c_3; rw [h3] at c_17; rw [h5] at c_31; first | (exfalso; omega) | skip; unfold kTok; repeat (first | rfl | (rw [if_pos (by omega)]) | (rw [if_neg (by omega)])))
      · refine lv_iconst (v := nI 3) hz.1 hz.2.1 dX1_tokenOf_34 (by decide) ?_
        refine lv_goto (tgt := 39) hz.1 hz.2.1 dX1_tokenOf_35 (by decide) ?_
        exact rd_iret hz hr hlk dX1_tokenOf_39 (by have h1 := sb_lt (n := 97) hx (by decide); have h2 := sb_gt (n := 122) hx (by decide); have h3 := sb_lt (n := 48) hx (by decide); have h4 := sb_gt (n := 57) hx (by decide); have h5 := sb_eq (n := 59) hx (by decide); rw [h1] at c_3; rw [h3] at c_17; rw [h5] at c_31; first | (exfalso; omega) | skip; unfold kTok; repeat (first | rfl | (rw [if_pos (by omega)]) | (rw [if_neg (by omega)])))
    · refine lv_iload_n hz.1 hz.2.1 dX1_tokenOf_20 rfl (lv_at hl 0 rfl) ?_
      refine lv_bipush (v := nI 57) hz.1 hz.2.1 dX1_tokenOf_21 (by decide) ?_
      refine lv_icmp_gt (tgt := 28) hz.1 hz.2.1 dX1_tokenOf_23 (by decide) (fun c_23 => ?_) (fun c_23 => ?_)
      · refine lv_iload_n hz.1 hz.2.1 dX1_tokenOf_28 rfl (lv_at hl 0 rfl) ?_
        refine lv_bipush (v := nI 59) hz.1 hz.2.1 dX1_tokenOf_29 (by decide) ?_
        refine lv_icmp_ne (tgt := 38) hz.1 hz.2.1 dX1_tokenOf_31 (by decide) (fun c_31 => ?_) (fun c_31 => ?_)
        · refine lv_iconst (v := nI 4) hz.1 hz.2.1 dX1_tokenOf_38 (by decide) ?_
          exact rd_iret hz hr hlk dX1_tokenOf_39 (by have h1 := sb_lt (n := 97) hx (by decide); have h2 := sb_gt (n := 122) hx (by decide); have h3 := sb_lt (n := 48) hx (by decide); have h4 := sb_gt (n := 57) hx (by decide); have h5 := sb_eq (n := 59) hx (by decide); rw [h1] at c_3; rw [h3] at c_17; rw [h4] at c_23; rw [h5] at c_31; first | (exfalso; omega) | skip; unfold kTok; repeat (first | rfl | (rw [if_pos (by omega)]) | (rw [if_neg (by omega)])))
        · refine lv_iconst (v := nI 3) hz.1 hz.2.1 dX1_tokenOf_34 (by decide) ?_
          refine lv_goto (tgt := 39) hz.1 hz.2.1 dX1_tokenOf_35 (by decide) ?_
          exact rd_iret hz hr hlk dX1_tokenOf_39 (by have h1 := sb_lt (n := 97) hx (by decide); have h2 := sb_gt (n := 122) hx (by decide); have h3 := sb_lt (n := 48) hx (by decide); have h4 := sb_gt (n := 57) hx (by decide); have h5 := sb_eq (n := 59) hx (by decide); rw [h1] at c_3; rw [h3] at c_17; rw [h4] at c_23; rw [h5] at c_31; first | (exfalso; omega) | skip; unfold kTok; repeat (first | rfl | (rw [if_pos (by omega)]) | (rw [if_neg (by omega)])))
      · refine lv_iconst (v := nI 2) hz.1 hz.2.1 dX1_tokenOf_26 (by decide) ?_
        exact rd_iret hz hr hlk dX1_tokenOf_27 (by have h1 := sb_lt (n := 97) hx (by decide); have h2 := sb_gt (n := 122) hx (by decide); have h3 := sb_lt (n := 48) hx (by decide); have h4 := sb_gt (n := 57) hx (by decide); have h5 := sb_eq (n := 59) hx (by decide); rw [h1] at c_3; rw [h3] at c_17; rw [h4] at c_23; first | (exfalso; omega) | skip; unfold kTok; repeat (first | rfl | (rw [if_pos (by omega)]) | (rw [if_neg (by omega)])))
  · refine lv_iload_n hz.1 hz.2.1 dX1_tokenOf_6 rfl (lv_at hl 0 rfl) ?_
    refine lv_bipush (v := nI 122) hz.1 hz.2.1 dX1_tokenOf_7 (by decide) ?_
    refine lv_icmp_gt (tgt := 14) hz.1 hz.2.1 dX1_tokenOf_9 (by decide) (fun c_9 => ?_) (fun c_9 => ?_)
    · refine lv_iload_n hz.1 hz.2.1 dX1_tokenOf_14 rfl (lv_at hl 0 rfl) ?_
      refine lv_bipush (v := nI 48) hz.1 hz.2.1 dX1_tokenOf_15 (by decide) ?_
      refine lv_icmp_lt (tgt := 28) hz.1 hz.2.1 dX1_tokenOf_17 (by decide) (fun c_17 => ?_) (fun c_17 => ?_)
      · refine lv_iload_n hz.1 hz.2.1 dX1_tokenOf_28 rfl (lv_at hl 0 rfl) ?_
        refine lv_bipush (v := nI 59) hz.1 hz.2.1 dX1_tokenOf_29 (by decide) ?_
        refine lv_icmp_ne (tgt := 38) hz.1 hz.2.1 dX1_tokenOf_31 (by decide) (fun c_31 => ?_) (fun c_31 => ?_)
        · refine lv_iconst (v := nI 4) hz.1 hz.2.1 dX1_tokenOf_38 (by decide) ?_
          exact rd_iret hz hr hlk dX1_tokenOf_39 (by have h1 := sb_lt (n := 97) hx (by decide); have h2 := sb_gt (n := 122) hx (by decide); have h3 := sb_lt (n := 48) hx (by decide); have h4 := sb_gt (n := 57) hx (by decide); have h5 := sb_eq (n := 59) hx (by decide); rw [h1] at c_3; rw [h2] at c_9; rw [h3] at c_17; rw [h5] at c_31; first | (exfalso; omega) | skip; unfold kTok; repeat (first | rfl | (rw [if_pos (by omega)]) | (rw [if_neg (by omega)])))
        · refine lv_iconst (v := nI 3) hz.1 hz.2.1 dX1_tokenOf_34 (by decide) ?_
          refine lv_goto (tgt := 39) hz.1 hz.2.1 dX1_tokenOf_35 (by decide) ?_
          exact rd_iret hz hr hlk dX1_tokenOf_39 (by have h1 := sb_lt (n := 97) hx (by decide); have h2 := sb_gt (n := 122) hx (by decide); have h3 := sb_lt (n := 48) hx (by decide); have h4 := sb_gt (n := 57) hx (by decide); have h5 := sb_eq (n := 59) hx (by decide); rw [h1] at c_3; rw [h2] at c_9; rw [h3] at c_17; rw [h5] at c_31; first | (exfalso; omega) | skip; unfold kTok; repeat (first | rfl | (rw [if_pos (by omega)]) | (rw [if_neg (by omega)])))
      · refine lv_iload_n hz.1 hz.2.1 dX1_tokenOf_20 rfl (lv_at hl 0 rfl) ?_
        refine lv_bipush (v := nI 57) hz.1 hz.2.1 dX1_tokenOf_21 (by decide) ?_
        refine lv_icmp_gt (tgt := 28) hz.1 hz.2.1 dX1_tokenOf_23 (by decide) (fun c_23 => ?_) (fun c_23 => ?_)
        · refine lv_iload_n hz.1 hz.2.1 dX1_tokenOf_28 rfl (lv_at hl 0 rfl) ?_
          refine lv_bipush (v := nI 59) hz.1 hz.2.1 dX1_tokenOf_29 (by decide) ?_
          refine lv_icmp_ne (tgt := 38) hz.1 hz.2.1 dX1_tokenOf_31 (by decide) (fun c_31 => ?_) (fun c_31 => ?_)
          · refine lv_iconst (v := nI 4) hz.1 hz.2.1 dX1_tokenOf_38 (by decide) ?_
            exact rd_iret hz hr hlk dX1_tokenOf_39 (by have h1 := sb_lt (n := 97) hx (by decide); have h2 := sb_gt (n := 122) hx (by decide); have h3 := sb_lt (n := 48) hx (by decide); have h4 := sb_gt (n := 57) hx (by decide); have h5 := sb_eq (n := 59) hx (by decide); rw [h1] at c_3; rw [h2] at c_9; rw [h3] at c_17; rw [h4] at c_23; rw [h5] at c_31; first | (exfalso; omega) | skip; unfold kTok; repeat (first | rfl | (rw [if_pos (by omega)]) | (rw [if_neg (by omega)])))
          · refine lv_iconst (v := nI 3) hz.1 hz.2.1 dX1_tokenOf_34 (by decide) ?_
            refine lv_goto (tgt := 39) hz.1 hz.2.1 dX1_tokenOf_35 (by decide) ?_
            exact rd_iret hz hr hlk dX1_tokenOf_39 (by have h1 := sb_lt (n := 97) hx (by decide); have h2 := sb_gt (n := 122) hx (by decide); have h3 := sb_lt (n := 48) hx (by decide); have h4 := sb_gt (n := 57) hx (by decide); have h5 := sb_eq (n := 59) hx (by decide); rw [h1] at c_3; rw [h2] at c_9; rw [h3] at c_17; rw [h4] at c_23; rw [h5] at c_31; first | (exfalso; omega) | skip; unfold kTok; repeat (first | rfl | (rw [if_pos (by omega)]) | (rw [if_neg (by omega)])))
        · refine lv_iconst (v := nI 2) hz.1 hz.2.1 dX1_tokenOf_26 (by decide) ?_
          exact rd_iret hz hr hlk dX1_tokenOf_27 (by have h1 := sb_lt (n := 97) hx (by decide); have h2 := sb_gt (n := 122) hx (by decide); have h3 := sb_lt (n := 48) hx (by decide); have h4 := sb_gt (n := 57) hx (by decide); have h5 := sb_eq (n := 59) hx (by decide); rw [h1] at c_3; rw [h2] at c_9; rw [h3] at c_17; rw [h4] at c_23; first | (exfalso; omega) | skip; unfold kTok; repeat (first | rfl | (rw [if_pos (by omega)]) | (rw [if_neg (by omega)])))
    · refine lv_iconst (v := nI 1) hz.1 hz.2.1 dX1_tokenOf_12 (by decide) ?_
      exact rd_iret hz hr hlk dX1_tokenOf_13 (by have h1 := sb_lt (n := 97) hx (by decide); have h2 := sb_gt (n := 122) hx (by decide); have h3 := sb_lt (n := 48) hx (by decide); have h4 := sb_gt (n := 57) hx (by decide); have h5 := sb_eq (n := 59) hx (by decide); rw [h1] at c_3; rw [h2] at c_9; first | (exfalso; omega) | skip; unfold kTok; repeat (first | rfl | (rw [if_pos (by omega)]) | (rw [if_neg (by omega)])))

theorem hinX1_scan_X1 : ∀ w ∈ wsX10, w ∈ wsX1_scan := fun _ h => List.mem_cons_of_mem _ (List.mem_append_right _ h)
set_option maxHeartbeats 4000000 in
set_option maxRecDepth 100000 in
theorem c1_scan (l_ : Launch) (D : va_G) (k : Nat → ClassId) (a : Nat → Nat) (tS : Nat) (sk sv : Nat → Nat) (X : Nat → Nat) (T : Nat → Nat)   (hL : X 0 ≤ 200) (hT : ∀ j, T j < 256) (hE : X 3 ≤ X 0) : Met l_ yX1_scan wsX1_scan ({ frames := 1, cells := 0, slots := 0, locals := 21 }) (va_Pc [.ref (a 35)] (wH (Am tS sk sv) D k (tw a k X T))) (va_Qv (fun (u : Unit) => True) (fun (u : Unit) (t_ : State) => va_P D vwCl ((fun (_ : Unit) => tw a k (kX T (X 0) (sAt T (X 0) (X 3))) T) u) t_.heap) (wA (tw a k X T))) 0 0 (wA (tw a k X T)) := by
  refine my_entry (cc := cX1_scan) (maxL := 1) (ret := none) (by decide) rfl (Nat.le_of_ble_eq_true rfl) ?_
  intro p_ e_ s_ m_ bl_ me_ c_ hz hr hlk hB ls hl
  obtain ⟨hP, hK, hD0, hy⟩ := hB
  have hD := wA.self hD0
  have hS : va_S (wA (tw a k X T)) s_.heap s_.heap [] := va_S.rf
  have hl : lv_has ls 1 [(0, .ref (a 35))] := hl
  refine lv_aload_n hz.1 hz.2.1 dX1_scan_0 rfl (lv_at hl 0 rfl) ?_
  refine lv_aload_n hz.1 hz.2.1 dX1_scan_1 rfl (lv_at hl 0 rfl) ?_
  refine rg (T := TX1) (N := 5) hz hinX1_scan_X1 hK hP 0 rfl rfl 4 (by decide) (List.mem_of_getElem? (i := 1) rfl) rfl (v := .int (nI (X 3))) rfl dX1_scan_2 ?_
  refine rput (v := .int (nI (X 3))) (ty := .int) (T := TX1) (N := 5) hz hinX1_scan_X1 tyX1 tyX1_ok nmX1 hK hP hD hS 0 rfl rfl 3 (by decide) (List.mem_of_getElem? (i := 2) rfl) rfl rfl (by decide +kernel) rfl rfl (Nat.le_of_ble_eq_true rfl) dX1_scan_5 (fun H locs hP hS => ?_)
  have hP : va_P D vwCl (tw a k (nset X 2 (X 3)) T) H := hP
  have hD : va_D (wA (tw a k X T)) (tw a k (nset X 2 (X 3)) T) := hD.same rfl
  have lp_8 : ∀ (fu : Nat) (q : Nat), (sAt T (X 0) (X 3) = sAt T (X 0) q) → (q ≤ X 0) → X 0 - q < fu → ∀ ls : Array Slot, ∀ (H : Heap) (locs : List Loc), va_P D vwCl (tw a k (nset X 2 q) T) H → va_S (wA (tw a k X T)) s_.heap H locs → lv_has ls 1 [(0, .ref (a 35))] → W p_ l_ e_ ({ frames := 1, cells := 0, slots := 0, locals := 21 }) s_ m_ [.ref (a 35)].toArray bl_ me_ c_ H locs 0 0 (MQ bl_ (va_Qv (fun (u : Unit) => True) (fun (u : Unit) (t_ : State) => va_P D vwCl ((fun (_ : Unit) => tw a k (kX T (X 0) (sAt T (X 0) (X 3))) T) u) t_.heap) (wA (tw a k X T))) [.ref (a 35)].toArray s_ 0 0 (wA (tw a k X T))) (F0 m_ 8 ls []) := by
    intro fu
    induction fu with
    | zero => intro q hs hq hm; exact absurd hm (Nat.not_lt_zero _)
    | succ fu ih8 =>
      intro q hs hq hm ls H locs hP hS hl
      have hD : va_D (wA (tw a k X T)) (tw a k (nset X 2 q) T) := hD.same rfl
      refine lv_aload_n hz.1 hz.2.1 dX1_scan_8 rfl (lv_at hl 0 rfl) ?_
      refine rg (T := TX1) (N := 5) hz hinX1_scan_X1 hK hP 0 rfl rfl 3 (by decide) (List.mem_of_getElem? (i := 2) rfl) rfl (v := .int (nI q)) rfl dX1_scan_9 ?_
      refine lv_aload_n hz.1 hz.2.1 dX1_scan_12 rfl (lv_at hl 0 rfl) ?_
      refine rg (T := TX1) (N := 5) hz hinX1_scan_X1 hK hP 0 rfl rfl 0 (by decide) (List.mem_of_getElem? (i := 3) rfl) rfl (v := .int (nI (X 0))) rfl dX1_scan_13 ?_
      refine jge (tgt := 46) hz dX1_scan_16 (by decide) (by omega) (by omega) (fun c_16 => ?_) (fun c_16 => ?_)
      · have hs2 : sAt T (X 0) (X 3) = q := hs.trans (sAt_e (by omega))
        refine lv_aload_n hz.1 hz.2.1 dX1_scan_46 rfl (lv_at hl 0 rfl) ?_
        refine lv_aload_n hz.1 hz.2.1 dX1_scan_47 rfl (lv_at hl 0 rfl) ?_
        refine rg (T := TX1) (N := 5) hz hinX1_scan_X1 hK hP 0 rfl rfl 3 (by decide) (List.mem_of_getElem? (i := 2) rfl) rfl (v := .int (nI q)) rfl dX1_scan_48 ?_
        refine lv_aload_n hz.1 hz.2.1 dX1_scan_51 rfl (lv_at hl 0 rfl) ?_
        refine rg (T := TX1) (N := 5) hz hinX1_scan_X1 hK hP 0 rfl rfl 0 (by decide) (List.mem_of_getElem? (i := 3) rfl) rfl (v := .int (nI (X 0))) rfl dX1_scan_52 ?_
        refine jge (tgt := 73) hz dX1_scan_55 (by decide) (by omega) (by omega) (fun c_55 => ?_) (fun c_55 => ?_)
        · refine lv_iconst (v := nI 0) hz.1 hz.2.1 dX1_scan_73 (by decide) ?_
          refine rput (v := .int (nI 0)) (ty := .int) (T := TX1) (N := 5) hz hinX1_scan_X1 tyX1 tyX1_ok nmX1 hK hP hD hS 0 rfl rfl 2 (by decide) (List.mem_of_getElem? (i := 5) rfl) rfl rfl (by decide +kernel) rfl rfl (Nat.le_of_ble_eq_true rfl) dX1_scan_74 (fun H locs hP hS => ?_)
          have hP : va_P D vwCl (tw a k (nset (nset X 1 0) 2 q) T) H := hP
          have hD : va_D (wA (tw a k X T)) (tw a k (nset (nset X 1 0) 2 q) T) := hD.same rfl
          refine lv_aload_n hz.1 hz.2.1 dX1_scan_77 rfl (lv_at hl 0 rfl) ?_
          refine lv_aload_n hz.1 hz.2.1 dX1_scan_78 rfl (lv_at hl 0 rfl) ?_
          refine rg (T := TX1) (N := 5) hz hinX1_scan_X1 hK hP 0 rfl rfl 0 (by decide) (List.mem_of_getElem? (i := 3) rfl) rfl (v := .int (nI (X 0))) rfl dX1_scan_79 ?_
          refine lv_aload_n hz.1 hz.2.1 dX1_scan_82 rfl (lv_at hl 0 rfl) ?_
          refine rg (T := TX1) (N := 5) hz hinX1_scan_X1 hK hP 0 rfl rfl 3 (by decide) (List.mem_of_getElem? (i := 2) rfl) rfl (v := .int (nI q)) rfl dX1_scan_83 ?_
          refine lv_iconst (v := nI 1) hz.1 hz.2.1 dX1_scan_86 (by decide) ?_
          refine lv_iadd hz.1 hz.2.1 dX1_scan_87 ?_
          refine toe (z := nI (q + 1)) (nI_add _ _) ?_
          refine va_mmin hz.1 hz.2.1 (by rw [hz.2.2.1]; exact hl.1.symm) hz.2.2.2.1 (hz.2.2.2.2 _ (List.mem_of_getElem? (i := 6) rfl)) (hz.2.2.2.2 _ (List.mem_of_getElem? (i := 7) rfl)) (hz.2.2.2.2 _ (List.mem_of_getElem? (i := 8) rfl)) (hz.2.2.2.2 _ (List.mem_of_getElem? (i := 9) rfl)) (Nat.le_of_ble_eq_true rfl) (Nat.le_of_ble_eq_true rfl) (Nat.zero_le _) (Nat.zero_le _) dX1_scan_88 ?_
          refine toe (z := nI (X 0)) (by rw [span_min (by omega) (by omega), Nat.min_eq_left (by omega)]) ?_
          refine rput (v := .int (nI (X 0))) (ty := .int) (T := TX1) (N := 5) hz hinX1_scan_X1 tyX1 tyX1_ok nmX1 hK hP hD hS 0 rfl rfl 4 (by decide) (List.mem_of_getElem? (i := 1) rfl) rfl rfl (by decide +kernel) rfl rfl (Nat.le_of_ble_eq_true rfl) dX1_scan_91 (fun H locs hP hS => ?_)
          have hP : va_P D vwCl (tw a k (nset (nset (nset X 1 0) 2 q) 3 (X 0)) T) H := hP
          have hD : va_D (wA (tw a k X T)) (tw a k (nset (nset (nset X 1 0) 2 q) 3 (X 0)) T) := hD.same rfl
          refine lv_aload_n hz.1 hz.2.1 dX1_scan_94 rfl (lv_at hl 0 rfl) ?_
          refine rg (T := TX1) (N := 5) hz hinX1_scan_X1 hK hP 0 rfl rfl 2 (by decide) (List.mem_of_getElem? (i := 5) rfl) rfl (v := .int (nI 0)) rfl dX1_scan_95 ?_
          refine lv_iconst (v := nI 1) hz.1 hz.2.1 dX1_scan_98 (by decide) ?_
          refine jeq (tgt := 110) hz dX1_scan_99 (by decide) (by omega) (by omega) (fun c_99 => ?_) (fun c_99 => ?_)
          · exfalso; omega
          · refine lv_aload_n hz.1 hz.2.1 dX1_scan_102 rfl (lv_at hl 0 rfl) ?_
            refine rg (T := TX1) (N := 5) hz hinX1_scan_X1 hK hP 0 rfl rfl 2 (by decide) (List.mem_of_getElem? (i := 5) rfl) rfl (v := .int (nI 0)) rfl dX1_scan_103 ?_
            refine lv_iconst (v := nI 2) hz.1 hz.2.1 dX1_scan_106 (by decide) ?_
            refine jne (tgt := 153) hz dX1_scan_107 (by decide) (by omega) (by omega) (fun c_107 => ?_) (fun c_107 => ?_)
            · refine lv_aload_n hz.1 hz.2.1 dX1_scan_153 rfl (lv_at hl 0 rfl) ?_
              refine rg (T := TX1) (N := 5) hz hinX1_scan_X1 hK hP 0 rfl rfl 2 (by decide) (List.mem_of_getElem? (i := 5) rfl) rfl (v := .int (nI 0)) rfl dX1_scan_154 ?_
              refine lv_iconst (v := nI 2) hz.1 hz.2.1 dX1_scan_157 (by decide) ?_
              refine jne (tgt := 179) hz dX1_scan_158 (by decide) (by omega) (by omega) (fun c_158 => ?_) (fun c_158 => ?_)
              · have k1 : sKd T (X 0) q = 0 := (tk_end (by omega)).2.1
                have k3 : sEd T (X 0) q = X 0 := by rw [sEd_end (by omega)]; omega
                have hP : va_P D vwCl (tw a k (kX T (X 0) (sAt T (X 0) (X 3))) T) H := by
                  rw [hs2]
                  show va_P D vwCl [(a 35, .inr (1, [.int (nI (X 0)), .ref (a 36), .int (nI (sKd T (X 0) q)), .int (nI q), .int (nI (sEd T (X 0) q))])), (a 36, .inl (k 1, 200, .inl (fun i => sb (T i))))] H
                  rw [k1, k3]; exact hP
                exact wr_vret hz hr hlk dX1_scan_179 hS (()) hP (trivial)
              · exfalso; omega
            · exfalso; omega
        · exact absurd c_55 c_16
      · refine lv_aload_n hz.1 hz.2.1 dX1_scan_19 rfl (lv_at hl 0 rfl) ?_
        refine rg (T := TX1) (N := 5) hz hinX1_scan_X1 hK hP 0 rfl rfl 1 (by decide) (List.mem_of_getElem? (i := 4) rfl) rfl (v := .ref (a 36)) rfl dX1_scan_20 ?_
        refine lv_aload_n hz.1 hz.2.1 dX1_scan_23 rfl (lv_at hl 0 rfl) ?_
        refine rg (T := TX1) (N := 5) hz hinX1_scan_X1 hK hP 0 rfl rfl 3 (by decide) (List.mem_of_getElem? (i := 2) rfl) rfl (v := .int (nI q)) rfl dX1_scan_24 ?_
        refine rbald hz hK hP 1 1 rfl rfl (i := q) (by omega) (by decide) (v := sb (T q)) rfl dX1_scan_27 ?_
        refine lv_bipush (v := nI 32) hz.1 hz.2.1 dX1_scan_28 (by decide) ?_
        refine lv_icmp_ne (tgt := 46) hz.1 hz.2.1 dX1_scan_30 (by decide) (fun c_30 => ?_) (fun c_30 => ?_)
        · have hs2 : sAt T (X 0) (X 3) = q := hs.trans (sAt_e (fun z => c_30 ((sb_eq (hT _) (by decide)).mpr z.2)))
          refine lv_aload_n hz.1 hz.2.1 dX1_scan_46 rfl (lv_at hl 0 rfl) ?_
          refine lv_aload_n hz.1 hz.2.1 dX1_scan_47 rfl (lv_at hl 0 rfl) ?_
          refine rg (T := TX1) (N := 5) hz hinX1_scan_X1 hK hP 0 rfl rfl 3 (by decide) (List.mem_of_getElem? (i := 2) rfl) rfl (v := .int (nI q)) rfl dX1_scan_48 ?_
          refine lv_aload_n hz.1 hz.2.1 dX1_scan_51 rfl (lv_at hl 0 rfl) ?_
          refine rg (T := TX1) (N := 5) hz hinX1_scan_X1 hK hP 0 rfl rfl 0 (by decide) (List.mem_of_getElem? (i := 3) rfl) rfl (v := .int (nI (X 0))) rfl dX1_scan_52 ?_
          refine jge (tgt := 73) hz dX1_scan_55 (by decide) (by omega) (by omega) (fun c_55 => ?_) (fun c_55 => ?_)
          · exact absurd c_16 c_55
          · have hk := kTok_in (T q)
            refine lv_aload_n hz.1 hz.2.1 dX1_scan_58 rfl (lv_at hl 0 rfl) ?_
            refine rg (T := TX1) (N := 5) hz hinX1_scan_X1 hK hP 0 rfl rfl 1 (by decide) (List.mem_of_getElem? (i := 4) rfl) rfl (v := .ref (a 36)) rfl dX1_scan_59 ?_
            refine lv_aload_n hz.1 hz.2.1 dX1_scan_62 rfl (lv_at hl 0 rfl) ?_
            refine rg (T := TX1) (N := 5) hz hinX1_scan_X1 hK hP 0 rfl rfl 3 (by decide) (List.mem_of_getElem? (i := 2) rfl) rfl (v := .int (nI q)) rfl dX1_scan_63 ?_
            refine rbald hz hK hP 1 1 rfl rfl (i := q) (by omega) (by decide) (v := sb (T q)) rfl dX1_scan_66 ?_
            refine rdS (As := [.int (sb (T q))]) (rest := [.ref (a 35)]) hz (c1_tokenOf l_ (T q) (hT _)) rfl (va_cwS 1 hz.2.2.2.2 gX1_scan_X1_tokenOf rfl rfl rfl (by decide +kernel) ⟨Nat.le_of_ble_eq_true rfl, Nat.le_of_ble_eq_true rfl⟩) rfl hl.1 rfl (Nat.le_of_ble_eq_true rfl) dX1_scan_67 ⟨Nat.zero_le _, Nat.zero_le _⟩ ?_
            refine lv_goto (tgt := 74) hz.1 hz.2.1 dX1_scan_70 (by decide) ?_
            refine rput (v := .int (nI (kTok (T q)))) (ty := .int) (T := TX1) (N := 5) hz hinX1_scan_X1 tyX1 tyX1_ok nmX1 hK hP hD hS 0 rfl rfl 2 (by decide) (List.mem_of_getElem? (i := 5) rfl) rfl rfl (by decide +kernel) rfl rfl (Nat.le_of_ble_eq_true rfl) dX1_scan_74 (fun H locs hP hS => ?_)
            have hP : va_P D vwCl (tw a k (nset (nset X 1 (kTok (T q))) 2 q) T) H := hP
            have hD : va_D (wA (tw a k X T)) (tw a k (nset (nset X 1 (kTok (T q))) 2 q) T) := hD.same rfl
            refine lv_aload_n hz.1 hz.2.1 dX1_scan_77 rfl (lv_at hl 0 rfl) ?_
            refine lv_aload_n hz.1 hz.2.1 dX1_scan_78 rfl (lv_at hl 0 rfl) ?_
            refine rg (T := TX1) (N := 5) hz hinX1_scan_X1 hK hP 0 rfl rfl 0 (by decide) (List.mem_of_getElem? (i := 3) rfl) rfl (v := .int (nI (X 0))) rfl dX1_scan_79 ?_
            refine lv_aload_n hz.1 hz.2.1 dX1_scan_82 rfl (lv_at hl 0 rfl) ?_
            refine rg (T := TX1) (N := 5) hz hinX1_scan_X1 hK hP 0 rfl rfl 3 (by decide) (List.mem_of_getElem? (i := 2) rfl) rfl (v := .int (nI q)) rfl dX1_scan_83 ?_
            refine lv_iconst (v := nI 1) hz.1 hz.2.1 dX1_scan_86 (by decide) ?_
            refine lv_iadd hz.1 hz.2.1 dX1_scan_87 ?_
            refine toe (z := nI (q + 1)) (nI_add _ _) ?_
            refine va_mmin hz.1 hz.2.1 (by rw [hz.2.2.1]; exact hl.1.symm) hz.2.2.2.1 (hz.2.2.2.2 _ (List.mem_of_getElem? (i := 6) rfl)) (hz.2.2.2.2 _ (List.mem_of_getElem? (i := 7) rfl)) (hz.2.2.2.2 _ (List.mem_of_getElem? (i := 8) rfl)) (hz.2.2.2.2 _ (List.mem_of_getElem? (i := 9) rfl)) (Nat.le_of_ble_eq_true rfl) (Nat.le_of_ble_eq_true rfl) (Nat.zero_le _) (Nat.zero_le _) dX1_scan_88 ?_
            refine toe (z := nI (q + 1)) (by rw [span_min (by omega) (by omega), Nat.min_eq_right (by omega)]) ?_
            refine rput (v := .int (nI (q + 1))) (ty := .int) (T := TX1) (N := 5) hz hinX1_scan_X1 tyX1 tyX1_ok nmX1 hK hP hD hS 0 rfl rfl 4 (by decide) (List.mem_of_getElem? (i := 1) rfl) rfl rfl (by decide +kernel) rfl rfl (Nat.le_of_ble_eq_true rfl) dX1_scan_91 (fun H locs hP hS => ?_)
            have hP : va_P D vwCl (tw a k (nset (nset (nset X 1 (kTok (T q))) 2 q) 3 (q + 1)) T) H := hP
            have hD : va_D (wA (tw a k X T)) (tw a k (nset (nset (nset X 1 (kTok (T q))) 2 q) 3 (q + 1)) T) := hD.same rfl
            refine lv_aload_n hz.1 hz.2.1 dX1_scan_94 rfl (lv_at hl 0 rfl) ?_
            refine rg (T := TX1) (N := 5) hz hinX1_scan_X1 hK hP 0 rfl rfl 2 (by decide) (List.mem_of_getElem? (i := 5) rfl) rfl (v := .int (nI (kTok (T q)))) rfl dX1_scan_95 ?_
            refine lv_iconst (v := nI 1) hz.1 hz.2.1 dX1_scan_98 (by decide) ?_
            refine jeq (tgt := 110) hz dX1_scan_99 (by decide) (by omega) (by omega) (fun c_99 => ?_) (fun c_99 => ?_)
            · have lp_110 : ∀ (fu : Nat) (e : Nat), (sRun T (X 0) (kTok (T q)) (q + 1) = sRun T (X 0) (kTok (T q)) e) → (e ≤ X 0) → (q + 1 ≤ e) → X 0 - e < fu → ∀ ls : Array Slot, ∀ (H : Heap) (locs : List Loc), va_P D vwCl (tw a k (nset (nset (nset X 1 (kTok (T q))) 2 q) 3 e) T) H → va_S (wA (tw a k X T)) s_.heap H locs → lv_has ls 1 [(0, .ref (a 35))] → W p_ l_ e_ ({ frames := 1, cells := 0, slots := 0, locals := 21 }) s_ m_ [.ref (a 35)].toArray bl_ me_ c_ H locs 0 0 (MQ bl_ (va_Qv (fun (u : Unit) => True) (fun (u : Unit) (t_ : State) => va_P D vwCl ((fun (_ : Unit) => tw a k (kX T (X 0) (sAt T (X 0) (X 3))) T) u) t_.heap) (wA (tw a k X T))) [.ref (a 35)].toArray s_ 0 0 (wA (tw a k X T))) (F0 m_ 110 ls []) := by
                intro fu
                induction fu with
                | zero => intro e he hel hqe hm; exact absurd hm (Nat.not_lt_zero _)
                | succ fu ih110 =>
                  intro e he hel hqe hm ls H locs hP hS hl
                  have hD : va_D (wA (tw a k X T)) (tw a k (nset (nset (nset X 1 (kTok (T q))) 2 q) 3 e) T) := hD.same rfl
                  refine lv_aload_n hz.1 hz.2.1 dX1_scan_110 rfl (lv_at hl 0 rfl) ?_
                  refine rg (T := TX1) (N := 5) hz hinX1_scan_X1 hK hP 0 rfl rfl 4 (by decide) (List.mem_of_getElem? (i := 1) rfl) rfl (v := .int (nI e)) rfl dX1_scan_111 ?_
                  refine lv_aload_n hz.1 hz.2.1 dX1_scan_114 rfl (lv_at hl 0 rfl) ?_
                  refine rg (T := TX1) (N := 5) hz hinX1_scan_X1 hK hP 0 rfl rfl 0 (by decide) (List.mem_of_getElem? (i := 3) rfl) rfl (v := .int (nI (X 0))) rfl dX1_scan_115 ?_
                  refine jge (tgt := 153) hz dX1_scan_118 (by decide) (by omega) (by omega) (fun c_118 => ?_) (fun c_118 => ?_)
                  · have he := he.trans (sRun_e (by omega))
                    refine lv_aload_n hz.1 hz.2.1 dX1_scan_153 rfl (lv_at hl 0 rfl) ?_
                    refine rg (T := TX1) (N := 5) hz hinX1_scan_X1 hK hP 0 rfl rfl 2 (by decide) (List.mem_of_getElem? (i := 5) rfl) rfl (v := .int (nI (kTok (T q)))) rfl dX1_scan_154 ?_
                    refine lv_iconst (v := nI 2) hz.1 hz.2.1 dX1_scan_157 (by decide) ?_
                    refine jne (tgt := 179) hz dX1_scan_158 (by decide) (by omega) (by omega) (fun c_158 => ?_) (fun c_158 => ?_)
                    · have k2 : sEd T (X 0) q = e := by rw [sEd, if_pos c_16, if_pos (by omega)]; exact he
                      have k1 : sKd T (X 0) q = kTok (T q) := by rw [sKd, if_neg (fun z => by have := z.1; have := z.2; rw [sTk_in c_16] at *; omega), sTk_in c_16]
                      have k3 : sEd T (X 0) q = e := k2
                      have hP : va_P D vwCl (tw a k (kX T (X 0) (sAt T (X 0) (X 3))) T) H := by
                        rw [hs2]
                        show va_P D vwCl [(a 35, .inr (1, [.int (nI (X 0)), .ref (a 36), .int (nI (sKd T (X 0) q)), .int (nI q), .int (nI (sEd T (X 0) q))])), (a 36, .inl (k 1, 200, .inl (fun i => sb (T i))))] H
                        rw [k1, k3]; exact hP
                      exact wr_vret hz hr hlk dX1_scan_179 hS (()) hP (trivial)
                    · exfalso; omega
                  · have hk2 := kTok_in (T e)
                    refine lv_aload_n hz.1 hz.2.1 dX1_scan_121 rfl (lv_at hl 0 rfl) ?_
                    refine rg (T := TX1) (N := 5) hz hinX1_scan_X1 hK hP 0 rfl rfl 1 (by decide) (List.mem_of_getElem? (i := 4) rfl) rfl (v := .ref (a 36)) rfl dX1_scan_122 ?_
                    refine lv_aload_n hz.1 hz.2.1 dX1_scan_125 rfl (lv_at hl 0 rfl) ?_
                    refine rg (T := TX1) (N := 5) hz hinX1_scan_X1 hK hP 0 rfl rfl 4 (by decide) (List.mem_of_getElem? (i := 1) rfl) rfl (v := .int (nI e)) rfl dX1_scan_126 ?_
                    refine rbald hz hK hP 1 1 rfl rfl (i := e) (by omega) (by decide) (v := sb (T e)) rfl dX1_scan_129 ?_
                    refine rdS (As := [.int (sb (T e))]) (rest := []) hz (c1_tokenOf l_ (T e) (hT _)) rfl (va_cwS 1 hz.2.2.2.2 gX1_scan_X1_tokenOf rfl rfl rfl (by decide +kernel) ⟨Nat.le_of_ble_eq_true rfl, Nat.le_of_ble_eq_true rfl⟩) rfl hl.1 rfl (Nat.le_of_ble_eq_true rfl) dX1_scan_130 ⟨Nat.zero_le _, Nat.zero_le _⟩ ?_
                    refine lv_aload_n hz.1 hz.2.1 dX1_scan_133 rfl (lv_at hl 0 rfl) ?_
                    refine rg (T := TX1) (N := 5) hz hinX1_scan_X1 hK hP 0 rfl rfl 2 (by decide) (List.mem_of_getElem? (i := 5) rfl) rfl (v := .int (nI (kTok (T q)))) rfl dX1_scan_134 ?_
                    refine jne (tgt := 153) hz dX1_scan_137 (by decide) (by omega) (by omega) (fun c_137 => ?_) (fun c_137 => ?_)
                    · have he := he.trans (sRun_e (fun z => c_137 z.2))
                      refine lv_aload_n hz.1 hz.2.1 dX1_scan_153 rfl (lv_at hl 0 rfl) ?_
                      refine rg (T := TX1) (N := 5) hz hinX1_scan_X1 hK hP 0 rfl rfl 2 (by decide) (List.mem_of_getElem? (i := 5) rfl) rfl (v := .int (nI (kTok (T q)))) rfl dX1_scan_154 ?_
                      refine lv_iconst (v := nI 2) hz.1 hz.2.1 dX1_scan_157 (by decide) ?_
                      refine jne (tgt := 179) hz dX1_scan_158 (by decide) (by omega) (by omega) (fun c_158 => ?_) (fun c_158 => ?_)
                      · have k2 : sEd T (X 0) q = e := by rw [sEd, if_pos c_16, if_pos (by omega)]; exact he
                        have k1 : sKd T (X 0) q = kTok (T q) := by rw [sKd, if_neg (fun z => by have := z.1; have := z.2; rw [sTk_in c_16] at *; omega), sTk_in c_16]
                        have k3 : sEd T (X 0) q = e := k2
                        have hP : va_P D vwCl (tw a k (kX T (X 0) (sAt T (X 0) (X 3))) T) H := by
                          rw [hs2]
                          show va_P D vwCl [(a 35, .inr (1, [.int (nI (X 0)), .ref (a 36), .int (nI (sKd T (X 0) q)), .int (nI q), .int (nI (sEd T (X 0) q))])), (a 36, .inl (k 1, 200, .inl (fun i => sb (T i))))] H
                          rw [k1, k3]; exact hP
                        exact wr_vret hz hr hlk dX1_scan_179 hS (()) hP (trivial)
                      · exfalso; omega
                    · refine lv_aload_n hz.1 hz.2.1 dX1_scan_140 rfl (lv_at hl 0 rfl) ?_
                      refine lv_dup hz.1 hz.2.1 dX1_scan_141 rfl ?_
                      refine rg (T := TX1) (N := 5) hz hinX1_scan_X1 hK hP 0 rfl rfl 4 (by decide) (List.mem_of_getElem? (i := 1) rfl) rfl (v := .int (nI e)) rfl dX1_scan_142 ?_
                      refine lv_iconst (v := nI 1) hz.1 hz.2.1 dX1_scan_145 (by decide) ?_
                      refine lv_iadd hz.1 hz.2.1 dX1_scan_146 ?_
                      refine toe (z := nI (e + 1)) (nI_add _ _) ?_
                      refine rput (v := .int (nI (e + 1))) (ty := .int) (T := TX1) (N := 5) hz hinX1_scan_X1 tyX1 tyX1_ok nmX1 hK hP hD hS 0 rfl rfl 4 (by decide) (List.mem_of_getElem? (i := 1) rfl) rfl rfl (by decide +kernel) rfl rfl (Nat.le_of_ble_eq_true rfl) dX1_scan_147 (fun H locs hP hS => ?_)
                      have hP : va_P D vwCl (tw a k (nset (nset (nset X 1 (kTok (T q))) 2 q) 3 (e + 1)) T) H := hP
                      have hD : va_D (wA (tw a k X T)) (tw a k (nset (nset (nset X 1 (kTok (T q))) 2 q) 3 (e + 1)) T) := hD.same rfl
                      refine lv_goto (tgt := 110) hz.1 hz.2.1 dX1_scan_150 (by decide) ?_
                      exact ih110 (e + 1) (he.trans (sRun_s c_118 c_137)) (by omega) (by omega) (by omega) ls H locs hP hS (lv_sub hl [0] rfl)
              exact lp_110 _ (q + 1) (rfl) (by omega) (by omega) (Nat.lt_succ_self _) ls _ _ hP hS (lv_sub hl [0] rfl)
            · refine lv_aload_n hz.1 hz.2.1 dX1_scan_102 rfl (lv_at hl 0 rfl) ?_
              refine rg (T := TX1) (N := 5) hz hinX1_scan_X1 hK hP 0 rfl rfl 2 (by decide) (List.mem_of_getElem? (i := 5) rfl) rfl (v := .int (nI (kTok (T q)))) rfl dX1_scan_103 ?_
              refine lv_iconst (v := nI 2) hz.1 hz.2.1 dX1_scan_106 (by decide) ?_
              refine jne (tgt := 153) hz dX1_scan_107 (by decide) (by omega) (by omega) (fun c_107 => ?_) (fun c_107 => ?_)
              · refine lv_aload_n hz.1 hz.2.1 dX1_scan_153 rfl (lv_at hl 0 rfl) ?_
                refine rg (T := TX1) (N := 5) hz hinX1_scan_X1 hK hP 0 rfl rfl 2 (by decide) (List.mem_of_getElem? (i := 5) rfl) rfl (v := .int (nI (kTok (T q)))) rfl dX1_scan_154 ?_
                refine lv_iconst (v := nI 2) hz.1 hz.2.1 dX1_scan_157 (by decide) ?_
                refine jne (tgt := 179) hz dX1_scan_158 (by decide) (by omega) (by omega) (fun c_158 => ?_) (fun c_158 => ?_)
                · have k1 : sKd T (X 0) q = kTok (T q) := by rw [sKd, if_neg (fun z => by have := z.1; rw [sTk_in c_16] at this; omega), sTk_in c_16]
                  have k3 : sEd T (X 0) q = q + 1 := by rw [sEd, if_pos c_16, if_neg (by omega)]
                  have hP : va_P D vwCl (tw a k (kX T (X 0) (sAt T (X 0) (X 3))) T) H := by
                    rw [hs2]
                    show va_P D vwCl [(a 35, .inr (1, [.int (nI (X 0)), .ref (a 36), .int (nI (sKd T (X 0) q)), .int (nI q), .int (nI (sEd T (X 0) q))])), (a 36, .inl (k 1, 200, .inl (fun i => sb (T i))))] H
                    rw [k1, k3]; exact hP
                  exact wr_vret hz hr hlk dX1_scan_179 hS (()) hP (trivial)
                · exfalso; omega
              · have lp_110 : ∀ (fu : Nat) (e : Nat), (sRun T (X 0) (kTok (T q)) (q + 1) = sRun T (X 0) (kTok (T q)) e) → (e ≤ X 0) → (q + 1 ≤ e) → X 0 - e < fu → ∀ ls : Array Slot, ∀ (H : Heap) (locs : List Loc), va_P D vwCl (tw a k (nset (nset (nset X 1 (kTok (T q))) 2 q) 3 e) T) H → va_S (wA (tw a k X T)) s_.heap H locs → lv_has ls 1 [(0, .ref (a 35))] → W p_ l_ e_ ({ frames := 1, cells := 0, slots := 0, locals := 21 }) s_ m_ [.ref (a 35)].toArray bl_ me_ c_ H locs 0 0 (MQ bl_ (va_Qv (fun (u : Unit) => True) (fun (u : Unit) (t_ : State) => va_P D vwCl ((fun (_ : Unit) => tw a k (kX T (X 0) (sAt T (X 0) (X 3))) T) u) t_.heap) (wA (tw a k X T))) [.ref (a 35)].toArray s_ 0 0 (wA (tw a k X T))) (F0 m_ 110 ls []) := by
                  intro fu
                  induction fu with
                  | zero => intro e he hel hqe hm; exact absurd hm (Nat.not_lt_zero _)
                  | succ fu ih110 =>
                    intro e he hel hqe hm ls H locs hP hS hl
                    have hD : va_D (wA (tw a k X T)) (tw a k (nset (nset (nset X 1 (kTok (T q))) 2 q) 3 e) T) := hD.same rfl
                    refine lv_aload_n hz.1 hz.2.1 dX1_scan_110 rfl (lv_at hl 0 rfl) ?_
                    refine rg (T := TX1) (N := 5) hz hinX1_scan_X1 hK hP 0 rfl rfl 4 (by decide) (List.mem_of_getElem? (i := 1) rfl) rfl (v := .int (nI e)) rfl dX1_scan_111 ?_
                    refine lv_aload_n hz.1 hz.2.1 dX1_scan_114 rfl (lv_at hl 0 rfl) ?_
                    refine rg (T := TX1) (N := 5) hz hinX1_scan_X1 hK hP 0 rfl rfl 0 (by decide) (List.mem_of_getElem? (i := 3) rfl) rfl (v := .int (nI (X 0))) rfl dX1_scan_115 ?_
                    refine jge (tgt := 153) hz dX1_scan_118 (by decide) (by omega) (by omega) (fun c_118 => ?_) (fun c_118 => ?_)
                    · have he := he.trans (sRun_e (by omega))
                      refine lv_aload_n hz.1 hz.2.1 dX1_scan_153 rfl (lv_at hl 0 rfl) ?_
                      refine rg (T := TX1) (N := 5) hz hinX1_scan_X1 hK hP 0 rfl rfl 2 (by decide) (List.mem_of_getElem? (i := 5) rfl) rfl (v := .int (nI (kTok (T q)))) rfl dX1_scan_154 ?_
                      refine lv_iconst (v := nI 2) hz.1 hz.2.1 dX1_scan_157 (by decide) ?_
                      refine jne (tgt := 179) hz dX1_scan_158 (by decide) (by omega) (by omega) (fun c_158 => ?_) (fun c_158 => ?_)
                      · exfalso; omega
                      · refine lv_aload_n hz.1 hz.2.1 dX1_scan_161 rfl (lv_at hl 0 rfl) ?_
                        refine rg (T := TX1) (N := 5) hz hinX1_scan_X1 hK hP 0 rfl rfl 4 (by decide) (List.mem_of_getElem? (i := 1) rfl) rfl (v := .int (nI e)) rfl dX1_scan_162 ?_
                        refine lv_aload_n hz.1 hz.2.1 dX1_scan_165 rfl (lv_at hl 0 rfl) ?_
                        refine rg (T := TX1) (N := 5) hz hinX1_scan_X1 hK hP 0 rfl rfl 3 (by decide) (List.mem_of_getElem? (i := 2) rfl) rfl (v := .int (nI q)) rfl dX1_scan_166 ?_
                        refine lv_isub hz.1 hz.2.1 dX1_scan_169 ?_
                        refine toe (z := nI (e - q)) (pk_sub (by omega)) ?_
                        refine lv_iconst (v := nI 2) hz.1 hz.2.1 dX1_scan_170 (by decide) ?_
                        refine jle (tgt := 179) hz dX1_scan_171 (by decide) (by omega) (by omega) (fun c_171 => ?_) (fun c_171 => ?_)
                        · have k2 : sEd T (X 0) q = e := by rw [sEd, if_pos c_16, if_pos (by omega)]; exact he
                          have k1 : sKd T (X 0) q = kTok (T q) := by rw [sKd, if_neg (fun z => by have := z.1; have := z.2; rw [sTk_in c_16] at *; omega), sTk_in c_16]
                          have k3 : sEd T (X 0) q = e := k2
                          have hP : va_P D vwCl (tw a k (kX T (X 0) (sAt T (X 0) (X 3))) T) H := by
                            rw [hs2]
                            show va_P D vwCl [(a 35, .inr (1, [.int (nI (X 0)), .ref (a 36), .int (nI (sKd T (X 0) q)), .int (nI q), .int (nI (sEd T (X 0) q))])), (a 36, .inl (k 1, 200, .inl (fun i => sb (T i))))] H
                            rw [k1, k3]; exact hP
                          exact wr_vret hz hr hlk dX1_scan_179 hS (()) hP (trivial)
                        · refine lv_aload_n hz.1 hz.2.1 dX1_scan_174 rfl (lv_at hl 0 rfl) ?_
                          refine lv_iconst (v := nI 4) hz.1 hz.2.1 dX1_scan_175 (by decide) ?_
                          refine rput (v := .int (nI 4)) (ty := .int) (T := TX1) (N := 5) hz hinX1_scan_X1 tyX1 tyX1_ok nmX1 hK hP hD hS 0 rfl rfl 2 (by decide) (List.mem_of_getElem? (i := 5) rfl) rfl rfl (by decide +kernel) rfl rfl (Nat.le_of_ble_eq_true rfl) dX1_scan_176 (fun H locs hP hS => ?_)
                          have hP : va_P D vwCl (tw a k (nset (nset (nset X 1 4) 2 q) 3 e) T) H := hP
                          have hD : va_D (wA (tw a k X T)) (tw a k (nset (nset (nset X 1 4) 2 q) 3 e) T) := hD.same rfl
                          have k2 : sEd T (X 0) q = e := by rw [sEd, if_pos c_16, if_pos (by omega)]; exact he
                          have k1 : sKd T (X 0) q = 4 := by rw [sKd, if_pos ⟨(sTk_in c_16).trans c_107, by omega⟩]
                          have k3 : sEd T (X 0) q = e := k2
                          have hP : va_P D vwCl (tw a k (kX T (X 0) (sAt T (X 0) (X 3))) T) H := by
                            rw [hs2]
                            show va_P D vwCl [(a 35, .inr (1, [.int (nI (X 0)), .ref (a 36), .int (nI (sKd T (X 0) q)), .int (nI q), .int (nI (sEd T (X 0) q))])), (a 36, .inl (k 1, 200, .inl (fun i => sb (T i))))] H
                            rw [k1, k3]; exact hP
                          exact wr_vret hz hr hlk dX1_scan_179 hS (()) hP (trivial)
                    · have hk2 := kTok_in (T e)
                      refine lv_aload_n hz.1 hz.2.1 dX1_scan_121 rfl (lv_at hl 0 rfl) ?_
                      refine rg (T := TX1) (N := 5) hz hinX1_scan_X1 hK hP 0 rfl rfl 1 (by decide) (List.mem_of_getElem? (i := 4) rfl) rfl (v := .ref (a 36)) rfl dX1_scan_122 ?_
                      refine lv_aload_n hz.1 hz.2.1 dX1_scan_125 rfl (lv_at hl 0 rfl) ?_
                      refine rg (T := TX1) (N := 5) hz hinX1_scan_X1 hK hP 0 rfl rfl 4 (by decide) (List.mem_of_getElem? (i := 1) rfl) rfl (v := .int (nI e)) rfl dX1_scan_126 ?_
                      refine rbald hz hK hP 1 1 rfl rfl (i := e) (by omega) (by decide) (v := sb (T e)) rfl dX1_scan_129 ?_
                      refine rdS (As := [.int (sb (T e))]) (rest := []) hz (c1_tokenOf l_ (T e) (hT _)) rfl (va_cwS 1 hz.2.2.2.2 gX1_scan_X1_tokenOf rfl rfl rfl (by decide +kernel) ⟨Nat.le_of_ble_eq_true rfl, Nat.le_of_ble_eq_true rfl⟩) rfl hl.1 rfl (Nat.le_of_ble_eq_true rfl) dX1_scan_130 ⟨Nat.zero_le _, Nat.zero_le _⟩ ?_
                      refine lv_aload_n hz.1 hz.2.1 dX1_scan_133 rfl (lv_at hl 0 rfl) ?_
                      refine rg (T := TX1) (N := 5) hz hinX1_scan_X1 hK hP 0 rfl rfl 2 (by decide) (List.mem_of_getElem? (i := 5) rfl) rfl (v := .int (nI (kTok (T q)))) rfl dX1_scan_134 ?_
                      refine jne (tgt := 153) hz dX1_scan_137 (by decide) (by omega) (by omega) (fun c_137 => ?_) (fun c_137 => ?_)
                      · have he := he.trans (sRun_e (fun z => c_137 z.2))
                        refine lv_aload_n hz.1 hz.2.1 dX1_scan_153 rfl (lv_at hl 0 rfl) ?_
                        refine rg (T := TX1) (N := 5) hz hinX1_scan_X1 hK hP 0 rfl rfl 2 (by decide) (List.mem_of_getElem? (i := 5) rfl) rfl (v := .int (nI (kTok (T q)))) rfl dX1_scan_154 ?_
                        refine lv_iconst (v := nI 2) hz.1 hz.2.1 dX1_scan_157 (by decide) ?_
                        refine jne (tgt := 179) hz dX1_scan_158 (by decide) (by omega) (by omega) (fun c_158 => ?_) (fun c_158 => ?_)
                        · exfalso; omega
                        · refine lv_aload_n hz.1 hz.2.1 dX1_scan_161 rfl (lv_at hl 0 rfl) ?_
                          refine rg (T := TX1) (N := 5) hz hinX1_scan_X1 hK hP 0 rfl rfl 4 (by decide) (List.mem_of_getElem? (i := 1) rfl) rfl (v := .int (nI e)) rfl dX1_scan_162 ?_
                          refine lv_aload_n hz.1 hz.2.1 dX1_scan_165 rfl (lv_at hl 0 rfl) ?_
                          refine rg (T := TX1) (N := 5) hz hinX1_scan_X1 hK hP 0 rfl rfl 3 (by decide) (List.mem_of_getElem? (i := 2) rfl) rfl (v := .int (nI q)) rfl dX1_scan_166 ?_
                          refine lv_isub hz.1 hz.2.1 dX1_scan_169 ?_
                          refine toe (z := nI (e - q)) (pk_sub (by omega)) ?_
                          refine lv_iconst (v := nI 2) hz.1 hz.2.1 dX1_scan_170 (by decide) ?_
                          refine jle (tgt := 179) hz dX1_scan_171 (by decide) (by omega) (by omega) (fun c_171 => ?_) (fun c_171 => ?_)
                          · have k2 : sEd T (X 0) q = e := by rw [sEd, if_pos c_16, if_pos (by omega)]; exact he
                            have k1 : sKd T (X 0) q = kTok (T q) := by rw [sKd, if_neg (fun z => by have := z.1; have := z.2; rw [sTk_in c_16] at *; omega), sTk_in c_16]
                            have k3 : sEd T (X 0) q = e := k2
                            have hP : va_P D vwCl (tw a k (kX T (X 0) (sAt T (X 0) (X 3))) T) H := by
                              rw [hs2]
                              show va_P D vwCl [(a 35, .inr (1, [.int (nI (X 0)), .ref (a 36), .int (nI (sKd T (X 0) q)), .int (nI q), .int (nI (sEd T (X 0) q))])), (a 36, .inl (k 1, 200, .inl (fun i => sb (T i))))] H
                              rw [k1, k3]; exact hP
                            exact wr_vret hz hr hlk dX1_scan_179 hS (()) hP (trivial)
                          · refine lv_aload_n hz.1 hz.2.1 dX1_scan_174 rfl (lv_at hl 0 rfl) ?_
                            refine lv_iconst (v := nI 4) hz.1 hz.2.1 dX1_scan_175 (by decide) ?_
                            refine rput (v := .int (nI 4)) (ty := .int) (T := TX1) (N := 5) hz hinX1_scan_X1 tyX1 tyX1_ok nmX1 hK hP hD hS 0 rfl rfl 2 (by decide) (List.mem_of_getElem? (i := 5) rfl) rfl rfl (by decide +kernel) rfl rfl (Nat.le_of_ble_eq_true rfl) dX1_scan_176 (fun H locs hP hS => ?_)
                            have hP : va_P D vwCl (tw a k (nset (nset (nset X 1 4) 2 q) 3 e) T) H := hP
                            have hD : va_D (wA (tw a k X T)) (tw a k (nset (nset (nset X 1 4) 2 q) 3 e) T) := hD.same rfl
                            have k2 : sEd T (X 0) q = e := by rw [sEd, if_pos c_16, if_pos (by omega)]; exact he
                            have k1 : sKd T (X 0) q = 4 := by rw [sKd, if_pos ⟨(sTk_in c_16).trans c_107, by omega⟩]
                            have k3 : sEd T (X 0) q = e := k2
                            have hP : va_P D vwCl (tw a k (kX T (X 0) (sAt T (X 0) (X 3))) T) H := by
                              rw [hs2]
                              show va_P D vwCl [(a 35, .inr (1, [.int (nI (X 0)), .ref (a 36), .int (nI (sKd T (X 0) q)), .int (nI q), .int (nI (sEd T (X 0) q))])), (a 36, .inl (k 1, 200, .inl (fun i => sb (T i))))] H
                              rw [k1, k3]; exact hP
                            exact wr_vret hz hr hlk dX1_scan_179 hS (()) hP (trivial)
                      · refine lv_aload_n hz.1 hz.2.1 dX1_scan_140 rfl (lv_at hl 0 rfl) ?_
                        refine lv_dup hz.1 hz.2.1 dX1_scan_141 rfl ?_
                        refine rg (T := TX1) (N := 5) hz hinX1_scan_X1 hK hP 0 rfl rfl 4 (by decide) (List.mem_of_getElem? (i := 1) rfl) rfl (v := .int (nI e)) rfl dX1_scan_142 ?_
                        refine lv_iconst (v := nI 1) hz.1 hz.2.1 dX1_scan_145 (by decide) ?_
                        refine lv_iadd hz.1 hz.2.1 dX1_scan_146 ?_
                        refine toe (z := nI (e + 1)) (nI_add _ _) ?_
                        refine rput (v := .int (nI (e + 1))) (ty := .int) (T := TX1) (N := 5) hz hinX1_scan_X1 tyX1 tyX1_ok nmX1 hK hP hD hS 0 rfl rfl 4 (by decide) (List.mem_of_getElem? (i := 1) rfl) rfl rfl (by decide +kernel) rfl rfl (Nat.le_of_ble_eq_true rfl) dX1_scan_147 (fun H locs hP hS => ?_)
                        have hP : va_P D vwCl (tw a k (nset (nset (nset X 1 (kTok (T q))) 2 q) 3 (e + 1)) T) H := hP
                        have hD : va_D (wA (tw a k X T)) (tw a k (nset (nset (nset X 1 (kTok (T q))) 2 q) 3 (e + 1)) T) := hD.same rfl
                        refine lv_goto (tgt := 110) hz.1 hz.2.1 dX1_scan_150 (by decide) ?_
                        exact ih110 (e + 1) (he.trans (sRun_s c_118 c_137)) (by omega) (by omega) (by omega) ls H locs hP hS (lv_sub hl [0] rfl)
                exact lp_110 _ (q + 1) (rfl) (by omega) (by omega) (Nat.lt_succ_self _) ls _ _ hP hS (lv_sub hl [0] rfl)
        · refine lv_aload_n hz.1 hz.2.1 dX1_scan_33 rfl (lv_at hl 0 rfl) ?_
          refine lv_dup hz.1 hz.2.1 dX1_scan_34 rfl ?_
          refine rg (T := TX1) (N := 5) hz hinX1_scan_X1 hK hP 0 rfl rfl 3 (by decide) (List.mem_of_getElem? (i := 2) rfl) rfl (v := .int (nI q)) rfl dX1_scan_35 ?_
          refine lv_iconst (v := nI 1) hz.1 hz.2.1 dX1_scan_38 (by decide) ?_
          refine lv_iadd hz.1 hz.2.1 dX1_scan_39 ?_
          refine toe (z := nI (q + 1)) (nI_add _ _) ?_
          refine rput (v := .int (nI (q + 1))) (ty := .int) (T := TX1) (N := 5) hz hinX1_scan_X1 tyX1 tyX1_ok nmX1 hK hP hD hS 0 rfl rfl 3 (by decide) (List.mem_of_getElem? (i := 2) rfl) rfl rfl (by decide +kernel) rfl rfl (Nat.le_of_ble_eq_true rfl) dX1_scan_40 (fun H locs hP hS => ?_)
          have hP : va_P D vwCl (tw a k (nset X 2 (q + 1)) T) H := hP
          have hD : va_D (wA (tw a k X T)) (tw a k (nset X 2 (q + 1)) T) := hD.same rfl
          refine lv_goto (tgt := 8) hz.1 hz.2.1 dX1_scan_43 (by decide) ?_
          exact ih8 (q + 1) (hs.trans (sAt_s c_16 ((sb_eq (hT _) (by decide)).mp c_30))) (by omega) (by omega) ls H locs hP hS (lv_sub hl [0] rfl)
  exact lp_8 _ (X 3) (rfl) (hE) (Nat.lt_succ_self _) ls _ _ hP hS (lv_sub hl [0] rfl)

theorem hinX1_nextStop_X1 : ∀ w ∈ wsX10, w ∈ wsX1_nextStop := fun _ h => List.mem_cons_of_mem _ (List.mem_append_right _ h)
set_option maxHeartbeats 4000000 in
set_option maxRecDepth 100000 in
theorem c1_nextStop (l_ : Launch) (D : va_G) (k : Nat → ClassId) (a : Nat → Nat) (tS : Nat) (sk sv : Nat → Nat) (X : Nat → Nat) (T : Nat → Nat) (p : Nat)   (hL : X 0 ≤ 200) (hT : ∀ j, T j < 256) (hp : p ≤ X 0) : Met l_ yX1_nextStop wsX1_nextStop ({ frames := 2, cells := 0, slots := 0, locals := 41 }) (va_Pc [.ref (a 35)] (wH (Am tS sk sv) D k (tw a k (kX T (X 0) p) T))) (va_Qi (fun (r : Int32) (u : Unit) => r = bI (decide (sKd T (X 0) (sNx T (X 0) p) = 3))) (fun (u : Unit) (t_ : State) => va_P D vwCl ((fun (_ : Unit) => tw a k (kX T (X 0) (sNx T (X 0) p)) T) u) t_.heap) (wA (tw a k (kX T (X 0) p) T))) 0 0 (wA (tw a k (kX T (X 0) p) T)) := by
  refine my_entry (cc := cX1_nextStop) (maxL := 1) (ret := some .boolean) (by decide) rfl (Nat.le_of_ble_eq_true rfl) ?_
  intro p_ e_ s_ m_ bl_ me_ c_ hz hr hlk hB ls hl
  obtain ⟨hP, hK, hD0, hy⟩ := hB
  have hD := wA.self hD0
  have hS : va_S (wA (tw a k (kX T (X 0) p) T)) s_.heap s_.heap [] := va_S.rf
  have hl : lv_has ls 1 [(0, .ref (a 35))] := hl
  have hE0 : kX T (X 0) p 3 ≤ kX T (X 0) p 0 := (sEd_le hp).2
  refine lv_aload_n hz.1 hz.2.1 dX1_nextStop_0 rfl (lv_at hl 0 rfl) ?_
  refine wrVv (A := wA (tw a k (kX T (X 0) p) T)) (As := []) (rest := []) hz (okAm tS sk sv) (c1_scan l_ D k a tS sk sv (kX T (X 0) p) T   hL hT (by first | exact hE0 | omega | exact Nat.zero_le _)) (cwV 0 hz.2.2.2.2 gX1_nextStop_X1_scan rfl rfl rfl (by decide +kernel) ⟨Nat.le_of_ble_eq_true rfl, Nat.le_of_ble_eq_true rfl⟩) hK hy hP hD hS 0 1 rfl rfl rfl rfl hl.1 rfl (Nat.le_of_ble_eq_true rfl) dX1_nextStop_1 ⟨Nat.zero_le _, Nat.zero_le _⟩ (fun _ H1 locs hp hP1 hS hfr => ?_)
  have hP : va_P D vwCl (tw a k (kX T (X 0) (sNx T (X 0) p)) T) H1 := hP1
  generalize H1 = H at hP hS ⊢
  have hD : va_D (wA (tw a k (kX T (X 0) p) T)) (tw a k (kX T (X 0) (sNx T (X 0) p)) T) := hD.same rfl
  have hk := sKd_le T (X 0) (sNx T (X 0) p)
  refine lv_aload_n hz.1 hz.2.1 dX1_nextStop_4 rfl (lv_at hl 0 rfl) ?_
  refine rg (T := TX1) (N := 5) hz hinX1_nextStop_X1 hK hP 0 rfl rfl 2 (by decide) (List.mem_of_getElem? (i := 1) rfl) rfl (v := .int (nI (sKd T (X 0) (sNx T (X 0) p)))) rfl dX1_nextStop_5 ?_
  refine lv_iconst (v := nI 3) hz.1 hz.2.1 dX1_nextStop_8 (by decide) ?_
  refine jne (tgt := 16) hz dX1_nextStop_9 (by decide) (by omega) (by omega) (fun c_9 => ?_) (fun c_9 => ?_)
  · refine lv_iconst (v := nI 0) hz.1 hz.2.1 dX1_nextStop_16 (by decide) ?_
    exact wr_zret hz hr hlk dX1_nextStop_17 hS (bI_0 (by simp [c_9])) (()) hP (rfl)
  · refine lv_iconst (v := nI 1) hz.1 hz.2.1 dX1_nextStop_12 (by decide) ?_
    refine lv_goto (tgt := 17) hz.1 hz.2.1 dX1_nextStop_13 (by decide) ?_
    exact wr_zret hz hr hlk dX1_nextStop_17 hS (bI_1 (by simp [c_9])) (()) hP (rfl)

theorem hinX1_nextNumber_X1 : ∀ w ∈ wsX10, w ∈ wsX1_nextNumber := fun _ h => List.mem_cons_of_mem _ (List.mem_append_right _ h)
set_option maxHeartbeats 4000000 in
set_option maxRecDepth 100000 in
theorem c1_nextNumber (l_ : Launch) (D : va_G) (k : Nat → ClassId) (a : Nat → Nat) (tS : Nat) (sk sv : Nat → Nat) (X : Nat → Nat) (T : Nat → Nat) (p : Nat) (lo hi : Nat)  (hL : X 0 ≤ 200) (hT : ∀ j, T j < 256) (hp : p ≤ X 0) (hlo : lo < 1000) (hhi : hi < 1000) : Met l_ yX1_nextNumber wsX1_nextNumber ({ frames := 2, cells := 0, slots := 0, locals := 41 }) (va_Pc [.ref (a 35), .int (nI lo), .int (nI hi)] (wH (Am tS sk sv) D k (tw a k (kX T (X 0) p) T))) (va_Qi (fun (r : Int32) (u : Unit) => r = oI (kNum T (X 0) (sNx T (X 0) p) lo hi)) (fun (u : Unit) (t_ : State) => va_P D vwCl ((fun (_ : Unit) => tw a k (kX T (X 0) (sNx T (X 0) p)) T) u) t_.heap) (wA (tw a k (kX T (X 0) p) T))) 0 0 (wA (tw a k (kX T (X 0) p) T)) := by
  refine my_entry (cc := cX1_nextNumber) (maxL := 5) (ret := some .int) (by decide) rfl (Nat.le_of_ble_eq_true rfl) ?_
  intro p_ e_ s_ m_ bl_ me_ c_ hz hr hlk hB ls hl
  obtain ⟨hP, hK, hD0, hy⟩ := hB
  have hD := wA.self hD0
  have hS : va_S (wA (tw a k (kX T (X 0) p) T)) s_.heap s_.heap [] := va_S.rf
  have hl : lv_has ls 5 [(0, .ref (a 35)), (1, .int (nI lo)), (2, .int (nI hi))] := hl
  have hE0 : kX T (X 0) p 3 ≤ kX T (X 0) p 0 := (sEd_le hp).2
  have hx := sNx_in (T := T) hp
  have hx2 := sEd_le (T := T) (L := X 0) (p := (sNx T (X 0) p)) hx.2.1
  refine lv_aload_n hz.1 hz.2.1 dX1_nextNumber_0 rfl (lv_at hl 0 rfl) ?_
  refine wrVv (A := wA (tw a k (kX T (X 0) p) T)) (As := []) (rest := []) hz (okAm tS sk sv) (c1_scan l_ D k a tS sk sv (kX T (X 0) p) T   hL hT (by first | exact hE0 | omega | exact Nat.zero_le _)) (cwV 0 hz.2.2.2.2 gX1_nextNumber_X1_scan rfl rfl rfl (by decide +kernel) ⟨Nat.le_of_ble_eq_true rfl, Nat.le_of_ble_eq_true rfl⟩) hK hy hP hD hS 0 1 rfl rfl rfl rfl hl.1 rfl (Nat.le_of_ble_eq_true rfl) dX1_nextNumber_1 ⟨Nat.zero_le _, Nat.zero_le _⟩ (fun _ H1 locs hp hP1 hS hfr => ?_)
  have hP : va_P D vwCl (tw a k (kX T (X 0) (sNx T (X 0) p)) T) H1 := hP1
  generalize H1 = H at hP hS ⊢
  have hD : va_D (wA (tw a k (kX T (X 0) p) T)) (tw a k (kX T (X 0) (sNx T (X 0) p)) T) := hD.same rfl
  have hk := sKd_le T (X 0) (sNx T (X 0) p)
  refine lv_aload_n hz.1 hz.2.1 dX1_nextNumber_4 rfl (lv_at hl 0 rfl) ?_
  refine rg (T := TX1) (N := 5) hz hinX1_nextNumber_X1 hK hP 0 rfl rfl 2 (by decide) (List.mem_of_getElem? (i := 1) rfl) rfl (v := .int (nI (sKd T (X 0) (sNx T (X 0) p)))) rfl dX1_nextNumber_5 ?_
  refine lv_iconst (v := nI 2) hz.1 hz.2.1 dX1_nextNumber_8 (by decide) ?_
  refine jeq (tgt := 14) hz dX1_nextNumber_9 (by decide) (by omega) (by omega) (fun c_9 => ?_) (fun c_9 => ?_)
  · refine lv_iconst (v := nI 0) hz.1 hz.2.1 dX1_nextNumber_14 (by decide) ?_
    refine toe (z := nI (sVp T (sNx T (X 0) p) 0)) (rfl) ?_
    refine lv_istore_n (lv' := [(3, .int (nI (sVp T (sNx T (X 0) p) 0))), (0, .ref (a 35)), (1, .int (nI lo)), (2, .int (nI hi))]) hz.1 hz.2.1 dX1_nextNumber_15 rfl hl (by decide) rfl (fun ls hl => ?_)
    have hk2 := sKd_2 c_9
    have h2f : sEd T (X 0) (sNx T (X 0) p) - (sNx T (X 0) p) ≤ 2 := by have q := c_9; unfold sKd at q; split at q; omega; next z => have := hk2.1; omega
    have hpL := hk2.2
    refine lv_aload_n hz.1 hz.2.1 dX1_nextNumber_16 rfl (lv_at hl 1 rfl) ?_
    refine rg (T := TX1) (N := 5) hz hinX1_nextNumber_X1 hK hP 0 rfl rfl 3 (by decide) (List.mem_of_getElem? (i := 2) rfl) rfl (v := .int (nI (sNx T (X 0) p))) rfl dX1_nextNumber_17 ?_
    refine toe (z := nI ((sNx T (X 0) p) + 0)) (rfl) ?_
    refine lv_istore (lv' := [(4, .int (nI ((sNx T (X 0) p) + 0))), (3, .int (nI (sVp T (sNx T (X 0) p) 0))), (0, .ref (a 35)), (1, .int (nI lo)), (2, .int (nI hi))]) hz.1 hz.2.1 dX1_nextNumber_20 hl (by decide) rfl (fun ls hl => ?_)
    have lp_22 : ∀ (fu : Nat) (d : Nat), ((sNx T (X 0) p) + d ≤ sEd T (X 0) (sNx T (X 0) p)) → 2 - d < fu → ∀ ls : Array Slot, lv_has ls 5 [(0, .ref (a 35)), (1, .int (nI lo)), (2, .int (nI hi)), (3, .int (nI (sVp T (sNx T (X 0) p) d))), (4, .int (nI ((sNx T (X 0) p) + d)))] → W p_ l_ e_ ({ frames := 2, cells := 0, slots := 0, locals := 41 }) s_ m_ [.ref (a 35), .int (nI lo), .int (nI hi)].toArray bl_ me_ c_ H locs 0 0 (MQ bl_ (va_Qi (fun (r : Int32) (u : Unit) => r = oI (kNum T (X 0) (sNx T (X 0) p) lo hi)) (fun (u : Unit) (t_ : State) => va_P D vwCl ((fun (_ : Unit) => tw a k (kX T (X 0) (sNx T (X 0) p)) T) u) t_.heap) (wA (tw a k (kX T (X 0) p) T))) [.ref (a 35), .int (nI lo), .int (nI hi)].toArray s_ 0 0 (wA (tw a k (kX T (X 0) p) T))) (F0 m_ 22 ls []) := by
      intro fu
      induction fu with
      | zero => intro d hd hm; exact absurd hm (Nat.not_lt_zero _)
      | succ fu ih22 =>
        intro d hd hm ls hl
        refine lv_iload hz.1 hz.2.1 dX1_nextNumber_22 (lv_at hl 4 rfl) ?_
        refine lv_aload_n hz.1 hz.2.1 dX1_nextNumber_24 rfl (lv_at hl 0 rfl) ?_
        refine rg (T := TX1) (N := 5) hz hinX1_nextNumber_X1 hK hP 0 rfl rfl 4 (by decide) (List.mem_of_getElem? (i := 3) rfl) rfl (v := .int (nI (sEd T (X 0) (sNx T (X 0) p)))) rfl dX1_nextNumber_25 ?_
        refine jge (tgt := 53) hz dX1_nextNumber_28 (by decide) (by omega) (by omega) (fun c_28 => ?_) (fun c_28 => ?_)
        · have hde : d = min 2 (sEd T (X 0) (sNx T (X 0) p) - (sNx T (X 0) p)) := by omega
          have hv : sVl T (X 0) (sNx T (X 0) p) = sVp T (sNx T (X 0) p) d := by unfold sVl; rw [if_pos hk2.1, hde]
          have hvl := sVl_lt (T := T) (L := X 0) (p := (sNx T (X 0) p)) hT
          refine lv_iload_n hz.1 hz.2.1 dX1_nextNumber_53 rfl (lv_at hl 3 rfl) ?_
          refine lv_iload_n hz.1 hz.2.1 dX1_nextNumber_54 rfl (lv_at hl 1 rfl) ?_
          refine lv_iload_n hz.1 hz.2.1 dX1_nextNumber_55 rfl (lv_at hl 2 rfl) ?_
          refine rdSN (n := 3) (As := [.int (nI (sVp T (sNx T (X 0) p) d)), .int (nI lo), .int (nI hi)]) (rest := []) hz (c5_within l_ (nI (sVp T (sNx T (X 0) p) d)) lo hi ) rfl gX1_nextNumber_X5_within_n116 rfl ⟨rfl, rfl⟩ hy (List.mem_of_getElem? (i := 4) rfl) (List.mem_of_getElem? (i := 19) rfl) (List.mem_of_getElem? (i := 18) rfl) (by decide +kernel) ⟨Nat.le_of_ble_eq_true rfl, Nat.le_of_ble_eq_true rfl⟩ rfl hl.1 rfl (Nat.le_of_ble_eq_true rfl) dX1_nextNumber_56 ⟨Nat.zero_le _, Nat.zero_le _⟩ ?_
          refine zeq (tgt := 66) hz dX1_nextNumber_59 (by decide) (fun c_59 => ?_) (fun c_59 => ?_)
          · refine lv_iconst (v := (-1)) hz.1 hz.2.1 dX1_nextNumber_66 (by decide) ?_
            exact wr_iret hz hr hlk dX1_nextNumber_67 hS (()) hP (by rw [kNum_n (fun z => by rw [← hv, wIn_n (by omega) (by omega) (by omega)] at c_59; simp [z.2.1, z.2.2] at c_59)]; rfl)
          · refine lv_iload_n hz.1 hz.2.1 dX1_nextNumber_62 rfl (lv_at hl 3 rfl) ?_
            refine lv_goto (tgt := 67) hz.1 hz.2.1 dX1_nextNumber_63 (by decide) ?_
            exact wr_iret hz hr hlk dX1_nextNumber_67 hS (()) hP (by have hw : sNum T (X 0) (sNx T (X 0) p) lo hi := ⟨c_9, by rw [wIn_n (by omega) (by omega) (by omega)] at c_59; simp only [Bool.and_eq_true, decide_eq_true_eq] at c_59; rw [hv]; exact c_59⟩; rw [kNum_s hw, hv]; rfl)
        · have hdg := sEd_dig (T := T) hk2.1 (show (sNx T (X 0) p) ≤ (sNx T (X 0) p) + d by omega) c_28
          have hvp := sVp_lt (T := T) (p := (sNx T (X 0) p)) hT d (by omega)
          refine lv_bipush (v := nI 10) hz.1 hz.2.1 dX1_nextNumber_31 (by decide) ?_
          refine lv_iload_n hz.1 hz.2.1 dX1_nextNumber_33 rfl (lv_at hl 3 rfl) ?_
          refine lv_imul hz.1 hz.2.1 dX1_nextNumber_34 ?_
          refine toe (z := nI (10 * (sVp T (sNx T (X 0) p) d))) (pk_mul _ _) ?_
          refine lv_aload_n hz.1 hz.2.1 dX1_nextNumber_35 rfl (lv_at hl 0 rfl) ?_
          refine rg (T := TX1) (N := 5) hz hinX1_nextNumber_X1 hK hP 0 rfl rfl 1 (by decide) (List.mem_of_getElem? (i := 4) rfl) rfl (v := .ref (a 36)) rfl dX1_nextNumber_36 ?_
          refine lv_iload hz.1 hz.2.1 dX1_nextNumber_39 (lv_at hl 4 rfl) ?_
          refine rbald hz hK hP 1 1 rfl rfl (i := ((sNx T (X 0) p) + d)) (by omega) (by decide) (v := sb (T ((sNx T (X 0) p) + d))) rfl dX1_nextNumber_41 ?_
          refine toe (z := nI (T ((sNx T (X 0) p) + d))) (sb_n (by omega)) ?_
          refine lv_iadd hz.1 hz.2.1 dX1_nextNumber_42 ?_
          refine toe (z := nI ((10 * (sVp T (sNx T (X 0) p) d)) + (T ((sNx T (X 0) p) + d)))) (nI_add _ _) ?_
          refine lv_bipush (v := nI 48) hz.1 hz.2.1 dX1_nextNumber_43 (by decide) ?_
          refine lv_isub hz.1 hz.2.1 dX1_nextNumber_45 ?_
          refine toe (z := nI (sVp T (sNx T (X 0) p) (d + 1))) (pk_sub (by omega)) ?_
          refine lv_istore_n (lv' := [(3, .int (nI (sVp T (sNx T (X 0) p) (d + 1)))), (0, .ref (a 35)), (1, .int (nI lo)), (2, .int (nI hi)), (4, .int (nI ((sNx T (X 0) p) + d)))]) hz.1 hz.2.1 dX1_nextNumber_46 rfl hl (by decide) rfl (fun ls hl => ?_)
          refine lv_iinc (v := nI ((sNx T (X 0) p) + d + 1)) (lv' := [(4, .int (nI ((sNx T (X 0) p) + d + 1))), (3, .int (nI (sVp T (sNx T (X 0) p) (d + 1)))), (0, .ref (a 35)), (1, .int (nI lo)), (2, .int (nI hi))]) hz.1 hz.2.1 dX1_nextNumber_47 hl (k := 4) rfl (nI_add _ 1) (by decide) rfl (fun ls hl => ?_)
          refine lv_goto (tgt := 22) hz.1 hz.2.1 dX1_nextNumber_50 (by decide) ?_
          exact ih22 (d + 1) (by omega) (by omega) ls (lv_sub hl [2, 3, 4, 1, 0] rfl)
    exact lp_22 _ 0 (by omega) (Nat.lt_succ_self _) ls (lv_sub hl [2, 3, 4, 1, 0] rfl)
  · refine lv_iconst (v := (-1)) hz.1 hz.2.1 dX1_nextNumber_12 (by decide) ?_
    exact wr_iret hz hr hlk dX1_nextNumber_13 hS (()) hP (by rw [kNum_n (fun z => c_9 z.1)]; rfl)

theorem hinX1_isWord_X1 : ∀ w ∈ wsX10, w ∈ wsX1_isWord := fun _ h => List.mem_cons_of_mem _ (List.mem_append_right _ h)
set_option maxHeartbeats 4000000 in
set_option maxRecDepth 100000 in
theorem c1_isWord (l_ : Launch) (D : va_G) (k : Nat → ClassId) (a : Nat → Nat) (tS : Nat) (sk sv : Nat → Nat) (X : Nat → Nat) (T : Nat → Nat) (p : Nat) (i : Nat)  (hi : i < 6) (hL : X 0 ≤ 200) (hT : ∀ j, T j < 256) (hp : p ≤ X 0) : Met l_ yX1_isWord wsX1_isWord ({ frames := 4, cells := 0, slots := 0, locals := 85 }) (va_Pc [.ref (a 35), .ref (sk i)] (wH (Am tS sk sv) D k (tw a k (kX T (X 0) p) T))) (QcRead (bI (sWd T (sKd T (X 0) p) (sEd T (X 0) p - p) p (wdN i) (wdLen.getD i 0)))) 0 0 (fun _ => False) := by
  refine my_entry (cc := cX1_isWord) (maxL := 3) (ret := some .boolean) (by decide) rfl (Nat.le_of_ble_eq_true rfl) ?_
  intro p_ e_ s_ m_ bl_ me_ c_ hz hr hlk hB ls hl
  obtain ⟨hP, hK, hD0, hy⟩ := hB
  have hD := wA.self hD0
  have hS : va_S (wA (tw a k (kX T (X 0) p) T)) s_.heap s_.heap [] := va_S.rf
  have hl : lv_has ls 3 [(0, .ref (a 35)), (1, .ref (sk i))] := hl
  have hk := sKd_le T (X 0) p
  have hx := sEd_le (T := T) hp
  have hl5 := wdLen_in i hi
  refine lv_aload_n hz.1 hz.2.1 dX1_isWord_0 rfl (lv_at hl 0 rfl) ?_
  refine rg (T := TX1) (N := 5) hz hinX1_isWord_X1 hK hP 0 rfl rfl 2 (by decide) (List.mem_of_getElem? (i := 1) rfl) rfl (v := .int (nI (sKd T (X 0) p))) rfl dX1_isWord_1 ?_
  refine lv_iconst (v := nI 1) hz.1 hz.2.1 dX1_isWord_4 (by decide) ?_
  refine jne (tgt := 24) hz dX1_isWord_5 (by decide) (by omega) (by omega) (fun c_5 => ?_) (fun c_5 => ?_)
  · refine lv_iconst (v := nI 0) hz.1 hz.2.1 dX1_isWord_24 (by decide) ?_
    exact rd_zret hz hr hlk dX1_isWord_25 (bI_0 (by rw [sWd, decide_eq_false c_5]; rfl))
  · refine lv_aload_n hz.1 hz.2.1 dX1_isWord_8 rfl (lv_at hl 0 rfl) ?_
    refine rg (T := TX1) (N := 5) hz hinX1_isWord_X1 hK hP 0 rfl rfl 4 (by decide) (List.mem_of_getElem? (i := 2) rfl) rfl (v := .int (nI (sEd T (X 0) p))) rfl dX1_isWord_9 ?_
    refine lv_aload_n hz.1 hz.2.1 dX1_isWord_12 rfl (lv_at hl 0 rfl) ?_
    refine rg (T := TX1) (N := 5) hz hinX1_isWord_X1 hK hP 0 rfl rfl 3 (by decide) (List.mem_of_getElem? (i := 3) rfl) rfl (v := .int (nI p)) rfl dX1_isWord_13 ?_
    refine lv_isub hz.1 hz.2.1 dX1_isWord_16 ?_
    refine toe (z := nI ((sEd T (X 0) p) - p)) (pk_sub (by omega)) ?_
    refine lv_aload_n hz.1 hz.2.1 dX1_isWord_17 rfl (lv_at hl 1 rfl) ?_
    refine rdVS (A := wA (tw a k (kX T (X 0) p) T)) (As := []) (rest := [.int (nI ((sEd T (X 0) p) - p))]) hz (okAm tS sk sv) (cJ_len l_ D k tS sk sv i (by omega)) (cwV 0 hz.2.2.2.2 gX1_isWord_J0_length_8abf5 rfl rfl rfl (by decide +kernel) ⟨Nat.le_of_ble_eq_true rfl, Nat.le_of_ble_eq_true rfl⟩) hK hy hP0 hD00 hS (vk_recv hy.2.2.2.1 (by omega) hS) rfl hl.1 rfl (Nat.le_of_ble_eq_true rfl) dX1_isWord_18 ⟨Nat.zero_le _, Nat.zero_le _⟩ ?_
    refine jeq (tgt := 26) hz dX1_isWord_21 (by decide) (by omega) (by omega) (fun c_21 => ?_) (fun c_21 => ?_)
    · refine lv_iconst (v := nI 0) hz.1 hz.2.1 dX1_isWord_26 (by decide) ?_
      refine lv_istore_n (lv' := [(2, .int (nI 0)), (0, .ref (a 35)), (1, .ref (sk i))]) hz.1 hz.2.1 dX1_isWord_27 rfl hl (by decide) rfl (fun ls hl => ?_)
      have lp_28 : ∀ (fu : Nat) (j : Nat), (j ≤ wdLen.getD i 0) → (sAll (fun j => decide (T (p + j) = wdN i j)) j = true) → wdLen.getD i 0 - j < fu → ∀ ls : Array Slot, lv_has ls 3 [(0, .ref (a 35)), (1, .ref (sk i)), (2, .int (nI j))] → W p_ l_ e_ ({ frames := 4, cells := 0, slots := 0, locals := 85 }) s_ m_ [.ref (a 35), .ref (sk i)].toArray bl_ me_ c_ s_.heap [] 0 0 (MQ bl_ (QcRead (bI (sWd T (sKd T (X 0) p) (sEd T (X 0) p - p) p (wdN i) (wdLen.getD i 0)))) [.ref (a 35), .ref (sk i)].toArray s_ 0 0 (fun _ => False)) (F0 m_ 28 ls []) := by
        intro fu
        induction fu with
        | zero => intro j hj hn hm; exact absurd hm (Nat.not_lt_zero _)
        | succ fu ih28 =>
          intro j hj hn hm ls hl
          refine lv_iload_n hz.1 hz.2.1 dX1_isWord_28 rfl (lv_at hl 2 rfl) ?_
          refine lv_aload_n hz.1 hz.2.1 dX1_isWord_29 rfl (lv_at hl 1 rfl) ?_
          refine rdVS (A := wA (tw a k (kX T (X 0) p) T)) (As := []) (rest := [.int (nI j)]) hz (okAm tS sk sv) (cJ_len l_ D k tS sk sv i (by omega)) (cwV 0 hz.2.2.2.2 gX1_isWord_J0_length_8abf5 rfl rfl rfl (by decide +kernel) ⟨Nat.le_of_ble_eq_true rfl, Nat.le_of_ble_eq_true rfl⟩) hK hy hP0 hD00 hS (vk_recv hy.2.2.2.1 (by omega) hS) rfl hl.1 rfl (Nat.le_of_ble_eq_true rfl) dX1_isWord_30 ⟨Nat.zero_le _, Nat.zero_le _⟩ ?_
          refine jge (tgt := 63) hz dX1_isWord_33 (by decide) (by omega) (by omega) (fun c_33 => ?_) (fun c_33 => ?_)
          · have hje : j = wdLen.getD i 0 := by omega
            refine lv_iconst (v := nI 1) hz.1 hz.2.1 dX1_isWord_63 (by decide) ?_
            exact rd_zret hz hr hlk dX1_isWord_64 (bI_1 (by rw [hje] at hn; rw [sWd, decide_eq_true c_5, decide_eq_true c_21, hn]; rfl))
          · have h128 := wdN_lt i hi j (by omega)
            refine lv_aload_n hz.1 hz.2.1 dX1_isWord_36 rfl (lv_at hl 0 rfl) ?_
            refine rg (T := TX1) (N := 5) hz hinX1_isWord_X1 hK hP 0 rfl rfl 1 (by decide) (List.mem_of_getElem? (i := 4) rfl) rfl (v := .ref (a 36)) rfl dX1_isWord_37 ?_
            refine lv_aload_n hz.1 hz.2.1 dX1_isWord_40 rfl (lv_at hl 0 rfl) ?_
            refine rg (T := TX1) (N := 5) hz hinX1_isWord_X1 hK hP 0 rfl rfl 3 (by decide) (List.mem_of_getElem? (i := 3) rfl) rfl (v := .int (nI p)) rfl dX1_isWord_41 ?_
            refine lv_iload_n hz.1 hz.2.1 dX1_isWord_44 rfl (lv_at hl 2 rfl) ?_
            refine lv_iadd hz.1 hz.2.1 dX1_isWord_45 ?_
            refine toe (z := nI (p + j)) (nI_add _ _) ?_
            refine rbald hz hK hP 1 1 rfl rfl (i := (p + j)) (by omega) (by decide) (v := sb (T (p + j))) rfl dX1_isWord_46 ?_
            refine lv_aload_n hz.1 hz.2.1 dX1_isWord_47 rfl (lv_at hl 1 rfl) ?_
            refine lv_iload_n hz.1 hz.2.1 dX1_isWord_48 rfl (lv_at hl 2 rfl) ?_
            refine rdVS (A := wA (tw a k (kX T (X 0) p) T)) (As := [.int (nI j)]) (rest := [.int (sb (T (p + j)))]) hz (okAm tS sk sv) (cJ_at l_ D k tS sk sv i j (by omega) (by omega)) (cwV 1 hz.2.2.2.2 gX1_isWord_J0_charAt_5068e rfl rfl rfl (by decide +kernel) ⟨Nat.le_of_ble_eq_true rfl, Nat.le_of_ble_eq_true rfl⟩) hK hy hP0 hD00 hS (vk_recv hy.2.2.2.1 (by omega) hS) rfl hl.1 rfl (Nat.le_of_ble_eq_true rfl) dX1_isWord_49 ⟨Nat.zero_le _, Nat.zero_le _⟩ ?_
            refine lv_icmp_eq (tgt := 57) hz.1 hz.2.1 dX1_isWord_52 (by decide) (fun c_52 => ?_) (fun c_52 => ?_)
            · refine lv_iinc (v := nI (j + 1)) (lv' := [(2, .int (nI (j + 1))), (0, .ref (a 35)), (1, .ref (sk i))]) hz.1 hz.2.1 dX1_isWord_57 hl (k := 2) rfl (nI_add _ 1) (by decide) rfl (fun ls hl => ?_)
              refine lv_goto (tgt := 28) hz.1 hz.2.1 dX1_isWord_60 (by decide) ?_
              exact ih28 (j + 1) (by omega) (by simp only [sAll, hn, Bool.true_and]; exact decide_eq_true ((sb_eq (hT _) h128).mp c_52)) (by omega) ls (lv_sub hl [1, 2, 0] rfl)
            · refine lv_iconst (v := nI 0) hz.1 hz.2.1 dX1_isWord_55 (by decide) ?_
              exact rd_zret hz hr hlk dX1_isWord_56 (bI_0 (by rw [sWd, sAll_no9 (f := fun j => decide (T (p + j) = wdN i j)) (i := j) (decide_eq_false (fun z => c_52 ((sb_eq (hT _) h128).mpr z))) _ c_33, Bool.and_false]))
      exact lp_28 _ 0 (by omega) (rfl) (Nat.lt_succ_self _) ls (lv_sub hl [1, 2, 0] rfl)
    · refine lv_iconst (v := nI 0) hz.1 hz.2.1 dX1_isWord_24 (by decide) ?_
      exact rd_zret hz hr hlk dX1_isWord_25 (bI_0 (by rw [sWd, decide_eq_false c_21, Bool.and_false, Bool.false_and]))
